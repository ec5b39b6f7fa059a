section
-- ===== PART A: goes FIRST, ahead of the names: the tables' words, and 'selects' of the private methods out of them =====
/-- a private method of a class that the tables say can be made, by its rows of tables_1 -/
def lw_okq (q : MethodName × Nat) : Prop := (q.1.cls ≠ "java/lang/invoke/MethodHandle" ∧ q.1.cls ≠ "java/lang/invoke/VarHandle") ∧ Cond.instantiable q.1.cls q.2 ∈ tables_1 ∧ Cond.privateMethod q.1 ∈ tables_1 ∧ Cond.instanceMethod q.1 ∈ tables_1
theorem lw_p0 : lw_okq (⟨"QuorumLog", "askAll", "(LQuorumLog$Server;II)V"⟩, 3) := ⟨⟨by decide +kernel, by decide +kernel⟩, List.mem_of_getElem? (i := 19) (by decide +kernel), List.mem_of_getElem? (i := 283) (by decide +kernel), List.mem_of_getElem? (i := 284) (by decide +kernel)⟩
theorem lw_p1 : lw_okq (⟨"QuorumLog", "standIfMostSaidYes", "(LQuorumLog$Server;)V"⟩, 3) := ⟨⟨by decide +kernel, by decide +kernel⟩, List.mem_of_getElem? (i := 19) (by decide +kernel), List.mem_of_getElem? (i := 306) (by decide +kernel), List.mem_of_getElem? (i := 307) (by decide +kernel)⟩
theorem lw_p2 : lw_okq (⟨"QuorumLog", "leadIfMostSaidYes", "(LQuorumLog$Server;)V"⟩, 3) := ⟨⟨by decide +kernel, by decide +kernel⟩, List.mem_of_getElem? (i := 19) (by decide +kernel), List.mem_of_getElem? (i := 319) (by decide +kernel), List.mem_of_getElem? (i := 320) (by decide +kernel)⟩
theorem lw_p3 : lw_okq (⟨"QuorumLog", "append", "(LQuorumLog$Server;LQuorumLog$Entry;)I"⟩, 3) := ⟨⟨by decide +kernel, by decide +kernel⟩, List.mem_of_getElem? (i := 19) (by decide +kernel), List.mem_of_getElem? (i := 350) (by decide +kernel), List.mem_of_getElem? (i := 351) (by decide +kernel)⟩
theorem lw_p4 : lw_okq (⟨"QuorumLog", "lookAtCommit", "(LQuorumLog$Server;)V"⟩, 3) := ⟨⟨by decide +kernel, by decide +kernel⟩, List.mem_of_getElem? (i := 19) (by decide +kernel), List.mem_of_getElem? (i := 358) (by decide +kernel), List.mem_of_getElem? (i := 359) (by decide +kernel)⟩
theorem lw_p5 : lw_okq (⟨"QuorumLog$Server", "reachedBy", "([II)I"⟩, 13) := ⟨⟨by decide +kernel, by decide +kernel⟩, List.mem_of_getElem? (i := 83) (by decide +kernel), List.mem_of_getElem? (i := 367) (by decide +kernel), List.mem_of_getElem? (i := 368) (by decide +kernel)⟩
theorem lw_p6 : lw_okq (⟨"QuorumLog", "follow", "(LQuorumLog$Server;)V"⟩, 3) := ⟨⟨by decide +kernel, by decide +kernel⟩, List.mem_of_getElem? (i := 19) (by decide +kernel), List.mem_of_getElem? (i := 372) (by decide +kernel), List.mem_of_getElem? (i := 373) (by decide +kernel)⟩
theorem lw_p7 : lw_okq (⟨"QuorumLog", "sendToAll", "(LQuorumLog$Server;)V"⟩, 3) := ⟨⟨by decide +kernel, by decide +kernel⟩, List.mem_of_getElem? (i := 19) (by decide +kernel), List.mem_of_getElem? (i := 384) (by decide +kernel), List.mem_of_getElem? (i := 385) (by decide +kernel)⟩
theorem lw_p8 : lw_okq (⟨"QuorumLog", "sendTo", "(LQuorumLog$Server;I)V"⟩, 3) := ⟨⟨by decide +kernel, by decide +kernel⟩, List.mem_of_getElem? (i := 19) (by decide +kernel), List.mem_of_getElem? (i := 388) (by decide +kernel), List.mem_of_getElem? (i := 389) (by decide +kernel)⟩
theorem lw_p9 : lw_okq (⟨"QuorumLog", "come", "(LQuorumLog$Server;LQuorumLog$Message;)V"⟩, 3) := ⟨⟨by decide +kernel, by decide +kernel⟩, List.mem_of_getElem? (i := 19) (by decide +kernel), List.mem_of_getElem? (i := 454) (by decide +kernel), List.mem_of_getElem? (i := 455) (by decide +kernel)⟩
theorem lw_p10 : lw_okq (⟨"QuorumLog", "enterTerm", "(LQuorumLog$Server;I)V"⟩, 3) := ⟨⟨by decide +kernel, by decide +kernel⟩, List.mem_of_getElem? (i := 19) (by decide +kernel), List.mem_of_getElem? (i := 458) (by decide +kernel), List.mem_of_getElem? (i := 459) (by decide +kernel)⟩
theorem lw_p11 : lw_okq (⟨"QuorumLog", "questionComes", "(LQuorumLog$Server;LQuorumLog$Message;)V"⟩, 3) := ⟨⟨by decide +kernel, by decide +kernel⟩, List.mem_of_getElem? (i := 19) (by decide +kernel), List.mem_of_getElem? (i := 462) (by decide +kernel), List.mem_of_getElem? (i := 463) (by decide +kernel)⟩
theorem lw_p12 : lw_okq (⟨"QuorumLog", "answerComes", "(LQuorumLog$Server;LQuorumLog$Message;)V"⟩, 3) := ⟨⟨by decide +kernel, by decide +kernel⟩, List.mem_of_getElem? (i := 19) (by decide +kernel), List.mem_of_getElem? (i := 471) (by decide +kernel), List.mem_of_getElem? (i := 472) (by decide +kernel)⟩
theorem lw_p13 : lw_okq (⟨"QuorumLog", "callComes", "(LQuorumLog$Server;LQuorumLog$Message;)V"⟩, 3) := ⟨⟨by decide +kernel, by decide +kernel⟩, List.mem_of_getElem? (i := 19) (by decide +kernel), List.mem_of_getElem? (i := 475) (by decide +kernel), List.mem_of_getElem? (i := 476) (by decide +kernel)⟩
theorem lw_p14 : lw_okq (⟨"QuorumLog", "voteComes", "(LQuorumLog$Server;LQuorumLog$Message;)V"⟩, 3) := ⟨⟨by decide +kernel, by decide +kernel⟩, List.mem_of_getElem? (i := 19) (by decide +kernel), List.mem_of_getElem? (i := 479) (by decide +kernel), List.mem_of_getElem? (i := 480) (by decide +kernel)⟩
theorem lw_p15 : lw_okq (⟨"QuorumLog", "appendComes", "(LQuorumLog$Server;LQuorumLog$Message;)V"⟩, 3) := ⟨⟨by decide +kernel, by decide +kernel⟩, List.mem_of_getElem? (i := 19) (by decide +kernel), List.mem_of_getElem? (i := 483) (by decide +kernel), List.mem_of_getElem? (i := 484) (by decide +kernel)⟩
def lw_privs_1 : List (MethodName × Nat) := [(⟨"QuorumLog", "askAll", "(LQuorumLog$Server;II)V"⟩, 3), (⟨"QuorumLog", "standIfMostSaidYes", "(LQuorumLog$Server;)V"⟩, 3), (⟨"QuorumLog", "leadIfMostSaidYes", "(LQuorumLog$Server;)V"⟩, 3), (⟨"QuorumLog", "append", "(LQuorumLog$Server;LQuorumLog$Entry;)I"⟩, 3), (⟨"QuorumLog", "lookAtCommit", "(LQuorumLog$Server;)V"⟩, 3), (⟨"QuorumLog$Server", "reachedBy", "([II)I"⟩, 13), (⟨"QuorumLog", "follow", "(LQuorumLog$Server;)V"⟩, 3), (⟨"QuorumLog", "sendToAll", "(LQuorumLog$Server;)V"⟩, 3), (⟨"QuorumLog", "sendTo", "(LQuorumLog$Server;I)V"⟩, 3), (⟨"QuorumLog", "come", "(LQuorumLog$Server;LQuorumLog$Message;)V"⟩, 3), (⟨"QuorumLog", "enterTerm", "(LQuorumLog$Server;I)V"⟩, 3), (⟨"QuorumLog", "questionComes", "(LQuorumLog$Server;LQuorumLog$Message;)V"⟩, 3), (⟨"QuorumLog", "answerComes", "(LQuorumLog$Server;LQuorumLog$Message;)V"⟩, 3), (⟨"QuorumLog", "callComes", "(LQuorumLog$Server;LQuorumLog$Message;)V"⟩, 3), (⟨"QuorumLog", "voteComes", "(LQuorumLog$Server;LQuorumLog$Message;)V"⟩, 3), (⟨"QuorumLog", "appendComes", "(LQuorumLog$Server;LQuorumLog$Message;)V"⟩, 3)]
theorem lw_r1 : ∀ q ∈ lw_privs_1, lw_okq q := List.forall_mem_cons.mpr ⟨lw_p0, List.forall_mem_cons.mpr ⟨lw_p1, List.forall_mem_cons.mpr ⟨lw_p2, List.forall_mem_cons.mpr ⟨lw_p3, List.forall_mem_cons.mpr ⟨lw_p4, List.forall_mem_cons.mpr ⟨lw_p5, List.forall_mem_cons.mpr ⟨lw_p6, List.forall_mem_cons.mpr ⟨lw_p7, List.forall_mem_cons.mpr ⟨lw_p8, List.forall_mem_cons.mpr ⟨lw_p9, List.forall_mem_cons.mpr ⟨lw_p10, List.forall_mem_cons.mpr ⟨lw_p11, List.forall_mem_cons.mpr ⟨lw_p12, List.forall_mem_cons.mpr ⟨lw_p13, List.forall_mem_cons.mpr ⟨lw_p14, List.forall_mem_cons.mpr ⟨lw_p15, fun _ h => absurd h List.not_mem_nil⟩⟩⟩⟩⟩⟩⟩⟩⟩⟩⟩⟩⟩⟩⟩⟩
theorem lw_p16 : lw_okq (⟨"QuorumLog", "sendResult", "(LQuorumLog$Server;IZII)V"⟩, 3) := ⟨⟨by decide +kernel, by decide +kernel⟩, List.mem_of_getElem? (i := 19) (by decide +kernel), List.mem_of_getElem? (i := 487) (by decide +kernel), List.mem_of_getElem? (i := 488) (by decide +kernel)⟩
theorem lw_p17 : lw_okq (⟨"QuorumLog$Log", "hasOrTakes", "(ILQuorumLog$Entry;)Z"⟩, 3) := ⟨⟨by decide +kernel, by decide +kernel⟩, List.mem_of_getElem? (i := 89) (by decide +kernel), List.mem_of_getElem? (i := 505) (by decide +kernel), List.mem_of_getElem? (i := 506) (by decide +kernel)⟩
theorem lw_p18 : lw_okq (⟨"QuorumLog", "resultComes", "(LQuorumLog$Server;LQuorumLog$Message;)V"⟩, 3) := ⟨⟨by decide +kernel, by decide +kernel⟩, List.mem_of_getElem? (i := 19) (by decide +kernel), List.mem_of_getElem? (i := 514) (by decide +kernel), List.mem_of_getElem? (i := 515) (by decide +kernel)⟩
theorem lw_p19 : lw_okq (⟨"QuorumLog", "lookAtReads", "(LQuorumLog$Server;)V"⟩, 3) := ⟨⟨by decide +kernel, by decide +kernel⟩, List.mem_of_getElem? (i := 19) (by decide +kernel), List.mem_of_getElem? (i := 518) (by decide +kernel), List.mem_of_getElem? (i := 519) (by decide +kernel)⟩
theorem lw_p20 : lw_okq (⟨"QuorumLog", "installComes", "(LQuorumLog$Server;LQuorumLog$Message;)V"⟩, 3) := ⟨⟨by decide +kernel, by decide +kernel⟩, List.mem_of_getElem? (i := 19) (by decide +kernel), List.mem_of_getElem? (i := 532) (by decide +kernel), List.mem_of_getElem? (i := 533) (by decide +kernel)⟩
theorem lw_p21 : lw_okq (⟨"QuorumLog", "leaderFor", "(II)LQuorumLog$Server;"⟩, 3) := ⟨⟨by decide +kernel, by decide +kernel⟩, List.mem_of_getElem? (i := 19) (by decide +kernel), List.mem_of_getElem? (i := 577) (by decide +kernel), List.mem_of_getElem? (i := 578) (by decide +kernel)⟩
theorem lw_p22 : lw_okq (⟨"java/lang/Throwable", "fillInStackTrace", "(I)Ljava/lang/Throwable;"⟩, 6) := ⟨⟨by decide +kernel, by decide +kernel⟩, List.mem_of_getElem? (i := 619) (by decide +kernel), List.mem_of_getElem? (i := 617) (by decide +kernel), List.mem_of_getElem? (i := 618) (by decide +kernel)⟩
theorem lw_p23 : lw_okq (⟨"QuorumLogModel", "isMine", "(I)Z"⟩, 30) := ⟨⟨by decide +kernel, by decide +kernel⟩, List.mem_of_getElem? (i := 712) (by decide +kernel), List.mem_of_getElem? (i := 821) (by decide +kernel), List.mem_of_getElem? (i := 822) (by decide +kernel)⟩
theorem lw_p24 : lw_okq (⟨"QuorumLogModel", "config", "(I)I"⟩, 30) := ⟨⟨by decide +kernel, by decide +kernel⟩, List.mem_of_getElem? (i := 712) (by decide +kernel), List.mem_of_getElem? (i := 825) (by decide +kernel), List.mem_of_getElem? (i := 826) (by decide +kernel)⟩
theorem lw_p25 : lw_okq (⟨"QuorumLogModel", "last", "(I)I"⟩, 30) := ⟨⟨by decide +kernel, by decide +kernel⟩, List.mem_of_getElem? (i := 712) (by decide +kernel), List.mem_of_getElem? (i := 829) (by decide +kernel), List.mem_of_getElem? (i := 830) (by decide +kernel)⟩
theorem lw_p26 : lw_okq (⟨"QuorumLogModel", "membersAt", "(II)I"⟩, 30) := ⟨⟨by decide +kernel, by decide +kernel⟩, List.mem_of_getElem? (i := 712) (by decide +kernel), List.mem_of_getElem? (i := 833) (by decide +kernel), List.mem_of_getElem? (i := 834) (by decide +kernel)⟩
theorem lw_p27 : lw_okq (⟨"QuorumLogModel", "latestMembers", "(II)I"⟩, 30) := ⟨⟨by decide +kernel, by decide +kernel⟩, List.mem_of_getElem? (i := 712) (by decide +kernel), List.mem_of_getElem? (i := 837) (by decide +kernel), List.mem_of_getElem? (i := 838) (by decide +kernel)⟩
theorem lw_p28 : lw_okq (⟨"QuorumLogModel", "cell", "(II)I"⟩, 30) := ⟨⟨by decide +kernel, by decide +kernel⟩, List.mem_of_getElem? (i := 712) (by decide +kernel), List.mem_of_getElem? (i := 841) (by decide +kernel), List.mem_of_getElem? (i := 842) (by decide +kernel)⟩
theorem lw_p29 : lw_okq (⟨"QuorumLogModel", "askAll", "(III)V"⟩, 30) := ⟨⟨by decide +kernel, by decide +kernel⟩, List.mem_of_getElem? (i := 712) (by decide +kernel), List.mem_of_getElem? (i := 845) (by decide +kernel), List.mem_of_getElem? (i := 846) (by decide +kernel)⟩
theorem lw_p30 : lw_okq (⟨"QuorumLogModel", "begin", "(IIII)V"⟩, 30) := ⟨⟨by decide +kernel, by decide +kernel⟩, List.mem_of_getElem? (i := 712) (by decide +kernel), List.mem_of_getElem? (i := 849) (by decide +kernel), List.mem_of_getElem? (i := 850) (by decide +kernel)⟩
theorem lw_p31 : lw_okq (⟨"QuorumLogModel", "lastTerm", "(I)I"⟩, 30) := ⟨⟨by decide +kernel, by decide +kernel⟩, List.mem_of_getElem? (i := 712) (by decide +kernel), List.mem_of_getElem? (i := 853) (by decide +kernel), List.mem_of_getElem? (i := 854) (by decide +kernel)⟩
def lw_privs_2 : List (MethodName × Nat) := [(⟨"QuorumLog", "sendResult", "(LQuorumLog$Server;IZII)V"⟩, 3), (⟨"QuorumLog$Log", "hasOrTakes", "(ILQuorumLog$Entry;)Z"⟩, 3), (⟨"QuorumLog", "resultComes", "(LQuorumLog$Server;LQuorumLog$Message;)V"⟩, 3), (⟨"QuorumLog", "lookAtReads", "(LQuorumLog$Server;)V"⟩, 3), (⟨"QuorumLog", "installComes", "(LQuorumLog$Server;LQuorumLog$Message;)V"⟩, 3), (⟨"QuorumLog", "leaderFor", "(II)LQuorumLog$Server;"⟩, 3), (⟨"java/lang/Throwable", "fillInStackTrace", "(I)Ljava/lang/Throwable;"⟩, 6), (⟨"QuorumLogModel", "isMine", "(I)Z"⟩, 30), (⟨"QuorumLogModel", "config", "(I)I"⟩, 30), (⟨"QuorumLogModel", "last", "(I)I"⟩, 30), (⟨"QuorumLogModel", "membersAt", "(II)I"⟩, 30), (⟨"QuorumLogModel", "latestMembers", "(II)I"⟩, 30), (⟨"QuorumLogModel", "cell", "(II)I"⟩, 30), (⟨"QuorumLogModel", "askAll", "(III)V"⟩, 30), (⟨"QuorumLogModel", "begin", "(IIII)V"⟩, 30), (⟨"QuorumLogModel", "lastTerm", "(I)I"⟩, 30)]
theorem lw_r2 : ∀ q ∈ lw_privs_2, lw_okq q := List.forall_mem_cons.mpr ⟨lw_p16, List.forall_mem_cons.mpr ⟨lw_p17, List.forall_mem_cons.mpr ⟨lw_p18, List.forall_mem_cons.mpr ⟨lw_p19, List.forall_mem_cons.mpr ⟨lw_p20, List.forall_mem_cons.mpr ⟨lw_p21, List.forall_mem_cons.mpr ⟨lw_p22, List.forall_mem_cons.mpr ⟨lw_p23, List.forall_mem_cons.mpr ⟨lw_p24, List.forall_mem_cons.mpr ⟨lw_p25, List.forall_mem_cons.mpr ⟨lw_p26, List.forall_mem_cons.mpr ⟨lw_p27, List.forall_mem_cons.mpr ⟨lw_p28, List.forall_mem_cons.mpr ⟨lw_p29, List.forall_mem_cons.mpr ⟨lw_p30, List.forall_mem_cons.mpr ⟨lw_p31, fun _ h => absurd h List.not_mem_nil⟩⟩⟩⟩⟩⟩⟩⟩⟩⟩⟩⟩⟩⟩⟩⟩
theorem lw_p32 : lw_okq (⟨"QuorumLogModel", "termAt", "(II)I"⟩, 30) := ⟨⟨by decide +kernel, by decide +kernel⟩, List.mem_of_getElem? (i := 712) (by decide +kernel), List.mem_of_getElem? (i := 857) (by decide +kernel), List.mem_of_getElem? (i := 858) (by decide +kernel)⟩
theorem lw_p33 : lw_okq (⟨"QuorumLogModel", "post", "()V"⟩, 30) := ⟨⟨by decide +kernel, by decide +kernel⟩, List.mem_of_getElem? (i := 712) (by decide +kernel), List.mem_of_getElem? (i := 861) (by decide +kernel), List.mem_of_getElem? (i := 862) (by decide +kernel)⟩
theorem lw_p34 : lw_okq (⟨"QuorumLogModel", "weigh", "(I)V"⟩, 30) := ⟨⟨by decide +kernel, by decide +kernel⟩, List.mem_of_getElem? (i := 712) (by decide +kernel), List.mem_of_getElem? (i := 865) (by decide +kernel), List.mem_of_getElem? (i := 866) (by decide +kernel)⟩
theorem lw_p35 : lw_okq (⟨"QuorumLogModel", "most", "(II)Z"⟩, 30) := ⟨⟨by decide +kernel, by decide +kernel⟩, List.mem_of_getElem? (i := 712) (by decide +kernel), List.mem_of_getElem? (i := 869) (by decide +kernel), List.mem_of_getElem? (i := 870) (by decide +kernel)⟩
theorem lw_p36 : lw_okq (⟨"QuorumLogModel", "lead", "(I)V"⟩, 30) := ⟨⟨by decide +kernel, by decide +kernel⟩, List.mem_of_getElem? (i := 712) (by decide +kernel), List.mem_of_getElem? (i := 876) (by decide +kernel), List.mem_of_getElem? (i := 877) (by decide +kernel)⟩
theorem lw_p37 : lw_okq (⟨"QuorumLogModel", "append", "(IIII)I"⟩, 30) := ⟨⟨by decide +kernel, by decide +kernel⟩, List.mem_of_getElem? (i := 712) (by decide +kernel), List.mem_of_getElem? (i := 880) (by decide +kernel), List.mem_of_getElem? (i := 881) (by decide +kernel)⟩
theorem lw_p38 : lw_okq (⟨"QuorumLogModel", "push", "(IIIII)V"⟩, 30) := ⟨⟨by decide +kernel, by decide +kernel⟩, List.mem_of_getElem? (i := 712) (by decide +kernel), List.mem_of_getElem? (i := 884) (by decide +kernel), List.mem_of_getElem? (i := 885) (by decide +kernel)⟩
theorem lw_p39 : lw_okq (⟨"QuorumLogModel", "lookAtCommit", "(I)V"⟩, 30) := ⟨⟨by decide +kernel, by decide +kernel⟩, List.mem_of_getElem? (i := 712) (by decide +kernel), List.mem_of_getElem? (i := 888) (by decide +kernel), List.mem_of_getElem? (i := 889) (by decide +kernel)⟩
theorem lw_p40 : lw_okq (⟨"QuorumLogModel", "having", "(II)I"⟩, 30) := ⟨⟨by decide +kernel, by decide +kernel⟩, List.mem_of_getElem? (i := 712) (by decide +kernel), List.mem_of_getElem? (i := 892) (by decide +kernel), List.mem_of_getElem? (i := 893) (by decide +kernel)⟩
theorem lw_p41 : lw_okq (⟨"QuorumLogModel", "follow", "(I)V"⟩, 30) := ⟨⟨by decide +kernel, by decide +kernel⟩, List.mem_of_getElem? (i := 712) (by decide +kernel), List.mem_of_getElem? (i := 896) (by decide +kernel), List.mem_of_getElem? (i := 897) (by decide +kernel)⟩
theorem lw_p42 : lw_okq (⟨"QuorumLogModel", "sendAll", "(I)V"⟩, 30) := ⟨⟨by decide +kernel, by decide +kernel⟩, List.mem_of_getElem? (i := 712) (by decide +kernel), List.mem_of_getElem? (i := 900) (by decide +kernel), List.mem_of_getElem? (i := 901) (by decide +kernel)⟩
theorem lw_p43 : lw_okq (⟨"QuorumLogModel", "sendTo", "(II)V"⟩, 30) := ⟨⟨by decide +kernel, by decide +kernel⟩, List.mem_of_getElem? (i := 712) (by decide +kernel), List.mem_of_getElem? (i := 904) (by decide +kernel), List.mem_of_getElem? (i := 905) (by decide +kernel)⟩
theorem lw_p44 : lw_okq (⟨"QuorumLogModel", "leads", "(I)Z"⟩, 30) := ⟨⟨by decide +kernel, by decide +kernel⟩, List.mem_of_getElem? (i := 712) (by decide +kernel), List.mem_of_getElem? (i := 912) (by decide +kernel), List.mem_of_getElem? (i := 913) (by decide +kernel)⟩
theorem lw_p45 : lw_okq (⟨"QuorumLogModel", "fail", "(I)I"⟩, 30) := ⟨⟨by decide +kernel, by decide +kernel⟩, List.mem_of_getElem? (i := 712) (by decide +kernel), List.mem_of_getElem? (i := 923) (by decide +kernel), List.mem_of_getElem? (i := 924) (by decide +kernel)⟩
theorem lw_p46 : lw_okq (⟨"QuorumLogModel", "isOld", "(I)Z"⟩, 30) := ⟨⟨by decide +kernel, by decide +kernel⟩, List.mem_of_getElem? (i := 712) (by decide +kernel), List.mem_of_getElem? (i := 931) (by decide +kernel), List.mem_of_getElem? (i := 932) (by decide +kernel)⟩
theorem lw_p47 : lw_okq (⟨"QuorumLogModel", "lookAtReads", "(I)V"⟩, 30) := ⟨⟨by decide +kernel, by decide +kernel⟩, List.mem_of_getElem? (i := 712) (by decide +kernel), List.mem_of_getElem? (i := 939) (by decide +kernel), List.mem_of_getElem? (i := 940) (by decide +kernel)⟩
def lw_privs_3 : List (MethodName × Nat) := [(⟨"QuorumLogModel", "termAt", "(II)I"⟩, 30), (⟨"QuorumLogModel", "post", "()V"⟩, 30), (⟨"QuorumLogModel", "weigh", "(I)V"⟩, 30), (⟨"QuorumLogModel", "most", "(II)Z"⟩, 30), (⟨"QuorumLogModel", "lead", "(I)V"⟩, 30), (⟨"QuorumLogModel", "append", "(IIII)I"⟩, 30), (⟨"QuorumLogModel", "push", "(IIIII)V"⟩, 30), (⟨"QuorumLogModel", "lookAtCommit", "(I)V"⟩, 30), (⟨"QuorumLogModel", "having", "(II)I"⟩, 30), (⟨"QuorumLogModel", "follow", "(I)V"⟩, 30), (⟨"QuorumLogModel", "sendAll", "(I)V"⟩, 30), (⟨"QuorumLogModel", "sendTo", "(II)V"⟩, 30), (⟨"QuorumLogModel", "leads", "(I)Z"⟩, 30), (⟨"QuorumLogModel", "fail", "(I)I"⟩, 30), (⟨"QuorumLogModel", "isOld", "(I)Z"⟩, 30), (⟨"QuorumLogModel", "lookAtReads", "(I)V"⟩, 30)]
theorem lw_r3 : ∀ q ∈ lw_privs_3, lw_okq q := List.forall_mem_cons.mpr ⟨lw_p32, List.forall_mem_cons.mpr ⟨lw_p33, List.forall_mem_cons.mpr ⟨lw_p34, List.forall_mem_cons.mpr ⟨lw_p35, List.forall_mem_cons.mpr ⟨lw_p36, List.forall_mem_cons.mpr ⟨lw_p37, List.forall_mem_cons.mpr ⟨lw_p38, List.forall_mem_cons.mpr ⟨lw_p39, List.forall_mem_cons.mpr ⟨lw_p40, List.forall_mem_cons.mpr ⟨lw_p41, List.forall_mem_cons.mpr ⟨lw_p42, List.forall_mem_cons.mpr ⟨lw_p43, List.forall_mem_cons.mpr ⟨lw_p44, List.forall_mem_cons.mpr ⟨lw_p45, List.forall_mem_cons.mpr ⟨lw_p46, List.forall_mem_cons.mpr ⟨lw_p47, fun _ h => absurd h List.not_mem_nil⟩⟩⟩⟩⟩⟩⟩⟩⟩⟩⟩⟩⟩⟩⟩⟩
theorem lw_p48 : lw_okq (⟨"QuorumLogModel", "valueAt", "(III)I"⟩, 30) := ⟨⟨by decide +kernel, by decide +kernel⟩, List.mem_of_getElem? (i := 712) (by decide +kernel), List.mem_of_getElem? (i := 943) (by decide +kernel), List.mem_of_getElem? (i := 944) (by decide +kernel)⟩
theorem lw_p49 : lw_okq (⟨"QuorumLogModel", "shift", "(II)V"⟩, 30) := ⟨⟨by decide +kernel, by decide +kernel⟩, List.mem_of_getElem? (i := 712) (by decide +kernel), List.mem_of_getElem? (i := 959) (by decide +kernel), List.mem_of_getElem? (i := 960) (by decide +kernel)⟩
theorem lw_p50 : lw_okq (⟨"QuorumLogModel", "takeOut", "(I)V"⟩, 30) := ⟨⟨by decide +kernel, by decide +kernel⟩, List.mem_of_getElem? (i := 712) (by decide +kernel), List.mem_of_getElem? (i := 975) (by decide +kernel), List.mem_of_getElem? (i := 976) (by decide +kernel)⟩
theorem lw_p51 : lw_okq (⟨"QuorumLogModel", "newTerm", "(II)V"⟩, 30) := ⟨⟨by decide +kernel, by decide +kernel⟩, List.mem_of_getElem? (i := 712) (by decide +kernel), List.mem_of_getElem? (i := 979) (by decide +kernel), List.mem_of_getElem? (i := 980) (by decide +kernel)⟩
theorem lw_p52 : lw_okq (⟨"QuorumLogModel", "question", "(III)V"⟩, 30) := ⟨⟨by decide +kernel, by decide +kernel⟩, List.mem_of_getElem? (i := 712) (by decide +kernel), List.mem_of_getElem? (i := 983) (by decide +kernel), List.mem_of_getElem? (i := 984) (by decide +kernel)⟩
theorem lw_p53 : lw_okq (⟨"QuorumLogModel", "liesBefore", "(III)Z"⟩, 30) := ⟨⟨by decide +kernel, by decide +kernel⟩, List.mem_of_getElem? (i := 712) (by decide +kernel), List.mem_of_getElem? (i := 987) (by decide +kernel), List.mem_of_getElem? (i := 988) (by decide +kernel)⟩
theorem lw_p54 : lw_okq (⟨"QuorumLogModel", "reply", "(IIIZI)V"⟩, 30) := ⟨⟨by decide +kernel, by decide +kernel⟩, List.mem_of_getElem? (i := 712) (by decide +kernel), List.mem_of_getElem? (i := 991) (by decide +kernel), List.mem_of_getElem? (i := 992) (by decide +kernel)⟩
theorem lw_p55 : lw_okq (⟨"QuorumLogModel", "answered", "(III)V"⟩, 30) := ⟨⟨by decide +kernel, by decide +kernel⟩, List.mem_of_getElem? (i := 712) (by decide +kernel), List.mem_of_getElem? (i := 995) (by decide +kernel), List.mem_of_getElem? (i := 996) (by decide +kernel)⟩
theorem lw_p56 : lw_okq (⟨"QuorumLogModel", "called", "(III)V"⟩, 30) := ⟨⟨by decide +kernel, by decide +kernel⟩, List.mem_of_getElem? (i := 712) (by decide +kernel), List.mem_of_getElem? (i := 999) (by decide +kernel), List.mem_of_getElem? (i := 1000) (by decide +kernel)⟩
theorem lw_p57 : lw_okq (⟨"QuorumLogModel", "voted", "(III)V"⟩, 30) := ⟨⟨by decide +kernel, by decide +kernel⟩, List.mem_of_getElem? (i := 712) (by decide +kernel), List.mem_of_getElem? (i := 1003) (by decide +kernel), List.mem_of_getElem? (i := 1004) (by decide +kernel)⟩
theorem lw_p58 : lw_okq (⟨"QuorumLogModel", "appended", "(II)V"⟩, 30) := ⟨⟨by decide +kernel, by decide +kernel⟩, List.mem_of_getElem? (i := 712) (by decide +kernel), List.mem_of_getElem? (i := 1007) (by decide +kernel), List.mem_of_getElem? (i := 1008) (by decide +kernel)⟩
theorem lw_p59 : lw_okq (⟨"QuorumLogModel", "result", "(IIZII)V"⟩, 30) := ⟨⟨by decide +kernel, by decide +kernel⟩, List.mem_of_getElem? (i := 712) (by decide +kernel), List.mem_of_getElem? (i := 1011) (by decide +kernel), List.mem_of_getElem? (i := 1012) (by decide +kernel)⟩
theorem lw_p60 : lw_okq (⟨"QuorumLogModel", "takeEntry", "(III)Z"⟩, 30) := ⟨⟨by decide +kernel, by decide +kernel⟩, List.mem_of_getElem? (i := 712) (by decide +kernel), List.mem_of_getElem? (i := 1015) (by decide +kernel), List.mem_of_getElem? (i := 1016) (by decide +kernel)⟩
theorem lw_p61 : lw_okq (⟨"QuorumLogModel", "resulted", "(II)V"⟩, 30) := ⟨⟨by decide +kernel, by decide +kernel⟩, List.mem_of_getElem? (i := 712) (by decide +kernel), List.mem_of_getElem? (i := 1019) (by decide +kernel), List.mem_of_getElem? (i := 1020) (by decide +kernel)⟩
theorem lw_p62 : lw_okq (⟨"QuorumLogModel", "installed", "(II)V"⟩, 30) := ⟨⟨by decide +kernel, by decide +kernel⟩, List.mem_of_getElem? (i := 712) (by decide +kernel), List.mem_of_getElem? (i := 1023) (by decide +kernel), List.mem_of_getElem? (i := 1024) (by decide +kernel)⟩
def lw_privs_4 : List (MethodName × Nat) := [(⟨"QuorumLogModel", "valueAt", "(III)I"⟩, 30), (⟨"QuorumLogModel", "shift", "(II)V"⟩, 30), (⟨"QuorumLogModel", "takeOut", "(I)V"⟩, 30), (⟨"QuorumLogModel", "newTerm", "(II)V"⟩, 30), (⟨"QuorumLogModel", "question", "(III)V"⟩, 30), (⟨"QuorumLogModel", "liesBefore", "(III)Z"⟩, 30), (⟨"QuorumLogModel", "reply", "(IIIZI)V"⟩, 30), (⟨"QuorumLogModel", "answered", "(III)V"⟩, 30), (⟨"QuorumLogModel", "called", "(III)V"⟩, 30), (⟨"QuorumLogModel", "voted", "(III)V"⟩, 30), (⟨"QuorumLogModel", "appended", "(II)V"⟩, 30), (⟨"QuorumLogModel", "result", "(IIZII)V"⟩, 30), (⟨"QuorumLogModel", "takeEntry", "(III)Z"⟩, 30), (⟨"QuorumLogModel", "resulted", "(II)V"⟩, 30), (⟨"QuorumLogModel", "installed", "(II)V"⟩, 30)]
theorem lw_r4 : ∀ q ∈ lw_privs_4, lw_okq q := List.forall_mem_cons.mpr ⟨lw_p48, List.forall_mem_cons.mpr ⟨lw_p49, List.forall_mem_cons.mpr ⟨lw_p50, List.forall_mem_cons.mpr ⟨lw_p51, List.forall_mem_cons.mpr ⟨lw_p52, List.forall_mem_cons.mpr ⟨lw_p53, List.forall_mem_cons.mpr ⟨lw_p54, List.forall_mem_cons.mpr ⟨lw_p55, List.forall_mem_cons.mpr ⟨lw_p56, List.forall_mem_cons.mpr ⟨lw_p57, List.forall_mem_cons.mpr ⟨lw_p58, List.forall_mem_cons.mpr ⟨lw_p59, List.forall_mem_cons.mpr ⟨lw_p60, List.forall_mem_cons.mpr ⟨lw_p61, List.forall_mem_cons.mpr ⟨lw_p62, fun _ h => absurd h List.not_mem_nil⟩⟩⟩⟩⟩⟩⟩⟩⟩⟩⟩⟩⟩⟩⟩
def lw_privs : List (MethodName × Nat) := lw_privs_1 ++ (lw_privs_2 ++ (lw_privs_3 ++ (lw_privs_4)))
def lw_tbl : List Cond := k2_sels lw_privs ++ tables_1
theorem lw_privs_ok : ∀ q ∈ lw_privs, lw_okq q := by
  show ∀ q ∈ lw_privs_1 ++ (lw_privs_2 ++ (lw_privs_3 ++ (lw_privs_4))), lw_okq q
  exact List.forall_mem_append.mpr ⟨lw_r1, List.forall_mem_append.mpr ⟨lw_r2, List.forall_mem_append.mpr ⟨lw_r3, lw_r4⟩⟩⟩
end
section
/-! names: classes, fields, methods, words (by wip/whole/gen_names.py) -/
def qu_W : List Cond := lw_tbl.filter goodWord
theorem qu_good : ∀ w ∈ qu_W, (w.onTables && w.keeps) = true ∨ ∃ ty, w = .arrayClass ty := fun w hw => good_of_word (List.mem_filter.mp hw).2
theorem qu_in {w : Cond} (i : Nat) (h : tables_1[i]? = some w) (hg : goodWord w = true) : w ∈ qu_W := List.mem_filter.mpr ⟨List.mem_append_right _ (List.mem_of_getElem? h), hg⟩
theorem qu_is {w : Cond} (i : Nat) (h : (k2_sels lw_privs)[i]? = some w) (hg : goodWord w = true) : w ∈ qu_W := List.mem_filter.mpr ⟨List.mem_append_left _ (List.mem_of_getElem? h), hg⟩
def T_Q : u_T := fun k => match k with
  | 0 => ("QuorumLog", "servers", "[LQuorumLog$Server;", true)
  | 1 => ("QuorumLog", "row", "LQuorumLog$Row;", true)
  | _ => ("QuorumLog", "reads", "LQuorumLog$Reads;", true)
def t_Q : Nat → FieldType := fun k => match k with
  | 0 => .array (.object "QuorumLog$Server")
  | 1 => .object "QuorumLog$Row"
  | _ => .object "QuorumLog$Reads"
theorem n_Q : ∀ x, x < 3 → ∀ y, y < 3 → x ≠ y → (T_Q x).2.1 ≠ (T_Q y).2.1 := by decide +kernel
theorem k_Q : ∀ j, j < 3 → parseFieldDescriptor (T_Q j).2.2.1 = some (t_Q j) := by decide +kernel
def T_E : u_T := fun k => match k with
  | 0 => ("QuorumLog$Entry", "term", "I", true)
  | 1 => ("QuorumLog$Entry", "sort", "I", true)
  | 2 => ("QuorumLog$Entry", "subject", "I", true)
  | _ => ("QuorumLog$Entry", "value", "I", true)
def t_E : Nat → FieldType := fun k => match k with
  | 0 => .int
  | 1 => .int
  | 2 => .int
  | _ => .int
theorem n_E : ∀ x, x < 4 → ∀ y, y < 4 → x ≠ y → (T_E x).2.1 ≠ (T_E y).2.1 := by decide +kernel
theorem k_E : ∀ j, j < 4 → parseFieldDescriptor (T_E j).2.2.1 = some (t_E j) := by decide +kernel
def T_L : u_T := fun k => match k with
  | 0 => ("QuorumLog$Log", "snapshot", "LQuorumLog$Snapshot;", false)
  | 1 => ("QuorumLog$Log", "entries", "[LQuorumLog$Entry;", true)
  | _ => ("QuorumLog$Log", "count", "I", false)
def t_L : Nat → FieldType := fun k => match k with
  | 0 => .object "QuorumLog$Snapshot"
  | 1 => .array (.object "QuorumLog$Entry")
  | _ => .int
theorem n_L : ∀ x, x < 3 → ∀ y, y < 3 → x ≠ y → (T_L x).2.1 ≠ (T_L y).2.1 := by decide +kernel
theorem k_L : ∀ j, j < 3 → parseFieldDescriptor (T_L j).2.2.1 = some (t_L j) := by decide +kernel
def T_M : u_T := fun k => match k with
  | 0 => ("QuorumLog$Message", "entries", "[LQuorumLog$Entry;", true)
  | 1 => ("QuorumLog$Message", "kind", "I", false)
  | 2 => ("QuorumLog$Message", "sender", "I", false)
  | 3 => ("QuorumLog$Message", "receiver", "I", false)
  | 4 => ("QuorumLog$Message", "term", "I", false)
  | 5 => ("QuorumLog$Message", "index", "I", false)
  | 6 => ("QuorumLog$Message", "logTerm", "I", false)
  | 7 => ("QuorumLog$Message", "size", "I", false)
  | 8 => ("QuorumLog$Message", "commit", "I", false)
  | 9 => ("QuorumLog$Message", "round", "I", false)
  | 10 => ("QuorumLog$Message", "yes", "Z", false)
  | _ => ("QuorumLog$Message", "snapshot", "LQuorumLog$Snapshot;", false)
def t_M : Nat → FieldType := fun k => match k with
  | 0 => .array (.object "QuorumLog$Entry")
  | 1 => .int
  | 2 => .int
  | 3 => .int
  | 4 => .int
  | 5 => .int
  | 6 => .int
  | 7 => .int
  | 8 => .int
  | 9 => .int
  | 10 => .boolean
  | _ => .object "QuorumLog$Snapshot"
theorem n_M : ∀ x, x < 12 → ∀ y, y < 12 → x ≠ y → (T_M x).2.1 ≠ (T_M y).2.1 := by decide +kernel
theorem k_M : ∀ j, j < 12 → parseFieldDescriptor (T_M j).2.2.1 = some (t_M j) := by decide +kernel
def T_R : u_T := fun k => match k with
  | 0 => ("QuorumLog$Reads", "leaders", "[I", true)
  | 1 => ("QuorumLog$Reads", "keys", "[I", true)
  | 2 => ("QuorumLog$Reads", "rounds", "[I", true)
  | 3 => ("QuorumLog$Reads", "outcomes", "[I", true)
  | 4 => ("QuorumLog$Reads", "answers", "[I", true)
  | _ => ("QuorumLog$Reads", "count", "I", false)
def t_R : Nat → FieldType := fun k => match k with
  | 0 => .array .int
  | 1 => .array .int
  | 2 => .array .int
  | 3 => .array .int
  | 4 => .array .int
  | _ => .int
theorem n_R : ∀ x, x < 6 → ∀ y, y < 6 → x ≠ y → (T_R x).2.1 ≠ (T_R y).2.1 := by decide +kernel
theorem k_R : ∀ j, j < 6 → parseFieldDescriptor (T_R j).2.2.1 = some (t_R j) := by decide +kernel
def T_W : u_T := fun k => match k with
  | 0 => ("QuorumLog$Row", "places", "[LQuorumLog$Message;", true)
  | 1 => ("QuorumLog$Row", "taken", "LQuorumLog$Message;", false)
  | _ => ("QuorumLog$Row", "count", "I", false)
def t_W : Nat → FieldType := fun k => match k with
  | 0 => .array (.object "QuorumLog$Message")
  | 1 => .object "QuorumLog$Message"
  | _ => .int
theorem n_W : ∀ x, x < 3 → ∀ y, y < 3 → x ≠ y → (T_W x).2.1 ≠ (T_W y).2.1 := by decide +kernel
theorem k_W : ∀ j, j < 3 → parseFieldDescriptor (T_W j).2.2.1 = some (t_W j) := by decide +kernel
def T_S : u_T := fun k => match k with
  | 0 => ("QuorumLog$Server", "number", "I", true)
  | 1 => ("QuorumLog$Server", "log", "LQuorumLog$Log;", true)
  | 2 => ("QuorumLog$Server", "next", "[I", true)
  | 3 => ("QuorumLog$Server", "match", "[I", true)
  | 4 => ("QuorumLog$Server", "confirmed", "[I", true)
  | 5 => ("QuorumLog$Server", "up", "Z", false)
  | 6 => ("QuorumLog$Server", "heard", "Z", false)
  | 7 => ("QuorumLog$Server", "term", "I", false)
  | 8 => ("QuorumLog$Server", "vote", "I", false)
  | 9 => ("QuorumLog$Server", "role", "I", false)
  | 10 => ("QuorumLog$Server", "commit", "I", false)
  | 11 => ("QuorumLog$Server", "round", "I", false)
  | _ => ("QuorumLog$Server", "yes", "I", false)
def t_S : Nat → FieldType := fun k => match k with
  | 0 => .int
  | 1 => .object "QuorumLog$Log"
  | 2 => .array .int
  | 3 => .array .int
  | 4 => .array .int
  | 5 => .boolean
  | 6 => .boolean
  | 7 => .int
  | 8 => .int
  | 9 => .int
  | 10 => .int
  | 11 => .int
  | _ => .int
theorem n_S : ∀ x, x < 13 → ∀ y, y < 13 → x ≠ y → (T_S x).2.1 ≠ (T_S y).2.1 := by decide +kernel
theorem k_S : ∀ j, j < 13 → parseFieldDescriptor (T_S j).2.2.1 = some (t_S j) := by decide +kernel
def T_N : u_T := fun k => match k with
  | 0 => ("QuorumLog$Snapshot", "index", "I", true)
  | 1 => ("QuorumLog$Snapshot", "term", "I", true)
  | 2 => ("QuorumLog$Snapshot", "members", "I", true)
  | _ => ("QuorumLog$Snapshot", "values", "[I", true)
def t_N : Nat → FieldType := fun k => match k with
  | 0 => .int
  | 1 => .int
  | 2 => .int
  | _ => .array .int
theorem n_N : ∀ x, x < 4 → ∀ y, y < 4 → x ≠ y → (T_N x).2.1 ≠ (T_N y).2.1 := by decide +kernel
theorem k_N : ∀ j, j < 4 → parseFieldDescriptor (T_N j).2.2.1 = some (t_N j) := by decide +kernel
def T_D : u_T := fun k => match k with
  | 0 => ("QuorumLogModel", "code", "I", false)
  | 1 => ("QuorumLogModel", "down", "[Z", true)
  | 2 => ("QuorumLogModel", "term", "[I", true)
  | 3 => ("QuorumLogModel", "vote", "[I", true)
  | 4 => ("QuorumLogModel", "snapIndex", "[I", true)
  | 5 => ("QuorumLogModel", "snapTerm", "[I", true)
  | 6 => ("QuorumLogModel", "snapMembers", "[I", true)
  | 7 => ("QuorumLogModel", "snapValue", "[I", true)
  | 8 => ("QuorumLogModel", "size", "[I", true)
  | 9 => ("QuorumLogModel", "logTerm", "[I", true)
  | 10 => ("QuorumLogModel", "logSort", "[I", true)
  | 11 => ("QuorumLogModel", "logKey", "[I", true)
  | 12 => ("QuorumLogModel", "logValue", "[I", true)
  | 13 => ("QuorumLogModel", "role", "[I", true)
  | 14 => ("QuorumLogModel", "commit", "[I", true)
  | 15 => ("QuorumLogModel", "heard", "[Z", true)
  | 16 => ("QuorumLogModel", "yes", "[I", true)
  | 17 => ("QuorumLogModel", "next", "[I", true)
  | 18 => ("QuorumLogModel", "match", "[I", true)
  | 19 => ("QuorumLogModel", "confirmed", "[I", true)
  | 20 => ("QuorumLogModel", "round", "[I", true)
  | 21 => ("QuorumLogModel", "reads", "I", false)
  | 22 => ("QuorumLogModel", "readOf", "[I", true)
  | 23 => ("QuorumLogModel", "readKey", "[I", true)
  | 24 => ("QuorumLogModel", "readRound", "[I", true)
  | 25 => ("QuorumLogModel", "readOutcome", "[I", true)
  | 26 => ("QuorumLogModel", "readValue", "[I", true)
  | 27 => ("QuorumLogModel", "waiting", "I", false)
  | 28 => ("QuorumLogModel", "mail", "[I", true)
  | _ => ("QuorumLogModel", "come", "[I", true)
def t_D : Nat → FieldType := fun k => match k with
  | 0 => .int
  | 1 => .array .boolean
  | 2 => .array .int
  | 3 => .array .int
  | 4 => .array .int
  | 5 => .array .int
  | 6 => .array .int
  | 7 => .array .int
  | 8 => .array .int
  | 9 => .array .int
  | 10 => .array .int
  | 11 => .array .int
  | 12 => .array .int
  | 13 => .array .int
  | 14 => .array .int
  | 15 => .array .boolean
  | 16 => .array .int
  | 17 => .array .int
  | 18 => .array .int
  | 19 => .array .int
  | 20 => .array .int
  | 21 => .int
  | 22 => .array .int
  | 23 => .array .int
  | 24 => .array .int
  | 25 => .array .int
  | 26 => .array .int
  | 27 => .int
  | 28 => .array .int
  | _ => .array .int
theorem n_D : ∀ x, x < 30 → ∀ y, y < 30 → x ≠ y → (T_D x).2.1 ≠ (T_D y).2.1 := by decide +kernel
theorem k_D : ∀ j, j < 30 → parseFieldDescriptor (T_D j).2.2.1 = some (t_D j) := by decide +kernel
abbrev qu_Cl : List vw_C := [("QuorumLog", T_Q, 3), ("QuorumLog$Entry", T_E, 4), ("QuorumLog$Log", T_L, 3), ("QuorumLog$Message", T_M, 12), ("QuorumLog$Reads", T_R, 6), ("QuorumLog$Row", T_W, 3), ("QuorumLog$Server", T_S, 13), ("QuorumLog$Snapshot", T_N, 4), ("QuorumLogModel", T_D, 30)]
abbrev qu_Ty (d : Nat → ClassId) : List (ClassId × FieldType) := [(d 0, .int), (d 1, .boolean), (d 2, .long), (d 3, .object "QuorumLog$Server"), (d 4, .object "QuorumLog$Entry"), (d 5, .object "QuorumLog$Message")]
abbrev qu_Ao : List String := ["QuorumLog$Server", "QuorumLog$Entry", "QuorumLog$Message"]
abbrev c_Q_init : ByteArray := prog_1_method_1_code
abbrev y_Q_init : MethodName := ⟨"QuorumLog", "<init>", "(I)V"⟩
abbrev c_R_init : ByteArray := prog_5_method_1_code
abbrev y_R_init : MethodName := ⟨"QuorumLog$Reads", "<init>", "()V"⟩
abbrev c_N_init : ByteArray := prog_8_method_1_code
abbrev y_N_init : MethodName := ⟨"QuorumLog$Snapshot", "<init>", "(III[I)V"⟩
abbrev c_S_init : ByteArray := prog_7_method_1_code
abbrev y_S_init : MethodName := ⟨"QuorumLog$Server", "<init>", "(ILQuorumLog$Snapshot;)V"⟩
abbrev c_L_init : ByteArray := prog_3_method_1_code
abbrev y_L_init : MethodName := ⟨"QuorumLog$Log", "<init>", "(LQuorumLog$Snapshot;)V"⟩
abbrev c_W_init : ByteArray := prog_6_method_1_code
abbrev y_W_init : MethodName := ⟨"QuorumLog$Row", "<init>", "(LQuorumLog$Snapshot;)V"⟩
abbrev c_M_init : ByteArray := prog_4_method_1_code
abbrev y_M_init : MethodName := ⟨"QuorumLog$Message", "<init>", "(LQuorumLog$Snapshot;)V"⟩
abbrev c_Q_timer : ByteArray := prog_1_method_2_code
abbrev y_Q_timer : MethodName := ⟨"QuorumLog", "timer", "(I)Z"⟩
abbrev c_Q_isServer : ByteArray := prog_1_method_19_code
abbrev y_Q_isServer : MethodName := ⟨"QuorumLog", "isServer", "(I)Z"⟩
abbrev c_S_mayAsk : ByteArray := prog_7_method_3_code
abbrev y_S_mayAsk : MethodName := ⟨"QuorumLog$Server", "mayAsk", "()Z"⟩
abbrev c_L_configuration : ByteArray := prog_3_method_7_code
abbrev y_L_configuration : MethodName := ⟨"QuorumLog$Log", "configuration", "()I"⟩
abbrev c_L_last : ByteArray := prog_3_method_2_code
abbrev y_L_last : MethodName := ⟨"QuorumLog$Log", "last", "()I"⟩
abbrev c_L_latestMembersUpTo : ByteArray := prog_3_method_6_code
abbrev y_L_latestMembersUpTo : MethodName := ⟨"QuorumLog$Log", "latestMembersUpTo", "(I)I"⟩
abbrev c_L_find : ByteArray := prog_3_method_4_code
abbrev y_L_find : MethodName := ⟨"QuorumLog$Log", "find", "(I)LQuorumLog$Entry;"⟩
abbrev c_L_membersAt : ByteArray := prog_3_method_8_code
abbrev y_L_membersAt : MethodName := ⟨"QuorumLog$Log", "membersAt", "(I)I"⟩
abbrev c_Q_isIn : ByteArray := prog_1_method_21_code
abbrev y_Q_isIn : MethodName := ⟨"QuorumLog", "isIn", "(II)Z"⟩
abbrev c_Q_askAll : ByteArray := prog_1_method_24_code
abbrev y_Q_askAll : MethodName := ⟨"QuorumLog", "askAll", "(LQuorumLog$Server;II)V"⟩
abbrev c_W_send : ByteArray := prog_6_method_3_code
abbrev y_W_send : MethodName := ⟨"QuorumLog$Row", "send", "(IIII)LQuorumLog$Message;"⟩
abbrev c_M_begin : ByteArray := prog_4_method_2_code
abbrev y_M_begin : MethodName := ⟨"QuorumLog$Message", "begin", "(IIII)V"⟩
abbrev c_L_lastTerm : ByteArray := prog_3_method_3_code
abbrev y_L_lastTerm : MethodName := ⟨"QuorumLog$Log", "lastTerm", "()I"⟩
abbrev c_L_termAt : ByteArray := prog_3_method_5_code
abbrev y_L_termAt : MethodName := ⟨"QuorumLog$Log", "termAt", "(I)I"⟩
abbrev c_Q_standIfMostSaidYes : ByteArray := prog_1_method_25_code
abbrev y_Q_standIfMostSaidYes : MethodName := ⟨"QuorumLog", "standIfMostSaidYes", "(LQuorumLog$Server;)V"⟩
abbrev c_Q_areMost : ByteArray := prog_1_method_22_code
abbrev y_Q_areMost : MethodName := ⟨"QuorumLog", "areMost", "(II)Z"⟩
abbrev c_Q_leadIfMostSaidYes : ByteArray := prog_1_method_26_code
abbrev y_Q_leadIfMostSaidYes : MethodName := ⟨"QuorumLog", "leadIfMostSaidYes", "(LQuorumLog$Server;)V"⟩
abbrev c_E_init : ByteArray := prog_2_method_1_code
abbrev y_E_init : MethodName := ⟨"QuorumLog$Entry", "<init>", "(IIII)V"⟩
abbrev c_Q_append : ByteArray := prog_1_method_27_code
abbrev y_Q_append : MethodName := ⟨"QuorumLog", "append", "(LQuorumLog$Server;LQuorumLog$Entry;)I"⟩
abbrev c_L_add : ByteArray := prog_3_method_10_code
abbrev y_L_add : MethodName := ⟨"QuorumLog$Log", "add", "(LQuorumLog$Entry;)Z"⟩
abbrev c_Q_lookAtCommit : ByteArray := prog_1_method_28_code
abbrev y_Q_lookAtCommit : MethodName := ⟨"QuorumLog", "lookAtCommit", "(LQuorumLog$Server;)V"⟩
abbrev c_S_holdersOf : ByteArray := prog_7_method_6_code
abbrev y_S_holdersOf : MethodName := ⟨"QuorumLog$Server", "holdersOf", "(I)I"⟩
abbrev c_S_reachedBy : ByteArray := prog_7_method_8_code
abbrev y_S_reachedBy : MethodName := ⟨"QuorumLog$Server", "reachedBy", "([II)I"⟩
abbrev c_Q_follow : ByteArray := prog_1_method_32_code
abbrev y_Q_follow : MethodName := ⟨"QuorumLog", "follow", "(LQuorumLog$Server;)V"⟩
abbrev c_R_failAllOf : ByteArray := prog_5_method_6_code
abbrev y_R_failAllOf : MethodName := ⟨"QuorumLog$Reads", "failAllOf", "(I)V"⟩
abbrev c_R_isKeptBy : ByteArray := prog_5_method_3_code
abbrev y_R_isKeptBy : MethodName := ⟨"QuorumLog$Reads", "isKeptBy", "(II)Z"⟩
abbrev c_Q_sendToAll : ByteArray := prog_1_method_29_code
abbrev y_Q_sendToAll : MethodName := ⟨"QuorumLog", "sendToAll", "(LQuorumLog$Server;)V"⟩
abbrev c_Q_sendTo : ByteArray := prog_1_method_30_code
abbrev y_Q_sendTo : MethodName := ⟨"QuorumLog", "sendTo", "(LQuorumLog$Server;I)V"⟩
abbrev c_L_copyBehind : ByteArray := prog_3_method_12_code
abbrev y_L_copyBehind : MethodName := ⟨"QuorumLog$Log", "copyBehind", "(I[LQuorumLog$Entry;)I"⟩
abbrev c_Q_beat : ByteArray := prog_1_method_3_code
abbrev y_Q_beat : MethodName := ⟨"QuorumLog", "beat", "(I)Z"⟩
abbrev c_S_leads : ByteArray := prog_7_method_2_code
abbrev y_S_leads : MethodName := ⟨"QuorumLog$Server", "leads", "()Z"⟩
abbrev c_Q_outcome : ByteArray := prog_1_method_7_code
abbrev y_Q_outcome : MethodName := ⟨"QuorumLog", "outcome", "(I)I"⟩
abbrev c_R_holds : ByteArray := prog_5_method_2_code
abbrev y_R_holds : MethodName := ⟨"QuorumLog$Reads", "holds", "(I)Z"⟩
abbrev c_Q_value : ByteArray := prog_1_method_8_code
abbrev y_Q_value : MethodName := ⟨"QuorumLog", "value", "(I)I"⟩
abbrev c_Q_compact : ByteArray := prog_1_method_9_code
abbrev y_Q_compact : MethodName := ⟨"QuorumLog", "compact", "(I)Z"⟩
abbrev c_L_snapshotAt : ByteArray := prog_3_method_17_code
abbrev y_L_snapshotAt : MethodName := ⟨"QuorumLog$Log", "snapshotAt", "(I)LQuorumLog$Snapshot;"⟩
abbrev c_L_storedUpTo : ByteArray := prog_3_method_9_code
abbrev y_L_storedUpTo : MethodName := ⟨"QuorumLog$Log", "storedUpTo", "(II)I"⟩
abbrev c_L_beginBehind : ByteArray := prog_3_method_18_code
abbrev y_L_beginBehind : MethodName := ⟨"QuorumLog$Log", "beginBehind", "(LQuorumLog$Snapshot;)V"⟩
abbrev c_Q_crash : ByteArray := prog_1_method_10_code
abbrev y_Q_crash : MethodName := ⟨"QuorumLog", "crash", "(I)Z"⟩
abbrev c_Q_restart : ByteArray := prog_1_method_11_code
abbrev y_Q_restart : MethodName := ⟨"QuorumLog", "restart", "(I)Z"⟩
abbrev c_Q_deliver : ByteArray := prog_1_method_12_code
abbrev y_Q_deliver : MethodName := ⟨"QuorumLog", "deliver", "(I)I"⟩
abbrev c_W_holds : ByteArray := prog_6_method_2_code
abbrev y_W_holds : MethodName := ⟨"QuorumLog$Row", "holds", "(I)Z"⟩
abbrev c_W_take : ByteArray := prog_6_method_4_code
abbrev y_W_take : MethodName := ⟨"QuorumLog$Row", "take", "(I)LQuorumLog$Message;"⟩
abbrev c_Q_come : ByteArray := prog_1_method_34_code
abbrev y_Q_come : MethodName := ⟨"QuorumLog", "come", "(LQuorumLog$Server;LQuorumLog$Message;)V"⟩
abbrev c_Q_enterTerm : ByteArray := prog_1_method_33_code
abbrev y_Q_enterTerm : MethodName := ⟨"QuorumLog", "enterTerm", "(LQuorumLog$Server;I)V"⟩
abbrev c_Q_questionComes : ByteArray := prog_1_method_35_code
abbrev y_Q_questionComes : MethodName := ⟨"QuorumLog", "questionComes", "(LQuorumLog$Server;LQuorumLog$Message;)V"⟩
abbrev c_L_isBehindOf : ByteArray := prog_3_method_13_code
abbrev y_L_isBehindOf : MethodName := ⟨"QuorumLog$Log", "isBehindOf", "(LQuorumLog$Message;)Z"⟩
abbrev c_Q_answerComes : ByteArray := prog_1_method_36_code
abbrev y_Q_answerComes : MethodName := ⟨"QuorumLog", "answerComes", "(LQuorumLog$Server;LQuorumLog$Message;)V"⟩
abbrev c_Q_callComes : ByteArray := prog_1_method_37_code
abbrev y_Q_callComes : MethodName := ⟨"QuorumLog", "callComes", "(LQuorumLog$Server;LQuorumLog$Message;)V"⟩
abbrev c_Q_voteComes : ByteArray := prog_1_method_38_code
abbrev y_Q_voteComes : MethodName := ⟨"QuorumLog", "voteComes", "(LQuorumLog$Server;LQuorumLog$Message;)V"⟩
abbrev c_Q_appendComes : ByteArray := prog_1_method_39_code
abbrev y_Q_appendComes : MethodName := ⟨"QuorumLog", "appendComes", "(LQuorumLog$Server;LQuorumLog$Message;)V"⟩
abbrev c_Q_sendResult : ByteArray := prog_1_method_41_code
abbrev y_Q_sendResult : MethodName := ⟨"QuorumLog", "sendResult", "(LQuorumLog$Server;IZII)V"⟩
abbrev c_L_fitsBehind : ByteArray := prog_3_method_14_code
abbrev y_L_fitsBehind : MethodName := ⟨"QuorumLog$Log", "fitsBehind", "(II)Z"⟩
abbrev c_L_takeOver : ByteArray := prog_3_method_15_code
abbrev y_L_takeOver : MethodName := ⟨"QuorumLog$Log", "takeOver", "(LQuorumLog$Message;)I"⟩
abbrev c_L_hasOrTakes : ByteArray := prog_3_method_16_code
abbrev y_L_hasOrTakes : MethodName := ⟨"QuorumLog$Log", "hasOrTakes", "(ILQuorumLog$Entry;)Z"⟩
abbrev c_L_cutFrom : ByteArray := prog_3_method_11_code
abbrev y_L_cutFrom : MethodName := ⟨"QuorumLog$Log", "cutFrom", "(I)V"⟩
abbrev c_Q_resultComes : ByteArray := prog_1_method_42_code
abbrev y_Q_resultComes : MethodName := ⟨"QuorumLog", "resultComes", "(LQuorumLog$Server;LQuorumLog$Message;)V"⟩
abbrev c_Q_lookAtReads : ByteArray := prog_1_method_31_code
abbrev y_Q_lookAtReads : MethodName := ⟨"QuorumLog", "lookAtReads", "(LQuorumLog$Server;)V"⟩
abbrev c_S_confirmersOf : ByteArray := prog_7_method_7_code
abbrev y_S_confirmersOf : MethodName := ⟨"QuorumLog$Server", "confirmersOf", "(I)I"⟩
abbrev c_S_storedNow : ByteArray := prog_7_method_5_code
abbrev y_S_storedNow : MethodName := ⟨"QuorumLog$Server", "storedNow", "(I)I"⟩
abbrev c_Q_installComes : ByteArray := prog_1_method_40_code
abbrev y_Q_installComes : MethodName := ⟨"QuorumLog", "installComes", "(LQuorumLog$Server;LQuorumLog$Message;)V"⟩
abbrev c_Q_lose : ByteArray := prog_1_method_13_code
abbrev y_Q_lose : MethodName := ⟨"QuorumLog", "lose", "(I)Z"⟩
abbrev c_Q_waiting : ByteArray := prog_1_method_14_code
abbrev y_Q_waiting : MethodName := ⟨"QuorumLog", "waiting", "()I"⟩
abbrev c_Q_message : ByteArray := prog_1_method_15_code
abbrev y_Q_message : MethodName := ⟨"QuorumLog", "message", "(II)I"⟩
abbrev c_Q_state : ByteArray := prog_1_method_16_code
abbrev y_Q_state : MethodName := ⟨"QuorumLog", "state", "(II)I"⟩
abbrev c_Q_entry : ByteArray := prog_1_method_17_code
abbrev y_Q_entry : MethodName := ⟨"QuorumLog", "entry", "(III)I"⟩
abbrev c_Q_stored : ByteArray := prog_1_method_18_code
abbrev y_Q_stored : MethodName := ⟨"QuorumLog", "stored", "(II)I"⟩
abbrev c_Q_isKey : ByteArray := prog_1_method_20_code
abbrev y_Q_isKey : MethodName := ⟨"QuorumLog", "isKey", "(I)Z"⟩
abbrev c_Z_cell : ByteArray := method_2_code
abbrev y_Z_cell : MethodName := ⟨"QuorumLogLaw", "cell", "([II)I"⟩
abbrev c_Z_put : ByteArray := method_3_code
abbrev y_Z_put : MethodName := ⟨"QuorumLogLaw", "put", "(LQuorumLog;III[J)I"⟩
abbrev c_Q_put : ByteArray := prog_1_method_4_code
abbrev y_Q_put : MethodName := ⟨"QuorumLog", "put", "(III)I"⟩
abbrev c_Q_leaderFor : ByteArray := prog_1_method_23_code
abbrev y_Q_leaderFor : MethodName := ⟨"QuorumLog", "leaderFor", "(II)LQuorumLog$Server;"⟩
abbrev c_Z_change : ByteArray := method_4_code
abbrev y_Z_change : MethodName := ⟨"QuorumLogLaw", "change", "(LQuorumLog;IIZ[J)I"⟩
abbrev c_Q_change : ByteArray := prog_1_method_5_code
abbrev y_Q_change : MethodName := ⟨"QuorumLog", "change", "(IIZ)I"⟩
abbrev c_S_hasCommitOfItsTerm : ByteArray := prog_7_method_4_code
abbrev y_S_hasCommitOfItsTerm : MethodName := ⟨"QuorumLog$Server", "hasCommitOfItsTerm", "()Z"⟩
abbrev c_Z_read : ByteArray := method_5_code
abbrev y_Z_read : MethodName := ⟨"QuorumLogLaw", "read", "(LQuorumLog;II[J)I"⟩
abbrev c_Q_read : ByteArray := prog_1_method_6_code
abbrev y_Q_read : MethodName := ⟨"QuorumLog", "read", "(II)I"⟩
abbrev c_R_keptBy : ByteArray := prog_5_method_4_code
abbrev y_R_keptBy : MethodName := ⟨"QuorumLog$Reads", "keptBy", "(I)I"⟩
abbrev c_R_keep : ByteArray := prog_5_method_5_code
abbrev y_R_keep : MethodName := ⟨"QuorumLog$Reads", "keep", "(III)I"⟩
abbrev c_D_init : ByteArray := prog_10_method_1_code
abbrev y_D_init : MethodName := ⟨"QuorumLogModel", "<init>", "(I)V"⟩
abbrev c_D_thrown : ByteArray := prog_10_method_2_code
abbrev y_D_thrown : MethodName := ⟨"QuorumLogModel", "thrown", "()I"⟩
abbrev c_D_timer : ByteArray := prog_10_method_27_code
abbrev y_D_timer : MethodName := ⟨"QuorumLogModel", "timer", "(I)Z"⟩
abbrev c_D_isServer : ByteArray := prog_10_method_4_code
abbrev y_D_isServer : MethodName := ⟨"QuorumLogModel", "isServer", "(I)Z"⟩
abbrev c_D_isMine : ByteArray := prog_10_method_26_code
abbrev y_D_isMine : MethodName := ⟨"QuorumLogModel", "isMine", "(I)Z"⟩
abbrev c_D_config : ByteArray := prog_10_method_12_code
abbrev y_D_config : MethodName := ⟨"QuorumLogModel", "config", "(I)I"⟩
abbrev c_D_last : ByteArray := prog_10_method_6_code
abbrev y_D_last : MethodName := ⟨"QuorumLogModel", "last", "(I)I"⟩
abbrev c_D_membersAt : ByteArray := prog_10_method_11_code
abbrev y_D_membersAt : MethodName := ⟨"QuorumLogModel", "membersAt", "(II)I"⟩
abbrev c_D_latestMembers : ByteArray := prog_10_method_10_code
abbrev y_D_latestMembers : MethodName := ⟨"QuorumLogModel", "latestMembers", "(II)I"⟩
abbrev c_D_cell : ByteArray := prog_10_method_7_code
abbrev y_D_cell : MethodName := ⟨"QuorumLogModel", "cell", "(II)I"⟩
abbrev c_D_askAll : ByteArray := prog_10_method_19_code
abbrev y_D_askAll : MethodName := ⟨"QuorumLogModel", "askAll", "(III)V"⟩
abbrev c_D_begin : ByteArray := prog_10_method_17_code
abbrev y_D_begin : MethodName := ⟨"QuorumLogModel", "begin", "(IIII)V"⟩
abbrev c_D_lastTerm : ByteArray := prog_10_method_9_code
abbrev y_D_lastTerm : MethodName := ⟨"QuorumLogModel", "lastTerm", "(I)I"⟩
abbrev c_D_termAt : ByteArray := prog_10_method_8_code
abbrev y_D_termAt : MethodName := ⟨"QuorumLogModel", "termAt", "(II)I"⟩
abbrev c_D_post : ByteArray := prog_10_method_18_code
abbrev y_D_post : MethodName := ⟨"QuorumLogModel", "post", "()V"⟩
abbrev c_D_weigh : ByteArray := prog_10_method_28_code
abbrev y_D_weigh : MethodName := ⟨"QuorumLogModel", "weigh", "(I)V"⟩
abbrev c_D_most : ByteArray := prog_10_method_15_code
abbrev y_D_most : MethodName := ⟨"QuorumLogModel", "most", "(II)Z"⟩
abbrev c_D_count : ByteArray := prog_10_method_14_code
abbrev y_D_count : MethodName := ⟨"QuorumLogModel", "count", "(I)I"⟩
abbrev c_D_lead : ByteArray := prog_10_method_29_code
abbrev y_D_lead : MethodName := ⟨"QuorumLogModel", "lead", "(I)V"⟩
abbrev c_D_append : ByteArray := prog_10_method_30_code
abbrev y_D_append : MethodName := ⟨"QuorumLogModel", "append", "(IIII)I"⟩
abbrev c_D_push : ByteArray := prog_10_method_16_code
abbrev y_D_push : MethodName := ⟨"QuorumLogModel", "push", "(IIIII)V"⟩
abbrev c_D_lookAtCommit : ByteArray := prog_10_method_32_code
abbrev y_D_lookAtCommit : MethodName := ⟨"QuorumLogModel", "lookAtCommit", "(I)V"⟩
abbrev c_D_having : ByteArray := prog_10_method_31_code
abbrev y_D_having : MethodName := ⟨"QuorumLogModel", "having", "(II)I"⟩
abbrev c_D_follow : ByteArray := prog_10_method_24_code
abbrev y_D_follow : MethodName := ⟨"QuorumLogModel", "follow", "(I)V"⟩
abbrev c_D_sendAll : ByteArray := prog_10_method_23_code
abbrev y_D_sendAll : MethodName := ⟨"QuorumLogModel", "sendAll", "(I)V"⟩
abbrev c_D_sendTo : ByteArray := prog_10_method_22_code
abbrev y_D_sendTo : MethodName := ⟨"QuorumLogModel", "sendTo", "(II)V"⟩
abbrev c_D_beat : ByteArray := prog_10_method_35_code
abbrev y_D_beat : MethodName := ⟨"QuorumLogModel", "beat", "(I)Z"⟩
abbrev c_D_leads : ByteArray := prog_10_method_34_code
abbrev y_D_leads : MethodName := ⟨"QuorumLogModel", "leads", "(I)Z"⟩
abbrev c_D_put : ByteArray := prog_10_method_36_code
abbrev y_D_put : MethodName := ⟨"QuorumLogModel", "put", "(III)I"⟩
abbrev c_D_isKey : ByteArray := prog_10_method_5_code
abbrev y_D_isKey : MethodName := ⟨"QuorumLogModel", "isKey", "(I)Z"⟩
abbrev c_D_fail : ByteArray := prog_10_method_3_code
abbrev y_D_fail : MethodName := ⟨"QuorumLogModel", "fail", "(I)I"⟩
abbrev c_D_change : ByteArray := prog_10_method_38_code
abbrev y_D_change : MethodName := ⟨"QuorumLogModel", "change", "(IIZ)I"⟩
abbrev c_D_isOld : ByteArray := prog_10_method_37_code
abbrev y_D_isOld : MethodName := ⟨"QuorumLogModel", "isOld", "(I)Z"⟩
abbrev c_D_read : ByteArray := prog_10_method_39_code
abbrev y_D_read : MethodName := ⟨"QuorumLogModel", "read", "(II)I"⟩
abbrev c_D_lookAtReads : ByteArray := prog_10_method_33_code
abbrev y_D_lookAtReads : MethodName := ⟨"QuorumLogModel", "lookAtReads", "(I)V"⟩
abbrev c_D_valueAt : ByteArray := prog_10_method_13_code
abbrev y_D_valueAt : MethodName := ⟨"QuorumLogModel", "valueAt", "(III)I"⟩
abbrev c_D_outcome : ByteArray := prog_10_method_40_code
abbrev y_D_outcome : MethodName := ⟨"QuorumLogModel", "outcome", "(I)I"⟩
abbrev c_D_value : ByteArray := prog_10_method_41_code
abbrev y_D_value : MethodName := ⟨"QuorumLogModel", "value", "(I)I"⟩
abbrev c_D_compact : ByteArray := prog_10_method_43_code
abbrev y_D_compact : MethodName := ⟨"QuorumLogModel", "compact", "(I)Z"⟩
abbrev c_D_shift : ByteArray := prog_10_method_42_code
abbrev y_D_shift : MethodName := ⟨"QuorumLogModel", "shift", "(II)V"⟩
abbrev c_D_crash : ByteArray := prog_10_method_44_code
abbrev y_D_crash : MethodName := ⟨"QuorumLogModel", "crash", "(I)Z"⟩
abbrev c_D_restart : ByteArray := prog_10_method_45_code
abbrev y_D_restart : MethodName := ⟨"QuorumLogModel", "restart", "(I)Z"⟩
abbrev c_D_deliver : ByteArray := prog_10_method_48_code
abbrev y_D_deliver : MethodName := ⟨"QuorumLogModel", "deliver", "(I)I"⟩
abbrev c_D_takeOut : ByteArray := prog_10_method_46_code
abbrev y_D_takeOut : MethodName := ⟨"QuorumLogModel", "takeOut", "(I)V"⟩
abbrev c_D_newTerm : ByteArray := prog_10_method_25_code
abbrev y_D_newTerm : MethodName := ⟨"QuorumLogModel", "newTerm", "(II)V"⟩
abbrev c_D_question : ByteArray := prog_10_method_49_code
abbrev y_D_question : MethodName := ⟨"QuorumLogModel", "question", "(III)V"⟩
abbrev c_D_liesBefore : ByteArray := prog_10_method_47_code
abbrev y_D_liesBefore : MethodName := ⟨"QuorumLogModel", "liesBefore", "(III)Z"⟩
abbrev c_D_reply : ByteArray := prog_10_method_20_code
abbrev y_D_reply : MethodName := ⟨"QuorumLogModel", "reply", "(IIIZI)V"⟩
abbrev c_D_answered : ByteArray := prog_10_method_50_code
abbrev y_D_answered : MethodName := ⟨"QuorumLogModel", "answered", "(III)V"⟩
abbrev c_D_called : ByteArray := prog_10_method_51_code
abbrev y_D_called : MethodName := ⟨"QuorumLogModel", "called", "(III)V"⟩
abbrev c_D_voted : ByteArray := prog_10_method_52_code
abbrev y_D_voted : MethodName := ⟨"QuorumLogModel", "voted", "(III)V"⟩
abbrev c_D_appended : ByteArray := prog_10_method_53_code
abbrev y_D_appended : MethodName := ⟨"QuorumLogModel", "appended", "(II)V"⟩
abbrev c_D_result : ByteArray := prog_10_method_21_code
abbrev y_D_result : MethodName := ⟨"QuorumLogModel", "result", "(IIZII)V"⟩
abbrev c_D_takeEntry : ByteArray := prog_10_method_54_code
abbrev y_D_takeEntry : MethodName := ⟨"QuorumLogModel", "takeEntry", "(III)Z"⟩
abbrev c_D_resulted : ByteArray := prog_10_method_56_code
abbrev y_D_resulted : MethodName := ⟨"QuorumLogModel", "resulted", "(II)V"⟩
abbrev c_D_installed : ByteArray := prog_10_method_55_code
abbrev y_D_installed : MethodName := ⟨"QuorumLogModel", "installed", "(II)V"⟩
abbrev c_D_lose : ByteArray := prog_10_method_57_code
abbrev y_D_lose : MethodName := ⟨"QuorumLogModel", "lose", "(I)Z"⟩
abbrev c_D_waiting : ByteArray := prog_10_method_58_code
abbrev y_D_waiting : MethodName := ⟨"QuorumLogModel", "waiting", "()I"⟩
abbrev c_D_message : ByteArray := prog_10_method_59_code
abbrev y_D_message : MethodName := ⟨"QuorumLogModel", "message", "(II)I"⟩
abbrev c_D_state : ByteArray := prog_10_method_60_code
abbrev y_D_state : MethodName := ⟨"QuorumLogModel", "state", "(II)I"⟩
abbrev c_D_entry : ByteArray := prog_10_method_61_code
abbrev y_D_entry : MethodName := ⟨"QuorumLogModel", "entry", "(III)I"⟩
abbrev c_D_stored : ByteArray := prog_10_method_62_code
abbrev y_D_stored : MethodName := ⟨"QuorumLogModel", "stored", "(II)I"⟩
abbrev c_I_bitCount : ByteArray := prog_14_method_49_code
abbrev y_I_bitCount : MethodName := ⟨"java/lang/Integer", "bitCount", "(I)I"⟩
abbrev c_H_min : ByteArray := prog_15_method_69_code
abbrev y_H_min : MethodName := ⟨"java/lang/Math", "min", "(II)I"⟩
abbrev c_H_max : ByteArray := prog_15_method_65_code
abbrev y_H_max : MethodName := ⟨"java/lang/Math", "max", "(II)I"⟩
abbrev qu_Mn : List Cond := [Cond.methodLinkNest "QuorumLog" 17 y_R_init "QuorumLog", Cond.methodLinkNest "QuorumLog$Server" 48 y_Q_isIn "QuorumLog"]
end
section
/-! words in the tables, by their places -/
theorem qm_0 : Cond.initialized "QuorumLogLaw" ∈ qu_W := qu_in 0 (by decide +kernel) (by decide +kernel)
theorem qm_1 : Cond.initialized "QuorumLog" ∈ qu_W := qu_in 1 (by decide +kernel) (by decide +kernel)
theorem qm_2 : Cond.initialized "QuorumLog$Reads" ∈ qu_W := qu_in 2 (by decide +kernel) (by decide +kernel)
theorem qm_3 : Cond.initialized "QuorumLog$Snapshot" ∈ qu_W := qu_in 3 (by decide +kernel) (by decide +kernel)
theorem qm_4 : Cond.initialized "QuorumLog$Server" ∈ qu_W := qu_in 4 (by decide +kernel) (by decide +kernel)
theorem qm_5 : Cond.initialized "QuorumLog$Log" ∈ qu_W := qu_in 5 (by decide +kernel) (by decide +kernel)
theorem qm_6 : Cond.initialized "QuorumLog$Row" ∈ qu_W := qu_in 6 (by decide +kernel) (by decide +kernel)
theorem qm_7 : Cond.initialized "QuorumLog$Message" ∈ qu_W := qu_in 7 (by decide +kernel) (by decide +kernel)
theorem qm_8 : Cond.initialized "QuorumLogModel" ∈ qu_W := qu_in 8 (by decide +kernel) (by decide +kernel)
theorem qm_9 : Cond.initialized "java/lang/Integer" ∈ qu_W := qu_in 9 (by decide +kernel) (by decide +kernel)
theorem qm_10 : Cond.initialized "QuorumLog$Entry" ∈ qu_W := qu_in 10 (by decide +kernel) (by decide +kernel)
theorem qm_17 : Cond.initialized "java/lang/Math" ∈ qu_W := qu_in 17 (by decide +kernel) (by decide +kernel)
theorem qm_22 : Cond.code y_Q_init c_Q_init 5 none ∈ qu_W := qu_in 22 (by decide +kernel) (by decide +kernel)
theorem qm_23 : Cond.methodLink "QuorumLog" 1 Lib.objectInit ∈ qu_W := qu_in 23 (by decide +kernel) (by decide +kernel)
theorem qm_24 : Cond.instanceMethod Lib.objectInit ∈ qu_W := qu_in 24 (by decide +kernel) (by decide +kernel)
theorem qm_25 : Cond.code Lib.objectInit ⟨#[0xb1]⟩ 1 none ∈ qu_W := qu_in 25 (by decide +kernel) (by decide +kernel)
theorem qm_26 : Cond.classLink "QuorumLog" 9 "QuorumLog$Server" ∈ qu_W := qu_in 26 (by decide +kernel) (by decide +kernel)
theorem qm_28 : Cond.classLink "QuorumLog" 15 "QuorumLog$Reads" ∈ qu_W := qu_in 28 (by decide +kernel) (by decide +kernel)
theorem qm_29 : Cond.instantiable "QuorumLog$Reads" 6 ∈ qu_W := qu_in 29 (by decide +kernel) (by decide +kernel)
theorem qm_31 : Cond.instanceMethod y_R_init ∈ qu_W := qu_in 31 (by decide +kernel) (by decide +kernel)
theorem qm_32 : Cond.code y_R_init c_R_init 1 none ∈ qu_W := qu_in 32 (by decide +kernel) (by decide +kernel)
theorem qm_33 : Cond.methodLink "QuorumLog$Reads" 3 Lib.objectInit ∈ qu_W := qu_in 33 (by decide +kernel) (by decide +kernel)
theorem qm_34 : Cond.fieldLink "QuorumLog$Reads" 9 "QuorumLog$Reads" "leaders" "[I" ∈ qu_W := qu_in 34 (by decide +kernel) (by decide +kernel)
theorem qm_35 : Cond.fieldLink "QuorumLog$Reads" 15 "QuorumLog$Reads" "keys" "[I" ∈ qu_W := qu_in 35 (by decide +kernel) (by decide +kernel)
theorem qm_36 : Cond.fieldLink "QuorumLog" 312 "QuorumLog$Reads" "keys" "[I" ∈ qu_W := qu_in 36 (by decide +kernel) (by decide +kernel)
theorem qm_37 : Cond.fieldLink "QuorumLog$Reads" 18 "QuorumLog$Reads" "rounds" "[I" ∈ qu_W := qu_in 37 (by decide +kernel) (by decide +kernel)
theorem qm_38 : Cond.fieldLink "QuorumLog" 306 "QuorumLog$Reads" "rounds" "[I" ∈ qu_W := qu_in 38 (by decide +kernel) (by decide +kernel)
theorem qm_39 : Cond.fieldLink "QuorumLog$Reads" 21 "QuorumLog$Reads" "outcomes" "[I" ∈ qu_W := qu_in 39 (by decide +kernel) (by decide +kernel)
theorem qm_40 : Cond.fieldLink "QuorumLog" 160 "QuorumLog$Reads" "outcomes" "[I" ∈ qu_W := qu_in 40 (by decide +kernel) (by decide +kernel)
theorem qm_41 : Cond.fieldLink "QuorumLog$Reads" 24 "QuorumLog$Reads" "answers" "[I" ∈ qu_W := qu_in 41 (by decide +kernel) (by decide +kernel)
theorem qm_42 : Cond.fieldLink "QuorumLog" 164 "QuorumLog$Reads" "answers" "[I" ∈ qu_W := qu_in 42 (by decide +kernel) (by decide +kernel)
theorem qm_43 : Cond.fieldLink "QuorumLog$Reads" 27 "QuorumLog$Reads" "count" "I" ∈ qu_W := qu_in 43 (by decide +kernel) (by decide +kernel)
theorem qm_44 : Cond.fieldLink "QuorumLog" 144 "QuorumLog$Reads" "count" "I" ∈ qu_W := qu_in 44 (by decide +kernel) (by decide +kernel)
theorem qm_45 : Cond.laysFinal "QuorumLog$Reads" "QuorumLog$Reads" "leaders" "[I" ∈ qu_W := qu_in 45 (by decide +kernel) (by decide +kernel)
theorem qm_47 : Cond.laysFinal "QuorumLog$Reads" "QuorumLog$Reads" "keys" "[I" ∈ qu_W := qu_in 47 (by decide +kernel) (by decide +kernel)
theorem qm_49 : Cond.laysFinal "QuorumLog$Reads" "QuorumLog$Reads" "rounds" "[I" ∈ qu_W := qu_in 49 (by decide +kernel) (by decide +kernel)
theorem qm_51 : Cond.laysFinal "QuorumLog$Reads" "QuorumLog$Reads" "outcomes" "[I" ∈ qu_W := qu_in 51 (by decide +kernel) (by decide +kernel)
theorem qm_53 : Cond.laysFinal "QuorumLog$Reads" "QuorumLog$Reads" "answers" "[I" ∈ qu_W := qu_in 53 (by decide +kernel) (by decide +kernel)
theorem qm_55 : Cond.lays "QuorumLog$Reads" "QuorumLog$Reads" "count" "I" ∈ qu_W := qu_in 55 (by decide +kernel) (by decide +kernel)
theorem qm_58 : Cond.arrayClass .int ∈ qu_W := qu_in 58 (by decide +kernel) (by decide +kernel)
theorem qm_59 : Cond.classLink "QuorumLog" 22 "QuorumLog$Snapshot" ∈ qu_W := qu_in 59 (by decide +kernel) (by decide +kernel)
theorem qm_60 : Cond.instantiable "QuorumLog$Snapshot" 4 ∈ qu_W := qu_in 60 (by decide +kernel) (by decide +kernel)
theorem qm_61 : Cond.methodLink "QuorumLog" 24 y_N_init ∈ qu_W := qu_in 61 (by decide +kernel) (by decide +kernel)
theorem qm_62 : Cond.instanceMethod y_N_init ∈ qu_W := qu_in 62 (by decide +kernel) (by decide +kernel)
theorem qm_63 : Cond.code y_N_init c_N_init 5 none ∈ qu_W := qu_in 63 (by decide +kernel) (by decide +kernel)
theorem qm_64 : Cond.methodLink "QuorumLog$Snapshot" 1 Lib.objectInit ∈ qu_W := qu_in 64 (by decide +kernel) (by decide +kernel)
theorem qm_65 : Cond.fieldLink "QuorumLog$Snapshot" 7 "QuorumLog$Snapshot" "index" "I" ∈ qu_W := qu_in 65 (by decide +kernel) (by decide +kernel)
theorem qm_66 : Cond.fieldLink "QuorumLog$Log" 21 "QuorumLog$Snapshot" "index" "I" ∈ qu_W := qu_in 66 (by decide +kernel) (by decide +kernel)
theorem qm_67 : Cond.fieldLink "QuorumLog" 174 "QuorumLog$Snapshot" "index" "I" ∈ qu_W := qu_in 67 (by decide +kernel) (by decide +kernel)
theorem qm_68 : Cond.fieldLink "QuorumLog$Snapshot" 13 "QuorumLog$Snapshot" "term" "I" ∈ qu_W := qu_in 68 (by decide +kernel) (by decide +kernel)
theorem qm_69 : Cond.fieldLink "QuorumLog$Log" 38 "QuorumLog$Snapshot" "term" "I" ∈ qu_W := qu_in 69 (by decide +kernel) (by decide +kernel)
theorem qm_70 : Cond.fieldLink "QuorumLog$Snapshot" 16 "QuorumLog$Snapshot" "members" "I" ∈ qu_W := qu_in 70 (by decide +kernel) (by decide +kernel)
theorem qm_71 : Cond.fieldLink "QuorumLog$Log" 55 "QuorumLog$Snapshot" "members" "I" ∈ qu_W := qu_in 71 (by decide +kernel) (by decide +kernel)
theorem qm_72 : Cond.fieldLink "QuorumLog$Snapshot" 19 "QuorumLog$Snapshot" "values" "[I" ∈ qu_W := qu_in 72 (by decide +kernel) (by decide +kernel)
theorem qm_73 : Cond.fieldLink "QuorumLog$Log" 64 "QuorumLog$Snapshot" "values" "[I" ∈ qu_W := qu_in 73 (by decide +kernel) (by decide +kernel)
theorem qm_74 : Cond.laysFinal "QuorumLog$Snapshot" "QuorumLog$Snapshot" "index" "I" ∈ qu_W := qu_in 74 (by decide +kernel) (by decide +kernel)
theorem qm_76 : Cond.laysFinal "QuorumLog$Snapshot" "QuorumLog$Snapshot" "term" "I" ∈ qu_W := qu_in 76 (by decide +kernel) (by decide +kernel)
theorem qm_78 : Cond.laysFinal "QuorumLog$Snapshot" "QuorumLog$Snapshot" "members" "I" ∈ qu_W := qu_in 78 (by decide +kernel) (by decide +kernel)
theorem qm_80 : Cond.laysFinal "QuorumLog$Snapshot" "QuorumLog$Snapshot" "values" "[I" ∈ qu_W := qu_in 80 (by decide +kernel) (by decide +kernel)
theorem qm_83 : Cond.instantiable "QuorumLog$Server" 13 ∈ qu_W := qu_in 83 (by decide +kernel) (by decide +kernel)
theorem qm_84 : Cond.methodLink "QuorumLog" 27 y_S_init ∈ qu_W := qu_in 84 (by decide +kernel) (by decide +kernel)
theorem qm_85 : Cond.instanceMethod y_S_init ∈ qu_W := qu_in 85 (by decide +kernel) (by decide +kernel)
theorem qm_86 : Cond.code y_S_init c_S_init 3 none ∈ qu_W := qu_in 86 (by decide +kernel) (by decide +kernel)
theorem qm_87 : Cond.methodLink "QuorumLog$Server" 3 Lib.objectInit ∈ qu_W := qu_in 87 (by decide +kernel) (by decide +kernel)
theorem qm_88 : Cond.classLink "QuorumLog$Server" 35 "QuorumLog$Log" ∈ qu_W := qu_in 88 (by decide +kernel) (by decide +kernel)
theorem qm_89 : Cond.instantiable "QuorumLog$Log" 3 ∈ qu_W := qu_in 89 (by decide +kernel) (by decide +kernel)
theorem qm_90 : Cond.methodLink "QuorumLog$Server" 37 y_L_init ∈ qu_W := qu_in 90 (by decide +kernel) (by decide +kernel)
theorem qm_91 : Cond.instanceMethod y_L_init ∈ qu_W := qu_in 91 (by decide +kernel) (by decide +kernel)
theorem qm_92 : Cond.code y_L_init c_L_init 2 none ∈ qu_W := qu_in 92 (by decide +kernel) (by decide +kernel)
theorem qm_93 : Cond.methodLink "QuorumLog$Log" 3 Lib.objectInit ∈ qu_W := qu_in 93 (by decide +kernel) (by decide +kernel)
theorem qm_94 : Cond.classLink "QuorumLog$Log" 9 "QuorumLog$Entry" ∈ qu_W := qu_in 94 (by decide +kernel) (by decide +kernel)
theorem qm_96 : Cond.fieldLink "QuorumLog$Log" 17 "QuorumLog$Log" "snapshot" "LQuorumLog$Snapshot;" ∈ qu_W := qu_in 96 (by decide +kernel) (by decide +kernel)
theorem qm_97 : Cond.fieldLink "QuorumLog" 170 "QuorumLog$Log" "snapshot" "LQuorumLog$Snapshot;" ∈ qu_W := qu_in 97 (by decide +kernel) (by decide +kernel)
theorem qm_98 : Cond.fieldLink "QuorumLog$Log" 11 "QuorumLog$Log" "entries" "[LQuorumLog$Entry;" ∈ qu_W := qu_in 98 (by decide +kernel) (by decide +kernel)
theorem qm_99 : Cond.fieldLink "QuorumLog$Log" 27 "QuorumLog$Log" "count" "I" ∈ qu_W := qu_in 99 (by decide +kernel) (by decide +kernel)
theorem qm_100 : Cond.fieldLink "QuorumLog$Server" 52 "QuorumLog$Log" "count" "I" ∈ qu_W := qu_in 100 (by decide +kernel) (by decide +kernel)
theorem qm_101 : Cond.fieldLink "QuorumLog" 89 "QuorumLog$Log" "count" "I" ∈ qu_W := qu_in 101 (by decide +kernel) (by decide +kernel)
theorem qm_102 : Cond.lays "QuorumLog$Log" "QuorumLog$Log" "snapshot" "LQuorumLog$Snapshot;" ∈ qu_W := qu_in 102 (by decide +kernel) (by decide +kernel)
theorem qm_104 : Cond.laysFinal "QuorumLog$Log" "QuorumLog$Log" "entries" "[LQuorumLog$Entry;" ∈ qu_W := qu_in 104 (by decide +kernel) (by decide +kernel)
theorem qm_106 : Cond.lays "QuorumLog$Log" "QuorumLog$Log" "count" "I" ∈ qu_W := qu_in 106 (by decide +kernel) (by decide +kernel)
theorem qm_109 : Cond.fieldLink "QuorumLog$Server" 32 "QuorumLog$Server" "number" "I" ∈ qu_W := qu_in 109 (by decide +kernel) (by decide +kernel)
theorem qm_110 : Cond.fieldLink "QuorumLog" 55 "QuorumLog$Server" "number" "I" ∈ qu_W := qu_in 110 (by decide +kernel) (by decide +kernel)
theorem qm_111 : Cond.fieldLink "QuorumLog$Server" 40 "QuorumLog$Server" "log" "LQuorumLog$Log;" ∈ qu_W := qu_in 111 (by decide +kernel) (by decide +kernel)
theorem qm_112 : Cond.fieldLink "QuorumLog" 85 "QuorumLog$Server" "log" "LQuorumLog$Log;" ∈ qu_W := qu_in 112 (by decide +kernel) (by decide +kernel)
theorem qm_113 : Cond.fieldLink "QuorumLog$Server" 9 "QuorumLog$Server" "next" "[I" ∈ qu_W := qu_in 113 (by decide +kernel) (by decide +kernel)
theorem qm_114 : Cond.fieldLink "QuorumLog" 267 "QuorumLog$Server" "next" "[I" ∈ qu_W := qu_in 114 (by decide +kernel) (by decide +kernel)
theorem qm_115 : Cond.fieldLink "QuorumLog$Server" 15 "QuorumLog$Server" "match" "[I" ∈ qu_W := qu_in 115 (by decide +kernel) (by decide +kernel)
theorem qm_116 : Cond.fieldLink "QuorumLog" 270 "QuorumLog$Server" "match" "[I" ∈ qu_W := qu_in 116 (by decide +kernel) (by decide +kernel)
theorem qm_117 : Cond.fieldLink "QuorumLog$Server" 18 "QuorumLog$Server" "confirmed" "[I" ∈ qu_W := qu_in 117 (by decide +kernel) (by decide +kernel)
theorem qm_118 : Cond.fieldLink "QuorumLog" 273 "QuorumLog$Server" "confirmed" "[I" ∈ qu_W := qu_in 118 (by decide +kernel) (by decide +kernel)
theorem qm_119 : Cond.fieldLink "QuorumLog$Server" 21 "QuorumLog$Server" "up" "Z" ∈ qu_W := qu_in 119 (by decide +kernel) (by decide +kernel)
theorem qm_120 : Cond.fieldLink "QuorumLog" 167 "QuorumLog$Server" "up" "Z" ∈ qu_W := qu_in 120 (by decide +kernel) (by decide +kernel)
theorem qm_121 : Cond.fieldLink "QuorumLog" 47 "QuorumLog$Server" "heard" "Z" ∈ qu_W := qu_in 121 (by decide +kernel) (by decide +kernel)
theorem qm_122 : Cond.fieldLink "QuorumLog" 61 "QuorumLog$Server" "term" "I" ∈ qu_W := qu_in 122 (by decide +kernel) (by decide +kernel)
theorem qm_123 : Cond.fieldLink "QuorumLog$Server" 62 "QuorumLog$Server" "term" "I" ∈ qu_W := qu_in 123 (by decide +kernel) (by decide +kernel)
theorem qm_124 : Cond.fieldLink "QuorumLog$Server" 25 "QuorumLog$Server" "vote" "I" ∈ qu_W := qu_in 124 (by decide +kernel) (by decide +kernel)
theorem qm_125 : Cond.fieldLink "QuorumLog" 220 "QuorumLog$Server" "vote" "I" ∈ qu_W := qu_in 125 (by decide +kernel) (by decide +kernel)
theorem qm_126 : Cond.fieldLink "QuorumLog$Server" 29 "QuorumLog$Server" "role" "I" ∈ qu_W := qu_in 126 (by decide +kernel) (by decide +kernel)
theorem qm_127 : Cond.fieldLink "QuorumLog" 51 "QuorumLog$Server" "role" "I" ∈ qu_W := qu_in 127 (by decide +kernel) (by decide +kernel)
theorem qm_128 : Cond.fieldLink "QuorumLog$Server" 55 "QuorumLog$Server" "commit" "I" ∈ qu_W := qu_in 128 (by decide +kernel) (by decide +kernel)
theorem qm_129 : Cond.fieldLink "QuorumLog" 133 "QuorumLog$Server" "commit" "I" ∈ qu_W := qu_in 129 (by decide +kernel) (by decide +kernel)
theorem qm_130 : Cond.fieldLink "QuorumLog" 147 "QuorumLog$Server" "round" "I" ∈ qu_W := qu_in 130 (by decide +kernel) (by decide +kernel)
theorem qm_131 : Cond.fieldLink "QuorumLog" 58 "QuorumLog$Server" "yes" "I" ∈ qu_W := qu_in 131 (by decide +kernel) (by decide +kernel)
theorem qm_132 : Cond.laysFinal "QuorumLog$Server" "QuorumLog$Server" "number" "I" ∈ qu_W := qu_in 132 (by decide +kernel) (by decide +kernel)
theorem qm_134 : Cond.laysFinal "QuorumLog$Server" "QuorumLog$Server" "log" "LQuorumLog$Log;" ∈ qu_W := qu_in 134 (by decide +kernel) (by decide +kernel)
theorem qm_136 : Cond.laysFinal "QuorumLog$Server" "QuorumLog$Server" "next" "[I" ∈ qu_W := qu_in 136 (by decide +kernel) (by decide +kernel)
theorem qm_138 : Cond.laysFinal "QuorumLog$Server" "QuorumLog$Server" "match" "[I" ∈ qu_W := qu_in 138 (by decide +kernel) (by decide +kernel)
theorem qm_140 : Cond.laysFinal "QuorumLog$Server" "QuorumLog$Server" "confirmed" "[I" ∈ qu_W := qu_in 140 (by decide +kernel) (by decide +kernel)
theorem qm_142 : Cond.lays "QuorumLog$Server" "QuorumLog$Server" "up" "Z" ∈ qu_W := qu_in 142 (by decide +kernel) (by decide +kernel)
theorem qm_144 : Cond.lays "QuorumLog$Server" "QuorumLog$Server" "heard" "Z" ∈ qu_W := qu_in 144 (by decide +kernel) (by decide +kernel)
theorem qm_146 : Cond.lays "QuorumLog$Server" "QuorumLog$Server" "term" "I" ∈ qu_W := qu_in 146 (by decide +kernel) (by decide +kernel)
theorem qm_148 : Cond.lays "QuorumLog$Server" "QuorumLog$Server" "vote" "I" ∈ qu_W := qu_in 148 (by decide +kernel) (by decide +kernel)
theorem qm_150 : Cond.lays "QuorumLog$Server" "QuorumLog$Server" "role" "I" ∈ qu_W := qu_in 150 (by decide +kernel) (by decide +kernel)
theorem qm_152 : Cond.lays "QuorumLog$Server" "QuorumLog$Server" "commit" "I" ∈ qu_W := qu_in 152 (by decide +kernel) (by decide +kernel)
theorem qm_154 : Cond.lays "QuorumLog$Server" "QuorumLog$Server" "round" "I" ∈ qu_W := qu_in 154 (by decide +kernel) (by decide +kernel)
theorem qm_156 : Cond.lays "QuorumLog$Server" "QuorumLog$Server" "yes" "I" ∈ qu_W := qu_in 156 (by decide +kernel) (by decide +kernel)
theorem qm_159 : Cond.classLink "QuorumLog" 30 "QuorumLog$Row" ∈ qu_W := qu_in 159 (by decide +kernel) (by decide +kernel)
theorem qm_160 : Cond.instantiable "QuorumLog$Row" 3 ∈ qu_W := qu_in 160 (by decide +kernel) (by decide +kernel)
theorem qm_161 : Cond.methodLink "QuorumLog" 32 y_W_init ∈ qu_W := qu_in 161 (by decide +kernel) (by decide +kernel)
theorem qm_162 : Cond.instanceMethod y_W_init ∈ qu_W := qu_in 162 (by decide +kernel) (by decide +kernel)
theorem qm_163 : Cond.code y_W_init c_W_init 3 none ∈ qu_W := qu_in 163 (by decide +kernel) (by decide +kernel)
theorem qm_164 : Cond.methodLink "QuorumLog$Row" 3 Lib.objectInit ∈ qu_W := qu_in 164 (by decide +kernel) (by decide +kernel)
theorem qm_165 : Cond.classLink "QuorumLog$Row" 9 "QuorumLog$Message" ∈ qu_W := qu_in 165 (by decide +kernel) (by decide +kernel)
theorem qm_167 : Cond.instantiable "QuorumLog$Message" 12 ∈ qu_W := qu_in 167 (by decide +kernel) (by decide +kernel)
theorem qm_168 : Cond.methodLink "QuorumLog$Row" 17 y_M_init ∈ qu_W := qu_in 168 (by decide +kernel) (by decide +kernel)
theorem qm_169 : Cond.instanceMethod y_M_init ∈ qu_W := qu_in 169 (by decide +kernel) (by decide +kernel)
theorem qm_170 : Cond.code y_M_init c_M_init 2 none ∈ qu_W := qu_in 170 (by decide +kernel) (by decide +kernel)
theorem qm_171 : Cond.methodLink "QuorumLog$Message" 3 Lib.objectInit ∈ qu_W := qu_in 171 (by decide +kernel) (by decide +kernel)
theorem qm_172 : Cond.classLink "QuorumLog$Message" 9 "QuorumLog$Entry" ∈ qu_W := qu_in 172 (by decide +kernel) (by decide +kernel)
theorem qm_173 : Cond.fieldLink "QuorumLog$Message" 11 "QuorumLog$Message" "entries" "[LQuorumLog$Entry;" ∈ qu_W := qu_in 173 (by decide +kernel) (by decide +kernel)
theorem qm_174 : Cond.fieldLink "QuorumLog$Log" 80 "QuorumLog$Message" "entries" "[LQuorumLog$Entry;" ∈ qu_W := qu_in 174 (by decide +kernel) (by decide +kernel)
theorem qm_175 : Cond.fieldLink "QuorumLog" 295 "QuorumLog$Message" "entries" "[LQuorumLog$Entry;" ∈ qu_W := qu_in 175 (by decide +kernel) (by decide +kernel)
theorem qm_176 : Cond.fieldLink "QuorumLog$Message" 21 "QuorumLog$Message" "kind" "I" ∈ qu_W := qu_in 176 (by decide +kernel) (by decide +kernel)
theorem qm_177 : Cond.fieldLink "QuorumLog" 201 "QuorumLog$Message" "kind" "I" ∈ qu_W := qu_in 177 (by decide +kernel) (by decide +kernel)
theorem qm_178 : Cond.fieldLink "QuorumLog$Message" 25 "QuorumLog$Message" "sender" "I" ∈ qu_W := qu_in 178 (by decide +kernel) (by decide +kernel)
theorem qm_179 : Cond.fieldLink "QuorumLog" 209 "QuorumLog$Message" "sender" "I" ∈ qu_W := qu_in 179 (by decide +kernel) (by decide +kernel)
theorem qm_180 : Cond.fieldLink "QuorumLog$Message" 28 "QuorumLog$Message" "receiver" "I" ∈ qu_W := qu_in 180 (by decide +kernel) (by decide +kernel)
theorem qm_181 : Cond.fieldLink "QuorumLog" 192 "QuorumLog$Message" "receiver" "I" ∈ qu_W := qu_in 181 (by decide +kernel) (by decide +kernel)
theorem qm_182 : Cond.fieldLink "QuorumLog$Message" 31 "QuorumLog$Message" "term" "I" ∈ qu_W := qu_in 182 (by decide +kernel) (by decide +kernel)
theorem qm_183 : Cond.fieldLink "QuorumLog" 212 "QuorumLog$Message" "term" "I" ∈ qu_W := qu_in 183 (by decide +kernel) (by decide +kernel)
theorem qm_184 : Cond.fieldLink "QuorumLog$Message" 34 "QuorumLog$Message" "index" "I" ∈ qu_W := qu_in 184 (by decide +kernel) (by decide +kernel)
theorem qm_185 : Cond.fieldLink "QuorumLog$Log" 76 "QuorumLog$Message" "index" "I" ∈ qu_W := qu_in 185 (by decide +kernel) (by decide +kernel)
theorem qm_186 : Cond.fieldLink "QuorumLog" 213 "QuorumLog$Message" "index" "I" ∈ qu_W := qu_in 186 (by decide +kernel) (by decide +kernel)
theorem qm_187 : Cond.fieldLink "QuorumLog$Message" 37 "QuorumLog$Message" "logTerm" "I" ∈ qu_W := qu_in 187 (by decide +kernel) (by decide +kernel)
theorem qm_188 : Cond.fieldLink "QuorumLog$Log" 71 "QuorumLog$Message" "logTerm" "I" ∈ qu_W := qu_in 188 (by decide +kernel) (by decide +kernel)
theorem qm_189 : Cond.fieldLink "QuorumLog" 261 "QuorumLog$Message" "logTerm" "I" ∈ qu_W := qu_in 189 (by decide +kernel) (by decide +kernel)
theorem qm_190 : Cond.fieldLink "QuorumLog$Message" 40 "QuorumLog$Message" "size" "I" ∈ qu_W := qu_in 190 (by decide +kernel) (by decide +kernel)
theorem qm_191 : Cond.fieldLink "QuorumLog$Log" 77 "QuorumLog$Message" "size" "I" ∈ qu_W := qu_in 191 (by decide +kernel) (by decide +kernel)
theorem qm_192 : Cond.fieldLink "QuorumLog" 214 "QuorumLog$Message" "size" "I" ∈ qu_W := qu_in 192 (by decide +kernel) (by decide +kernel)
theorem qm_193 : Cond.fieldLink "QuorumLog$Message" 43 "QuorumLog$Message" "commit" "I" ∈ qu_W := qu_in 193 (by decide +kernel) (by decide +kernel)
theorem qm_194 : Cond.fieldLink "QuorumLog" 294 "QuorumLog$Message" "commit" "I" ∈ qu_W := qu_in 194 (by decide +kernel) (by decide +kernel)
theorem qm_195 : Cond.fieldLink "QuorumLog$Message" 46 "QuorumLog$Message" "round" "I" ∈ qu_W := qu_in 195 (by decide +kernel) (by decide +kernel)
theorem qm_196 : Cond.fieldLink "QuorumLog" 219 "QuorumLog$Message" "round" "I" ∈ qu_W := qu_in 196 (by decide +kernel) (by decide +kernel)
theorem qm_197 : Cond.fieldLink "QuorumLog$Message" 49 "QuorumLog$Message" "yes" "Z" ∈ qu_W := qu_in 197 (by decide +kernel) (by decide +kernel)
theorem qm_198 : Cond.fieldLink "QuorumLog" 217 "QuorumLog$Message" "yes" "Z" ∈ qu_W := qu_in 198 (by decide +kernel) (by decide +kernel)
theorem qm_199 : Cond.fieldLink "QuorumLog$Message" 17 "QuorumLog$Message" "snapshot" "LQuorumLog$Snapshot;" ∈ qu_W := qu_in 199 (by decide +kernel) (by decide +kernel)
theorem qm_200 : Cond.fieldLink "QuorumLog" 293 "QuorumLog$Message" "snapshot" "LQuorumLog$Snapshot;" ∈ qu_W := qu_in 200 (by decide +kernel) (by decide +kernel)
theorem qm_201 : Cond.laysFinal "QuorumLog$Message" "QuorumLog$Message" "entries" "[LQuorumLog$Entry;" ∈ qu_W := qu_in 201 (by decide +kernel) (by decide +kernel)
theorem qm_203 : Cond.lays "QuorumLog$Message" "QuorumLog$Message" "kind" "I" ∈ qu_W := qu_in 203 (by decide +kernel) (by decide +kernel)
theorem qm_205 : Cond.lays "QuorumLog$Message" "QuorumLog$Message" "sender" "I" ∈ qu_W := qu_in 205 (by decide +kernel) (by decide +kernel)
theorem qm_207 : Cond.lays "QuorumLog$Message" "QuorumLog$Message" "receiver" "I" ∈ qu_W := qu_in 207 (by decide +kernel) (by decide +kernel)
theorem qm_209 : Cond.lays "QuorumLog$Message" "QuorumLog$Message" "term" "I" ∈ qu_W := qu_in 209 (by decide +kernel) (by decide +kernel)
theorem qm_211 : Cond.lays "QuorumLog$Message" "QuorumLog$Message" "index" "I" ∈ qu_W := qu_in 211 (by decide +kernel) (by decide +kernel)
theorem qm_213 : Cond.lays "QuorumLog$Message" "QuorumLog$Message" "logTerm" "I" ∈ qu_W := qu_in 213 (by decide +kernel) (by decide +kernel)
theorem qm_215 : Cond.lays "QuorumLog$Message" "QuorumLog$Message" "size" "I" ∈ qu_W := qu_in 215 (by decide +kernel) (by decide +kernel)
theorem qm_217 : Cond.lays "QuorumLog$Message" "QuorumLog$Message" "commit" "I" ∈ qu_W := qu_in 217 (by decide +kernel) (by decide +kernel)
theorem qm_219 : Cond.lays "QuorumLog$Message" "QuorumLog$Message" "round" "I" ∈ qu_W := qu_in 219 (by decide +kernel) (by decide +kernel)
theorem qm_221 : Cond.lays "QuorumLog$Message" "QuorumLog$Message" "yes" "Z" ∈ qu_W := qu_in 221 (by decide +kernel) (by decide +kernel)
theorem qm_223 : Cond.lays "QuorumLog$Message" "QuorumLog$Message" "snapshot" "LQuorumLog$Snapshot;" ∈ qu_W := qu_in 223 (by decide +kernel) (by decide +kernel)
theorem qm_226 : Cond.fieldLink "QuorumLog$Row" 11 "QuorumLog$Row" "places" "[LQuorumLog$Message;" ∈ qu_W := qu_in 226 (by decide +kernel) (by decide +kernel)
theorem qm_227 : Cond.fieldLink "QuorumLog" 205 "QuorumLog$Row" "places" "[LQuorumLog$Message;" ∈ qu_W := qu_in 227 (by decide +kernel) (by decide +kernel)
theorem qm_228 : Cond.fieldLink "QuorumLog$Row" 20 "QuorumLog$Row" "taken" "LQuorumLog$Message;" ∈ qu_W := qu_in 228 (by decide +kernel) (by decide +kernel)
theorem qm_229 : Cond.fieldLink "QuorumLog$Row" 24 "QuorumLog$Row" "count" "I" ∈ qu_W := qu_in 229 (by decide +kernel) (by decide +kernel)
theorem qm_230 : Cond.fieldLink "QuorumLog" 204 "QuorumLog$Row" "count" "I" ∈ qu_W := qu_in 230 (by decide +kernel) (by decide +kernel)
theorem qm_231 : Cond.laysFinal "QuorumLog$Row" "QuorumLog$Row" "places" "[LQuorumLog$Message;" ∈ qu_W := qu_in 231 (by decide +kernel) (by decide +kernel)
theorem qm_233 : Cond.lays "QuorumLog$Row" "QuorumLog$Row" "taken" "LQuorumLog$Message;" ∈ qu_W := qu_in 233 (by decide +kernel) (by decide +kernel)
theorem qm_235 : Cond.lays "QuorumLog$Row" "QuorumLog$Row" "count" "I" ∈ qu_W := qu_in 235 (by decide +kernel) (by decide +kernel)
theorem qm_238 : Cond.fieldLink "QuorumLog" 11 "QuorumLog" "servers" "[LQuorumLog$Server;" ∈ qu_W := qu_in 238 (by decide +kernel) (by decide +kernel)
theorem qm_239 : Cond.fieldLink "QuorumLog" 35 "QuorumLog" "row" "LQuorumLog$Row;" ∈ qu_W := qu_in 239 (by decide +kernel) (by decide +kernel)
theorem qm_240 : Cond.fieldLink "QuorumLog" 18 "QuorumLog" "reads" "LQuorumLog$Reads;" ∈ qu_W := qu_in 240 (by decide +kernel) (by decide +kernel)
theorem qm_241 : Cond.laysFinal "QuorumLog" "QuorumLog" "servers" "[LQuorumLog$Server;" ∈ qu_W := qu_in 241 (by decide +kernel) (by decide +kernel)
theorem qm_243 : Cond.laysFinal "QuorumLog" "QuorumLog" "row" "LQuorumLog$Row;" ∈ qu_W := qu_in 243 (by decide +kernel) (by decide +kernel)
theorem qm_245 : Cond.laysFinal "QuorumLog" "QuorumLog" "reads" "LQuorumLog$Reads;" ∈ qu_W := qu_in 245 (by decide +kernel) (by decide +kernel)
theorem qm_251 : Cond.code y_Q_timer c_Q_timer 3 (some .boolean) ∈ qu_W := qu_in 251 (by decide +kernel) (by decide +kernel)
theorem qm_252 : Cond.methodLink "QuorumLog" 39 y_Q_isServer ∈ qu_W := qu_in 252 (by decide +kernel) (by decide +kernel)
theorem qm_253 : Cond.static y_Q_isServer ∈ qu_W := qu_in 253 (by decide +kernel) (by decide +kernel)
theorem qm_254 : Cond.code y_Q_isServer c_Q_isServer 1 (some .boolean) ∈ qu_W := qu_in 254 (by decide +kernel) (by decide +kernel)
theorem qm_255 : Cond.methodLink "QuorumLog" 43 y_S_mayAsk ∈ qu_W := qu_in 255 (by decide +kernel) (by decide +kernel)
theorem qm_256 : Cond.instanceMethod y_S_mayAsk ∈ qu_W := qu_in 256 (by decide +kernel) (by decide +kernel)
theorem qm_257 : Cond.selects "QuorumLog$Server" y_S_mayAsk y_S_mayAsk ∈ qu_W := qu_in 257 (by decide +kernel) (by decide +kernel)
theorem qm_258 : Cond.code y_S_mayAsk c_S_mayAsk 1 (some .boolean) ∈ qu_W := qu_in 258 (by decide +kernel) (by decide +kernel)
theorem qm_259 : Cond.methodLink "QuorumLog$Server" 44 y_L_configuration ∈ qu_W := qu_in 259 (by decide +kernel) (by decide +kernel)
theorem qm_260 : Cond.instanceMethod y_L_configuration ∈ qu_W := qu_in 260 (by decide +kernel) (by decide +kernel)
theorem qm_261 : Cond.selects "QuorumLog$Log" y_L_configuration y_L_configuration ∈ qu_W := qu_in 261 (by decide +kernel) (by decide +kernel)
theorem qm_262 : Cond.code y_L_configuration c_L_configuration 1 (some .int) ∈ qu_W := qu_in 262 (by decide +kernel) (by decide +kernel)
theorem qm_263 : Cond.methodLink "QuorumLog$Log" 30 y_L_last ∈ qu_W := qu_in 263 (by decide +kernel) (by decide +kernel)
theorem qm_264 : Cond.instanceMethod y_L_last ∈ qu_W := qu_in 264 (by decide +kernel) (by decide +kernel)
theorem qm_265 : Cond.selects "QuorumLog$Log" y_L_last y_L_last ∈ qu_W := qu_in 265 (by decide +kernel) (by decide +kernel)
theorem qm_266 : Cond.code y_L_last c_L_last 1 (some .int) ∈ qu_W := qu_in 266 (by decide +kernel) (by decide +kernel)
theorem qm_267 : Cond.methodLink "QuorumLog$Log" 49 y_L_latestMembersUpTo ∈ qu_W := qu_in 267 (by decide +kernel) (by decide +kernel)
theorem qm_268 : Cond.instanceMethod y_L_latestMembersUpTo ∈ qu_W := qu_in 268 (by decide +kernel) (by decide +kernel)
theorem qm_269 : Cond.selects "QuorumLog$Log" y_L_latestMembersUpTo y_L_latestMembersUpTo ∈ qu_W := qu_in 269 (by decide +kernel) (by decide +kernel)
theorem qm_270 : Cond.code y_L_latestMembersUpTo c_L_latestMembersUpTo 4 (some .int) ∈ qu_W := qu_in 270 (by decide +kernel) (by decide +kernel)
theorem qm_271 : Cond.methodLink "QuorumLog$Log" 41 y_L_find ∈ qu_W := qu_in 271 (by decide +kernel) (by decide +kernel)
theorem qm_272 : Cond.instanceMethod y_L_find ∈ qu_W := qu_in 272 (by decide +kernel) (by decide +kernel)
theorem qm_273 : Cond.selects "QuorumLog$Log" y_L_find y_L_find ∈ qu_W := qu_in 273 (by decide +kernel) (by decide +kernel)
theorem qm_274 : Cond.code y_L_find c_L_find 3 (some (.object "QuorumLog$Entry")) ∈ qu_W := qu_in 274 (by decide +kernel) (by decide +kernel)
theorem qm_275 : Cond.methodLink "QuorumLog$Log" 52 y_L_membersAt ∈ qu_W := qu_in 275 (by decide +kernel) (by decide +kernel)
theorem qm_276 : Cond.instanceMethod y_L_membersAt ∈ qu_W := qu_in 276 (by decide +kernel) (by decide +kernel)
theorem qm_277 : Cond.selects "QuorumLog$Log" y_L_membersAt y_L_membersAt ∈ qu_W := qu_in 277 (by decide +kernel) (by decide +kernel)
theorem qm_278 : Cond.code y_L_membersAt c_L_membersAt 3 (some .int) ∈ qu_W := qu_in 278 (by decide +kernel) (by decide +kernel)
theorem qm_280 : Cond.static y_Q_isIn ∈ qu_W := qu_in 280 (by decide +kernel) (by decide +kernel)
theorem qm_281 : Cond.code y_Q_isIn c_Q_isIn 2 (some .boolean) ∈ qu_W := qu_in 281 (by decide +kernel) (by decide +kernel)
theorem qm_282 : Cond.methodLink "QuorumLog" 64 y_Q_askAll ∈ qu_W := qu_in 282 (by decide +kernel) (by decide +kernel)
theorem qm_284 : Cond.instanceMethod y_Q_askAll ∈ qu_W := qu_in 284 (by decide +kernel) (by decide +kernel)
theorem qm_285 : Cond.code y_Q_askAll c_Q_askAll 7 none ∈ qu_W := qu_in 285 (by decide +kernel) (by decide +kernel)
theorem qm_286 : Cond.methodLink "QuorumLog" 115 y_L_configuration ∈ qu_W := qu_in 286 (by decide +kernel) (by decide +kernel)
theorem qm_287 : Cond.methodLink "QuorumLog" 250 y_Q_isIn ∈ qu_W := qu_in 287 (by decide +kernel) (by decide +kernel)
theorem qm_288 : Cond.methodLink "QuorumLog" 254 y_W_send ∈ qu_W := qu_in 288 (by decide +kernel) (by decide +kernel)
theorem qm_289 : Cond.instanceMethod y_W_send ∈ qu_W := qu_in 289 (by decide +kernel) (by decide +kernel)
theorem qm_290 : Cond.selects "QuorumLog$Row" y_W_send y_W_send ∈ qu_W := qu_in 290 (by decide +kernel) (by decide +kernel)
theorem qm_291 : Cond.code y_W_send c_W_send 6 (some (.object "QuorumLog$Message")) ∈ qu_W := qu_in 291 (by decide +kernel) (by decide +kernel)
theorem qm_292 : Cond.methodLink "QuorumLog$Row" 28 y_M_begin ∈ qu_W := qu_in 292 (by decide +kernel) (by decide +kernel)
theorem qm_293 : Cond.instanceMethod y_M_begin ∈ qu_W := qu_in 293 (by decide +kernel) (by decide +kernel)
theorem qm_294 : Cond.selects "QuorumLog$Message" y_M_begin y_M_begin ∈ qu_W := qu_in 294 (by decide +kernel) (by decide +kernel)
theorem qm_295 : Cond.code y_M_begin c_M_begin 5 none ∈ qu_W := qu_in 295 (by decide +kernel) (by decide +kernel)
theorem qm_296 : Cond.methodLink "QuorumLog" 126 y_L_last ∈ qu_W := qu_in 296 (by decide +kernel) (by decide +kernel)
theorem qm_297 : Cond.methodLink "QuorumLog" 258 y_L_lastTerm ∈ qu_W := qu_in 297 (by decide +kernel) (by decide +kernel)
theorem qm_298 : Cond.instanceMethod y_L_lastTerm ∈ qu_W := qu_in 298 (by decide +kernel) (by decide +kernel)
theorem qm_299 : Cond.selects "QuorumLog$Log" y_L_lastTerm y_L_lastTerm ∈ qu_W := qu_in 299 (by decide +kernel) (by decide +kernel)
theorem qm_300 : Cond.code y_L_lastTerm c_L_lastTerm 1 (some .int) ∈ qu_W := qu_in 300 (by decide +kernel) (by decide +kernel)
theorem qm_301 : Cond.methodLink "QuorumLog$Log" 34 y_L_termAt ∈ qu_W := qu_in 301 (by decide +kernel) (by decide +kernel)
theorem qm_302 : Cond.instanceMethod y_L_termAt ∈ qu_W := qu_in 302 (by decide +kernel) (by decide +kernel)
theorem qm_303 : Cond.selects "QuorumLog$Log" y_L_termAt y_L_termAt ∈ qu_W := qu_in 303 (by decide +kernel) (by decide +kernel)
theorem qm_304 : Cond.code y_L_termAt c_L_termAt 3 (some .int) ∈ qu_W := qu_in 304 (by decide +kernel) (by decide +kernel)
theorem qm_305 : Cond.methodLink "QuorumLog" 68 y_Q_standIfMostSaidYes ∈ qu_W := qu_in 305 (by decide +kernel) (by decide +kernel)
theorem qm_307 : Cond.instanceMethod y_Q_standIfMostSaidYes ∈ qu_W := qu_in 307 (by decide +kernel) (by decide +kernel)
theorem qm_308 : Cond.code y_Q_standIfMostSaidYes c_Q_standIfMostSaidYes 2 none ∈ qu_W := qu_in 308 (by decide +kernel) (by decide +kernel)
theorem qm_309 : Cond.methodLink "QuorumLog" 264 y_Q_areMost ∈ qu_W := qu_in 309 (by decide +kernel) (by decide +kernel)
theorem qm_310 : Cond.static y_Q_areMost ∈ qu_W := qu_in 310 (by decide +kernel) (by decide +kernel)
theorem qm_311 : Cond.code y_Q_areMost c_Q_areMost 2 (some .boolean) ∈ qu_W := qu_in 311 (by decide +kernel) (by decide +kernel)
theorem qm_312 : Cond.methodLink "QuorumLog" 243 y_I_bitCount ∈ qu_W := qu_in 312 (by decide +kernel) (by decide +kernel)
theorem qm_313 : Cond.static y_I_bitCount ∈ qu_W := qu_in 313 (by decide +kernel) (by decide +kernel)
theorem qm_314 : Cond.code y_I_bitCount c_I_bitCount 1 (some .int) ∈ qu_W := qu_in 314 (by decide +kernel) (by decide +kernel)
theorem qm_318 : Cond.methodLink "QuorumLog" 72 y_Q_leadIfMostSaidYes ∈ qu_W := qu_in 318 (by decide +kernel) (by decide +kernel)
theorem qm_320 : Cond.instanceMethod y_Q_leadIfMostSaidYes ∈ qu_W := qu_in 320 (by decide +kernel) (by decide +kernel)
theorem qm_321 : Cond.code y_Q_leadIfMostSaidYes c_Q_leadIfMostSaidYes 3 none ∈ qu_W := qu_in 321 (by decide +kernel) (by decide +kernel)
theorem qm_322 : Cond.classLink "QuorumLog" 101 "QuorumLog$Entry" ∈ qu_W := qu_in 322 (by decide +kernel) (by decide +kernel)
theorem qm_323 : Cond.instantiable "QuorumLog$Entry" 4 ∈ qu_W := qu_in 323 (by decide +kernel) (by decide +kernel)
theorem qm_324 : Cond.methodLink "QuorumLog" 103 y_E_init ∈ qu_W := qu_in 324 (by decide +kernel) (by decide +kernel)
theorem qm_325 : Cond.instanceMethod y_E_init ∈ qu_W := qu_in 325 (by decide +kernel) (by decide +kernel)
theorem qm_326 : Cond.code y_E_init c_E_init 5 none ∈ qu_W := qu_in 326 (by decide +kernel) (by decide +kernel)
theorem qm_327 : Cond.methodLink "QuorumLog$Entry" 1 Lib.objectInit ∈ qu_W := qu_in 327 (by decide +kernel) (by decide +kernel)
theorem qm_328 : Cond.fieldLink "QuorumLog$Entry" 7 "QuorumLog$Entry" "term" "I" ∈ qu_W := qu_in 328 (by decide +kernel) (by decide +kernel)
theorem qm_329 : Cond.fieldLink "QuorumLog$Log" 45 "QuorumLog$Entry" "term" "I" ∈ qu_W := qu_in 329 (by decide +kernel) (by decide +kernel)
theorem qm_330 : Cond.fieldLink "QuorumLog" 227 "QuorumLog$Entry" "term" "I" ∈ qu_W := qu_in 330 (by decide +kernel) (by decide +kernel)
theorem qm_331 : Cond.fieldLink "QuorumLog$Entry" 13 "QuorumLog$Entry" "sort" "I" ∈ qu_W := qu_in 331 (by decide +kernel) (by decide +kernel)
theorem qm_332 : Cond.fieldLink "QuorumLog$Log" 46 "QuorumLog$Entry" "sort" "I" ∈ qu_W := qu_in 332 (by decide +kernel) (by decide +kernel)
theorem qm_333 : Cond.fieldLink "QuorumLog" 228 "QuorumLog$Entry" "sort" "I" ∈ qu_W := qu_in 333 (by decide +kernel) (by decide +kernel)
theorem qm_334 : Cond.fieldLink "QuorumLog$Entry" 16 "QuorumLog$Entry" "subject" "I" ∈ qu_W := qu_in 334 (by decide +kernel) (by decide +kernel)
theorem qm_335 : Cond.fieldLink "QuorumLog$Log" 58 "QuorumLog$Entry" "subject" "I" ∈ qu_W := qu_in 335 (by decide +kernel) (by decide +kernel)
theorem qm_336 : Cond.fieldLink "QuorumLog" 231 "QuorumLog$Entry" "subject" "I" ∈ qu_W := qu_in 336 (by decide +kernel) (by decide +kernel)
theorem qm_337 : Cond.fieldLink "QuorumLog$Entry" 19 "QuorumLog$Entry" "value" "I" ∈ qu_W := qu_in 337 (by decide +kernel) (by decide +kernel)
theorem qm_338 : Cond.fieldLink "QuorumLog$Log" 61 "QuorumLog$Entry" "value" "I" ∈ qu_W := qu_in 338 (by decide +kernel) (by decide +kernel)
theorem qm_339 : Cond.fieldLink "QuorumLog" 234 "QuorumLog$Entry" "value" "I" ∈ qu_W := qu_in 339 (by decide +kernel) (by decide +kernel)
theorem qm_340 : Cond.laysFinal "QuorumLog$Entry" "QuorumLog$Entry" "term" "I" ∈ qu_W := qu_in 340 (by decide +kernel) (by decide +kernel)
theorem qm_342 : Cond.laysFinal "QuorumLog$Entry" "QuorumLog$Entry" "sort" "I" ∈ qu_W := qu_in 342 (by decide +kernel) (by decide +kernel)
theorem qm_344 : Cond.laysFinal "QuorumLog$Entry" "QuorumLog$Entry" "subject" "I" ∈ qu_W := qu_in 344 (by decide +kernel) (by decide +kernel)
theorem qm_346 : Cond.laysFinal "QuorumLog$Entry" "QuorumLog$Entry" "value" "I" ∈ qu_W := qu_in 346 (by decide +kernel) (by decide +kernel)
theorem qm_349 : Cond.methodLink "QuorumLog" 106 y_Q_append ∈ qu_W := qu_in 349 (by decide +kernel) (by decide +kernel)
theorem qm_351 : Cond.instanceMethod y_Q_append ∈ qu_W := qu_in 351 (by decide +kernel) (by decide +kernel)
theorem qm_352 : Cond.code y_Q_append c_Q_append 3 (some .int) ∈ qu_W := qu_in 352 (by decide +kernel) (by decide +kernel)
theorem qm_353 : Cond.methodLink "QuorumLog" 276 y_L_add ∈ qu_W := qu_in 353 (by decide +kernel) (by decide +kernel)
theorem qm_354 : Cond.instanceMethod y_L_add ∈ qu_W := qu_in 354 (by decide +kernel) (by decide +kernel)
theorem qm_355 : Cond.selects "QuorumLog$Log" y_L_add y_L_add ∈ qu_W := qu_in 355 (by decide +kernel) (by decide +kernel)
theorem qm_356 : Cond.code y_L_add c_L_add 2 (some .boolean) ∈ qu_W := qu_in 356 (by decide +kernel) (by decide +kernel)
theorem qm_357 : Cond.methodLink "QuorumLog" 280 y_Q_lookAtCommit ∈ qu_W := qu_in 357 (by decide +kernel) (by decide +kernel)
theorem qm_359 : Cond.instanceMethod y_Q_lookAtCommit ∈ qu_W := qu_in 359 (by decide +kernel) (by decide +kernel)
theorem qm_360 : Cond.code y_Q_lookAtCommit c_Q_lookAtCommit 4 none ∈ qu_W := qu_in 360 (by decide +kernel) (by decide +kernel)
theorem qm_361 : Cond.methodLink "QuorumLog" 283 y_L_termAt ∈ qu_W := qu_in 361 (by decide +kernel) (by decide +kernel)
theorem qm_362 : Cond.methodLink "QuorumLog" 286 y_S_holdersOf ∈ qu_W := qu_in 362 (by decide +kernel) (by decide +kernel)
theorem qm_363 : Cond.instanceMethod y_S_holdersOf ∈ qu_W := qu_in 363 (by decide +kernel) (by decide +kernel)
theorem qm_364 : Cond.selects "QuorumLog$Server" y_S_holdersOf y_S_holdersOf ∈ qu_W := qu_in 364 (by decide +kernel) (by decide +kernel)
theorem qm_365 : Cond.code y_S_holdersOf c_S_holdersOf 2 (some .int) ∈ qu_W := qu_in 365 (by decide +kernel) (by decide +kernel)
theorem qm_366 : Cond.methodLink "QuorumLog$Server" 69 y_S_reachedBy ∈ qu_W := qu_in 366 (by decide +kernel) (by decide +kernel)
theorem qm_368 : Cond.instanceMethod y_S_reachedBy ∈ qu_W := qu_in 368 (by decide +kernel) (by decide +kernel)
theorem qm_369 : Cond.code y_S_reachedBy c_S_reachedBy 5 (some .int) ∈ qu_W := qu_in 369 (by decide +kernel) (by decide +kernel)
theorem qm_370 : Cond.methodLink "QuorumLog" 129 y_L_latestMembersUpTo ∈ qu_W := qu_in 370 (by decide +kernel) (by decide +kernel)
theorem qm_371 : Cond.methodLink "QuorumLog" 184 y_Q_follow ∈ qu_W := qu_in 371 (by decide +kernel) (by decide +kernel)
theorem qm_373 : Cond.instanceMethod y_Q_follow ∈ qu_W := qu_in 373 (by decide +kernel) (by decide +kernel)
theorem qm_374 : Cond.code y_Q_follow c_Q_follow 2 none ∈ qu_W := qu_in 374 (by decide +kernel) (by decide +kernel)
theorem qm_375 : Cond.methodLink "QuorumLog" 315 y_R_failAllOf ∈ qu_W := qu_in 375 (by decide +kernel) (by decide +kernel)
theorem qm_376 : Cond.instanceMethod y_R_failAllOf ∈ qu_W := qu_in 376 (by decide +kernel) (by decide +kernel)
theorem qm_377 : Cond.selects "QuorumLog$Reads" y_R_failAllOf y_R_failAllOf ∈ qu_W := qu_in 377 (by decide +kernel) (by decide +kernel)
theorem qm_378 : Cond.code y_R_failAllOf c_R_failAllOf 3 none ∈ qu_W := qu_in 378 (by decide +kernel) (by decide +kernel)
theorem qm_379 : Cond.methodLink "QuorumLog$Reads" 31 y_R_isKeptBy ∈ qu_W := qu_in 379 (by decide +kernel) (by decide +kernel)
theorem qm_380 : Cond.instanceMethod y_R_isKeptBy ∈ qu_W := qu_in 380 (by decide +kernel) (by decide +kernel)
theorem qm_381 : Cond.selects "QuorumLog$Reads" y_R_isKeptBy y_R_isKeptBy ∈ qu_W := qu_in 381 (by decide +kernel) (by decide +kernel)
theorem qm_382 : Cond.code y_R_isKeptBy c_R_isKeptBy 3 (some .boolean) ∈ qu_W := qu_in 382 (by decide +kernel) (by decide +kernel)
theorem qm_383 : Cond.methodLink "QuorumLog" 78 y_Q_sendToAll ∈ qu_W := qu_in 383 (by decide +kernel) (by decide +kernel)
theorem qm_385 : Cond.instanceMethod y_Q_sendToAll ∈ qu_W := qu_in 385 (by decide +kernel) (by decide +kernel)
theorem qm_386 : Cond.code y_Q_sendToAll c_Q_sendToAll 4 none ∈ qu_W := qu_in 386 (by decide +kernel) (by decide +kernel)
theorem qm_387 : Cond.methodLink "QuorumLog" 289 y_Q_sendTo ∈ qu_W := qu_in 387 (by decide +kernel) (by decide +kernel)
theorem qm_389 : Cond.instanceMethod y_Q_sendTo ∈ qu_W := qu_in 389 (by decide +kernel) (by decide +kernel)
theorem qm_390 : Cond.code y_Q_sendTo c_Q_sendTo 6 none ∈ qu_W := qu_in 390 (by decide +kernel) (by decide +kernel)
theorem qm_391 : Cond.methodLink "QuorumLog" 299 y_L_copyBehind ∈ qu_W := qu_in 391 (by decide +kernel) (by decide +kernel)
theorem qm_392 : Cond.instanceMethod y_L_copyBehind ∈ qu_W := qu_in 392 (by decide +kernel) (by decide +kernel)
theorem qm_393 : Cond.selects "QuorumLog$Log" y_L_copyBehind y_L_copyBehind ∈ qu_W := qu_in 393 (by decide +kernel) (by decide +kernel)
theorem qm_394 : Cond.code y_L_copyBehind c_L_copyBehind 5 (some .int) ∈ qu_W := qu_in 394 (by decide +kernel) (by decide +kernel)
theorem qm_398 : Cond.code y_Q_beat c_Q_beat 2 (some .boolean) ∈ qu_W := qu_in 398 (by decide +kernel) (by decide +kernel)
theorem qm_399 : Cond.methodLink "QuorumLog" 75 y_S_leads ∈ qu_W := qu_in 399 (by decide +kernel) (by decide +kernel)
theorem qm_400 : Cond.instanceMethod y_S_leads ∈ qu_W := qu_in 400 (by decide +kernel) (by decide +kernel)
theorem qm_401 : Cond.selects "QuorumLog$Server" y_S_leads y_S_leads ∈ qu_W := qu_in 401 (by decide +kernel) (by decide +kernel)
theorem qm_402 : Cond.code y_S_leads c_S_leads 1 (some .boolean) ∈ qu_W := qu_in 402 (by decide +kernel) (by decide +kernel)
theorem qm_406 : Cond.code y_Q_outcome c_Q_outcome 2 (some .int) ∈ qu_W := qu_in 406 (by decide +kernel) (by decide +kernel)
theorem qm_407 : Cond.methodLink "QuorumLog" 157 y_R_holds ∈ qu_W := qu_in 407 (by decide +kernel) (by decide +kernel)
theorem qm_408 : Cond.instanceMethod y_R_holds ∈ qu_W := qu_in 408 (by decide +kernel) (by decide +kernel)
theorem qm_409 : Cond.selects "QuorumLog$Reads" y_R_holds y_R_holds ∈ qu_W := qu_in 409 (by decide +kernel) (by decide +kernel)
theorem qm_410 : Cond.code y_R_holds c_R_holds 2 (some .boolean) ∈ qu_W := qu_in 410 (by decide +kernel) (by decide +kernel)
theorem qm_414 : Cond.code y_Q_value c_Q_value 2 (some .int) ∈ qu_W := qu_in 414 (by decide +kernel) (by decide +kernel)
theorem qm_418 : Cond.code y_Q_compact c_Q_compact 3 (some .boolean) ∈ qu_W := qu_in 418 (by decide +kernel) (by decide +kernel)
theorem qm_419 : Cond.methodLink "QuorumLog" 177 y_L_snapshotAt ∈ qu_W := qu_in 419 (by decide +kernel) (by decide +kernel)
theorem qm_420 : Cond.instanceMethod y_L_snapshotAt ∈ qu_W := qu_in 420 (by decide +kernel) (by decide +kernel)
theorem qm_421 : Cond.selects "QuorumLog$Log" y_L_snapshotAt y_L_snapshotAt ∈ qu_W := qu_in 421 (by decide +kernel) (by decide +kernel)
theorem qm_422 : Cond.code y_L_snapshotAt c_L_snapshotAt 4 (some (.object "QuorumLog$Snapshot")) ∈ qu_W := qu_in 422 (by decide +kernel) (by decide +kernel)
theorem qm_423 : Cond.methodLink "QuorumLog$Log" 93 y_L_storedUpTo ∈ qu_W := qu_in 423 (by decide +kernel) (by decide +kernel)
theorem qm_424 : Cond.instanceMethod y_L_storedUpTo ∈ qu_W := qu_in 424 (by decide +kernel) (by decide +kernel)
theorem qm_425 : Cond.selects "QuorumLog$Log" y_L_storedUpTo y_L_storedUpTo ∈ qu_W := qu_in 425 (by decide +kernel) (by decide +kernel)
theorem qm_426 : Cond.code y_L_storedUpTo c_L_storedUpTo 5 (some .int) ∈ qu_W := qu_in 426 (by decide +kernel) (by decide +kernel)
theorem qm_427 : Cond.classLink "QuorumLog$Log" 22 "QuorumLog$Snapshot" ∈ qu_W := qu_in 427 (by decide +kernel) (by decide +kernel)
theorem qm_428 : Cond.methodLink "QuorumLog$Log" 97 y_N_init ∈ qu_W := qu_in 428 (by decide +kernel) (by decide +kernel)
theorem qm_429 : Cond.methodLink "QuorumLog" 181 y_L_beginBehind ∈ qu_W := qu_in 429 (by decide +kernel) (by decide +kernel)
theorem qm_430 : Cond.instanceMethod y_L_beginBehind ∈ qu_W := qu_in 430 (by decide +kernel) (by decide +kernel)
theorem qm_431 : Cond.selects "QuorumLog$Log" y_L_beginBehind y_L_beginBehind ∈ qu_W := qu_in 431 (by decide +kernel) (by decide +kernel)
theorem qm_432 : Cond.code y_L_beginBehind c_L_beginBehind 6 none ∈ qu_W := qu_in 432 (by decide +kernel) (by decide +kernel)
theorem qm_436 : Cond.code y_Q_crash c_Q_crash 3 (some .boolean) ∈ qu_W := qu_in 436 (by decide +kernel) (by decide +kernel)
theorem qm_440 : Cond.code y_Q_restart c_Q_restart 2 (some .boolean) ∈ qu_W := qu_in 440 (by decide +kernel) (by decide +kernel)
theorem qm_444 : Cond.code y_Q_deliver c_Q_deliver 4 (some .int) ∈ qu_W := qu_in 444 (by decide +kernel) (by decide +kernel)
theorem qm_445 : Cond.methodLink "QuorumLog" 187 y_W_holds ∈ qu_W := qu_in 445 (by decide +kernel) (by decide +kernel)
theorem qm_446 : Cond.instanceMethod y_W_holds ∈ qu_W := qu_in 446 (by decide +kernel) (by decide +kernel)
theorem qm_447 : Cond.selects "QuorumLog$Row" y_W_holds y_W_holds ∈ qu_W := qu_in 447 (by decide +kernel) (by decide +kernel)
theorem qm_448 : Cond.code y_W_holds c_W_holds 2 (some .boolean) ∈ qu_W := qu_in 448 (by decide +kernel) (by decide +kernel)
theorem qm_449 : Cond.methodLink "QuorumLog" 188 y_W_take ∈ qu_W := qu_in 449 (by decide +kernel) (by decide +kernel)
theorem qm_450 : Cond.instanceMethod y_W_take ∈ qu_W := qu_in 450 (by decide +kernel) (by decide +kernel)
theorem qm_451 : Cond.selects "QuorumLog$Row" y_W_take y_W_take ∈ qu_W := qu_in 451 (by decide +kernel) (by decide +kernel)
theorem qm_452 : Cond.code y_W_take c_W_take 4 (some (.object "QuorumLog$Message")) ∈ qu_W := qu_in 452 (by decide +kernel) (by decide +kernel)
theorem qm_453 : Cond.methodLink "QuorumLog" 197 y_Q_come ∈ qu_W := qu_in 453 (by decide +kernel) (by decide +kernel)
theorem qm_455 : Cond.instanceMethod y_Q_come ∈ qu_W := qu_in 455 (by decide +kernel) (by decide +kernel)
theorem qm_456 : Cond.code y_Q_come c_Q_come 3 none ∈ qu_W := qu_in 456 (by decide +kernel) (by decide +kernel)
theorem qm_457 : Cond.methodLink "QuorumLog" 319 y_Q_enterTerm ∈ qu_W := qu_in 457 (by decide +kernel) (by decide +kernel)
theorem qm_459 : Cond.instanceMethod y_Q_enterTerm ∈ qu_W := qu_in 459 (by decide +kernel) (by decide +kernel)
theorem qm_460 : Cond.code y_Q_enterTerm c_Q_enterTerm 3 none ∈ qu_W := qu_in 460 (by decide +kernel) (by decide +kernel)
theorem qm_461 : Cond.methodLink "QuorumLog" 322 y_Q_questionComes ∈ qu_W := qu_in 461 (by decide +kernel) (by decide +kernel)
theorem qm_463 : Cond.instanceMethod y_Q_questionComes ∈ qu_W := qu_in 463 (by decide +kernel) (by decide +kernel)
theorem qm_464 : Cond.code y_Q_questionComes c_Q_questionComes 5 none ∈ qu_W := qu_in 464 (by decide +kernel) (by decide +kernel)
theorem qm_465 : Cond.methodLink "QuorumLog" 343 y_L_isBehindOf ∈ qu_W := qu_in 465 (by decide +kernel) (by decide +kernel)
theorem qm_466 : Cond.instanceMethod y_L_isBehindOf ∈ qu_W := qu_in 466 (by decide +kernel) (by decide +kernel)
theorem qm_467 : Cond.selects "QuorumLog$Log" y_L_isBehindOf y_L_isBehindOf ∈ qu_W := qu_in 467 (by decide +kernel) (by decide +kernel)
theorem qm_468 : Cond.code y_L_isBehindOf c_L_isBehindOf 3 (some .boolean) ∈ qu_W := qu_in 468 (by decide +kernel) (by decide +kernel)
theorem qm_469 : Cond.methodLink "QuorumLog$Log" 68 y_L_lastTerm ∈ qu_W := qu_in 469 (by decide +kernel) (by decide +kernel)
theorem qm_470 : Cond.methodLink "QuorumLog" 325 y_Q_answerComes ∈ qu_W := qu_in 470 (by decide +kernel) (by decide +kernel)
theorem qm_472 : Cond.instanceMethod y_Q_answerComes ∈ qu_W := qu_in 472 (by decide +kernel) (by decide +kernel)
theorem qm_473 : Cond.code y_Q_answerComes c_Q_answerComes 3 none ∈ qu_W := qu_in 473 (by decide +kernel) (by decide +kernel)
theorem qm_474 : Cond.methodLink "QuorumLog" 328 y_Q_callComes ∈ qu_W := qu_in 474 (by decide +kernel) (by decide +kernel)
theorem qm_476 : Cond.instanceMethod y_Q_callComes ∈ qu_W := qu_in 476 (by decide +kernel) (by decide +kernel)
theorem qm_477 : Cond.code y_Q_callComes c_Q_callComes 6 none ∈ qu_W := qu_in 477 (by decide +kernel) (by decide +kernel)
theorem qm_478 : Cond.methodLink "QuorumLog" 331 y_Q_voteComes ∈ qu_W := qu_in 478 (by decide +kernel) (by decide +kernel)
theorem qm_480 : Cond.instanceMethod y_Q_voteComes ∈ qu_W := qu_in 480 (by decide +kernel) (by decide +kernel)
theorem qm_481 : Cond.code y_Q_voteComes c_Q_voteComes 3 none ∈ qu_W := qu_in 481 (by decide +kernel) (by decide +kernel)
theorem qm_482 : Cond.methodLink "QuorumLog" 334 y_Q_appendComes ∈ qu_W := qu_in 482 (by decide +kernel) (by decide +kernel)
theorem qm_484 : Cond.instanceMethod y_Q_appendComes ∈ qu_W := qu_in 484 (by decide +kernel) (by decide +kernel)
theorem qm_485 : Cond.code y_Q_appendComes c_Q_appendComes 4 none ∈ qu_W := qu_in 485 (by decide +kernel) (by decide +kernel)
theorem qm_486 : Cond.methodLink "QuorumLog" 347 y_Q_sendResult ∈ qu_W := qu_in 486 (by decide +kernel) (by decide +kernel)
theorem qm_488 : Cond.instanceMethod y_Q_sendResult ∈ qu_W := qu_in 488 (by decide +kernel) (by decide +kernel)
theorem qm_489 : Cond.code y_Q_sendResult c_Q_sendResult 7 none ∈ qu_W := qu_in 489 (by decide +kernel) (by decide +kernel)
theorem qm_490 : Cond.methodLink "QuorumLog" 351 y_L_fitsBehind ∈ qu_W := qu_in 490 (by decide +kernel) (by decide +kernel)
theorem qm_491 : Cond.instanceMethod y_L_fitsBehind ∈ qu_W := qu_in 491 (by decide +kernel) (by decide +kernel)
theorem qm_492 : Cond.selects "QuorumLog$Log" y_L_fitsBehind y_L_fitsBehind ∈ qu_W := qu_in 492 (by decide +kernel) (by decide +kernel)
theorem qm_493 : Cond.code y_L_fitsBehind c_L_fitsBehind 3 (some .boolean) ∈ qu_W := qu_in 493 (by decide +kernel) (by decide +kernel)
theorem qm_494 : Cond.methodLink "QuorumLog" 354 y_H_min ∈ qu_W := qu_in 494 (by decide +kernel) (by decide +kernel)
theorem qm_495 : Cond.static y_H_min ∈ qu_W := qu_in 495 (by decide +kernel) (by decide +kernel)
theorem qm_496 : Cond.code y_H_min c_H_min 2 (some .int) ∈ qu_W := qu_in 496 (by decide +kernel) (by decide +kernel)
theorem qm_497 : Cond.methodLink "QuorumLog" 360 y_H_max ∈ qu_W := qu_in 497 (by decide +kernel) (by decide +kernel)
theorem qm_498 : Cond.static y_H_max ∈ qu_W := qu_in 498 (by decide +kernel) (by decide +kernel)
theorem qm_499 : Cond.code y_H_max c_H_max 2 (some .int) ∈ qu_W := qu_in 499 (by decide +kernel) (by decide +kernel)
theorem qm_500 : Cond.methodLink "QuorumLog" 363 y_L_takeOver ∈ qu_W := qu_in 500 (by decide +kernel) (by decide +kernel)
theorem qm_501 : Cond.instanceMethod y_L_takeOver ∈ qu_W := qu_in 501 (by decide +kernel) (by decide +kernel)
theorem qm_502 : Cond.selects "QuorumLog$Log" y_L_takeOver y_L_takeOver ∈ qu_W := qu_in 502 (by decide +kernel) (by decide +kernel)
theorem qm_503 : Cond.code y_L_takeOver c_L_takeOver 4 (some .int) ∈ qu_W := qu_in 503 (by decide +kernel) (by decide +kernel)
theorem qm_504 : Cond.methodLink "QuorumLog$Log" 81 y_L_hasOrTakes ∈ qu_W := qu_in 504 (by decide +kernel) (by decide +kernel)
theorem qm_506 : Cond.instanceMethod y_L_hasOrTakes ∈ qu_W := qu_in 506 (by decide +kernel) (by decide +kernel)
theorem qm_507 : Cond.code y_L_hasOrTakes c_L_hasOrTakes 3 (some .boolean) ∈ qu_W := qu_in 507 (by decide +kernel) (by decide +kernel)
theorem qm_508 : Cond.methodLink "QuorumLog$Log" 85 y_L_cutFrom ∈ qu_W := qu_in 508 (by decide +kernel) (by decide +kernel)
theorem qm_509 : Cond.instanceMethod y_L_cutFrom ∈ qu_W := qu_in 509 (by decide +kernel) (by decide +kernel)
theorem qm_510 : Cond.selects "QuorumLog$Log" y_L_cutFrom y_L_cutFrom ∈ qu_W := qu_in 510 (by decide +kernel) (by decide +kernel)
theorem qm_511 : Cond.code y_L_cutFrom c_L_cutFrom 3 none ∈ qu_W := qu_in 511 (by decide +kernel) (by decide +kernel)
theorem qm_512 : Cond.methodLink "QuorumLog$Log" 89 y_L_add ∈ qu_W := qu_in 512 (by decide +kernel) (by decide +kernel)
theorem qm_513 : Cond.methodLink "QuorumLog" 337 y_Q_resultComes ∈ qu_W := qu_in 513 (by decide +kernel) (by decide +kernel)
theorem qm_515 : Cond.instanceMethod y_Q_resultComes ∈ qu_W := qu_in 515 (by decide +kernel) (by decide +kernel)
theorem qm_516 : Cond.code y_Q_resultComes c_Q_resultComes 5 none ∈ qu_W := qu_in 516 (by decide +kernel) (by decide +kernel)
theorem qm_517 : Cond.methodLink "QuorumLog" 154 y_Q_lookAtReads ∈ qu_W := qu_in 517 (by decide +kernel) (by decide +kernel)
theorem qm_519 : Cond.instanceMethod y_Q_lookAtReads ∈ qu_W := qu_in 519 (by decide +kernel) (by decide +kernel)
theorem qm_520 : Cond.code y_Q_lookAtReads c_Q_lookAtReads 4 none ∈ qu_W := qu_in 520 (by decide +kernel) (by decide +kernel)
theorem qm_521 : Cond.methodLink "QuorumLog" 303 y_R_isKeptBy ∈ qu_W := qu_in 521 (by decide +kernel) (by decide +kernel)
theorem qm_522 : Cond.methodLink "QuorumLog" 309 y_S_confirmersOf ∈ qu_W := qu_in 522 (by decide +kernel) (by decide +kernel)
theorem qm_523 : Cond.instanceMethod y_S_confirmersOf ∈ qu_W := qu_in 523 (by decide +kernel) (by decide +kernel)
theorem qm_524 : Cond.selects "QuorumLog$Server" y_S_confirmersOf y_S_confirmersOf ∈ qu_W := qu_in 524 (by decide +kernel) (by decide +kernel)
theorem qm_525 : Cond.code y_S_confirmersOf c_S_confirmersOf 2 (some .int) ∈ qu_W := qu_in 525 (by decide +kernel) (by decide +kernel)
theorem qm_526 : Cond.methodLink "QuorumLog" 240 y_S_storedNow ∈ qu_W := qu_in 526 (by decide +kernel) (by decide +kernel)
theorem qm_527 : Cond.instanceMethod y_S_storedNow ∈ qu_W := qu_in 527 (by decide +kernel) (by decide +kernel)
theorem qm_528 : Cond.selects "QuorumLog$Server" y_S_storedNow y_S_storedNow ∈ qu_W := qu_in 528 (by decide +kernel) (by decide +kernel)
theorem qm_529 : Cond.code y_S_storedNow c_S_storedNow 2 (some .int) ∈ qu_W := qu_in 529 (by decide +kernel) (by decide +kernel)
theorem qm_530 : Cond.methodLink "QuorumLog$Server" 65 y_L_storedUpTo ∈ qu_W := qu_in 530 (by decide +kernel) (by decide +kernel)
theorem qm_531 : Cond.methodLink "QuorumLog" 340 y_Q_installComes ∈ qu_W := qu_in 531 (by decide +kernel) (by decide +kernel)
theorem qm_533 : Cond.instanceMethod y_Q_installComes ∈ qu_W := qu_in 533 (by decide +kernel) (by decide +kernel)
theorem qm_534 : Cond.code y_Q_installComes c_Q_installComes 3 none ∈ qu_W := qu_in 534 (by decide +kernel) (by decide +kernel)
theorem qm_538 : Cond.code y_Q_lose c_Q_lose 2 (some .boolean) ∈ qu_W := qu_in 538 (by decide +kernel) (by decide +kernel)
theorem qm_542 : Cond.code y_Q_waiting c_Q_waiting 1 (some .int) ∈ qu_W := qu_in 542 (by decide +kernel) (by decide +kernel)
theorem qm_546 : Cond.code y_Q_message c_Q_message 4 (some .int) ∈ qu_W := qu_in 546 (by decide +kernel) (by decide +kernel)
theorem qm_550 : Cond.code y_Q_state c_Q_state 4 (some .int) ∈ qu_W := qu_in 550 (by decide +kernel) (by decide +kernel)
theorem qm_554 : Cond.code y_Q_entry c_Q_entry 5 (some .int) ∈ qu_W := qu_in 554 (by decide +kernel) (by decide +kernel)
theorem qm_555 : Cond.methodLink "QuorumLog" 223 y_L_find ∈ qu_W := qu_in 555 (by decide +kernel) (by decide +kernel)
theorem qm_559 : Cond.code y_Q_stored c_Q_stored 3 (some .int) ∈ qu_W := qu_in 559 (by decide +kernel) (by decide +kernel)
theorem qm_560 : Cond.methodLink "QuorumLog" 237 y_Q_isKey ∈ qu_W := qu_in 560 (by decide +kernel) (by decide +kernel)
theorem qm_561 : Cond.static y_Q_isKey ∈ qu_W := qu_in 561 (by decide +kernel) (by decide +kernel)
theorem qm_562 : Cond.code y_Q_isKey c_Q_isKey 1 (some .boolean) ∈ qu_W := qu_in 562 (by decide +kernel) (by decide +kernel)
theorem qm_565 : Cond.code y_Z_cell c_Z_cell 2 (some .int) ∈ qu_W := qu_in 565 (by decide +kernel) (by decide +kernel)
theorem qm_572 : Cond.methodLink "QuorumLogLaw" 7 y_Q_put ∈ qu_W := qu_in 572 (by decide +kernel) (by decide +kernel)
theorem qm_573 : Cond.instanceMethod y_Q_put ∈ qu_W := qu_in 573 (by decide +kernel) (by decide +kernel)
theorem qm_574 : Cond.selects "QuorumLog" y_Q_put y_Q_put ∈ qu_W := qu_in 574 (by decide +kernel) (by decide +kernel)
theorem qm_575 : Cond.code y_Q_put c_Q_put 5 (some .int) ∈ qu_W := qu_in 575 (by decide +kernel) (by decide +kernel)
theorem qm_576 : Cond.methodLink "QuorumLog" 81 y_Q_leaderFor ∈ qu_W := qu_in 576 (by decide +kernel) (by decide +kernel)
theorem qm_578 : Cond.instanceMethod y_Q_leaderFor ∈ qu_W := qu_in 578 (by decide +kernel) (by decide +kernel)
theorem qm_579 : Cond.code y_Q_leaderFor c_Q_leaderFor 3 (some (.object "QuorumLog$Server")) ∈ qu_W := qu_in 579 (by decide +kernel) (by decide +kernel)
theorem qm_683 : Cond.methodLink "QuorumLogLaw" 19 y_Q_change ∈ qu_W := qu_in 683 (by decide +kernel) (by decide +kernel)
theorem qm_684 : Cond.instanceMethod y_Q_change ∈ qu_W := qu_in 684 (by decide +kernel) (by decide +kernel)
theorem qm_685 : Cond.selects "QuorumLog" y_Q_change y_Q_change ∈ qu_W := qu_in 685 (by decide +kernel) (by decide +kernel)
theorem qm_686 : Cond.code y_Q_change c_Q_change 8 (some .int) ∈ qu_W := qu_in 686 (by decide +kernel) (by decide +kernel)
theorem qm_689 : Cond.methodLink "QuorumLog" 136 y_S_hasCommitOfItsTerm ∈ qu_W := qu_in 689 (by decide +kernel) (by decide +kernel)
theorem qm_690 : Cond.instanceMethod y_S_hasCommitOfItsTerm ∈ qu_W := qu_in 690 (by decide +kernel) (by decide +kernel)
theorem qm_691 : Cond.selects "QuorumLog$Server" y_S_hasCommitOfItsTerm y_S_hasCommitOfItsTerm ∈ qu_W := qu_in 691 (by decide +kernel) (by decide +kernel)
theorem qm_692 : Cond.code y_S_hasCommitOfItsTerm c_S_hasCommitOfItsTerm 1 (some .boolean) ∈ qu_W := qu_in 692 (by decide +kernel) (by decide +kernel)
theorem qm_693 : Cond.methodLink "QuorumLog$Server" 58 y_L_termAt ∈ qu_W := qu_in 693 (by decide +kernel) (by decide +kernel)
theorem qm_698 : Cond.methodLink "QuorumLogLaw" 23 y_Q_read ∈ qu_W := qu_in 698 (by decide +kernel) (by decide +kernel)
theorem qm_699 : Cond.instanceMethod y_Q_read ∈ qu_W := qu_in 699 (by decide +kernel) (by decide +kernel)
theorem qm_700 : Cond.selects "QuorumLog" y_Q_read y_Q_read ∈ qu_W := qu_in 700 (by decide +kernel) (by decide +kernel)
theorem qm_701 : Cond.code y_Q_read c_Q_read 5 (some .int) ∈ qu_W := qu_in 701 (by decide +kernel) (by decide +kernel)
theorem qm_702 : Cond.methodLink "QuorumLog" 141 y_R_keptBy ∈ qu_W := qu_in 702 (by decide +kernel) (by decide +kernel)
theorem qm_703 : Cond.instanceMethod y_R_keptBy ∈ qu_W := qu_in 703 (by decide +kernel) (by decide +kernel)
theorem qm_704 : Cond.selects "QuorumLog$Reads" y_R_keptBy y_R_keptBy ∈ qu_W := qu_in 704 (by decide +kernel) (by decide +kernel)
theorem qm_705 : Cond.code y_R_keptBy c_R_keptBy 4 (some .int) ∈ qu_W := qu_in 705 (by decide +kernel) (by decide +kernel)
theorem qm_707 : Cond.methodLink "QuorumLog" 150 y_R_keep ∈ qu_W := qu_in 707 (by decide +kernel) (by decide +kernel)
theorem qm_708 : Cond.instanceMethod y_R_keep ∈ qu_W := qu_in 708 (by decide +kernel) (by decide +kernel)
theorem qm_709 : Cond.selects "QuorumLog$Reads" y_R_keep y_R_keep ∈ qu_W := qu_in 709 (by decide +kernel) (by decide +kernel)
theorem qm_710 : Cond.code y_R_keep c_R_keep 5 (some .int) ∈ qu_W := qu_in 710 (by decide +kernel) (by decide +kernel)
theorem qm_715 : Cond.code y_D_init c_D_init 3 none ∈ qu_W := qu_in 715 (by decide +kernel) (by decide +kernel)
theorem qm_716 : Cond.methodLink "QuorumLogModel" 1 Lib.objectInit ∈ qu_W := qu_in 716 (by decide +kernel) (by decide +kernel)
theorem qm_717 : Cond.fieldLink "QuorumLogModel" 92 "QuorumLogModel" "code" "I" ∈ qu_W := qu_in 717 (by decide +kernel) (by decide +kernel)
theorem qm_718 : Cond.fieldLink "QuorumLogModel" 7 "QuorumLogModel" "down" "[Z" ∈ qu_W := qu_in 718 (by decide +kernel) (by decide +kernel)
theorem qm_719 : Cond.fieldLink "QuorumLogModel" 13 "QuorumLogModel" "term" "[I" ∈ qu_W := qu_in 719 (by decide +kernel) (by decide +kernel)
theorem qm_720 : Cond.fieldLink "QuorumLogModel" 17 "QuorumLogModel" "vote" "[I" ∈ qu_W := qu_in 720 (by decide +kernel) (by decide +kernel)
theorem qm_721 : Cond.fieldLink "QuorumLogModel" 20 "QuorumLogModel" "snapIndex" "[I" ∈ qu_W := qu_in 721 (by decide +kernel) (by decide +kernel)
theorem qm_722 : Cond.fieldLink "QuorumLogModel" 23 "QuorumLogModel" "snapTerm" "[I" ∈ qu_W := qu_in 722 (by decide +kernel) (by decide +kernel)
theorem qm_723 : Cond.fieldLink "QuorumLogModel" 26 "QuorumLogModel" "snapMembers" "[I" ∈ qu_W := qu_in 723 (by decide +kernel) (by decide +kernel)
theorem qm_724 : Cond.fieldLink "QuorumLogModel" 29 "QuorumLogModel" "snapValue" "[I" ∈ qu_W := qu_in 724 (by decide +kernel) (by decide +kernel)
theorem qm_725 : Cond.fieldLink "QuorumLogModel" 32 "QuorumLogModel" "size" "[I" ∈ qu_W := qu_in 725 (by decide +kernel) (by decide +kernel)
theorem qm_726 : Cond.fieldLink "QuorumLogModel" 35 "QuorumLogModel" "logTerm" "[I" ∈ qu_W := qu_in 726 (by decide +kernel) (by decide +kernel)
theorem qm_727 : Cond.fieldLink "QuorumLogModel" 38 "QuorumLogModel" "logSort" "[I" ∈ qu_W := qu_in 727 (by decide +kernel) (by decide +kernel)
theorem qm_728 : Cond.fieldLink "QuorumLogModel" 41 "QuorumLogModel" "logKey" "[I" ∈ qu_W := qu_in 728 (by decide +kernel) (by decide +kernel)
theorem qm_729 : Cond.fieldLink "QuorumLogModel" 44 "QuorumLogModel" "logValue" "[I" ∈ qu_W := qu_in 729 (by decide +kernel) (by decide +kernel)
theorem qm_730 : Cond.fieldLink "QuorumLogModel" 47 "QuorumLogModel" "role" "[I" ∈ qu_W := qu_in 730 (by decide +kernel) (by decide +kernel)
theorem qm_731 : Cond.fieldLink "QuorumLogModel" 50 "QuorumLogModel" "commit" "[I" ∈ qu_W := qu_in 731 (by decide +kernel) (by decide +kernel)
theorem qm_732 : Cond.fieldLink "QuorumLogModel" 53 "QuorumLogModel" "heard" "[Z" ∈ qu_W := qu_in 732 (by decide +kernel) (by decide +kernel)
theorem qm_733 : Cond.fieldLink "QuorumLogModel" 56 "QuorumLogModel" "yes" "[I" ∈ qu_W := qu_in 733 (by decide +kernel) (by decide +kernel)
theorem qm_734 : Cond.fieldLink "QuorumLogModel" 59 "QuorumLogModel" "next" "[I" ∈ qu_W := qu_in 734 (by decide +kernel) (by decide +kernel)
theorem qm_735 : Cond.fieldLink "QuorumLogModel" 62 "QuorumLogModel" "match" "[I" ∈ qu_W := qu_in 735 (by decide +kernel) (by decide +kernel)
theorem qm_736 : Cond.fieldLink "QuorumLogModel" 65 "QuorumLogModel" "confirmed" "[I" ∈ qu_W := qu_in 736 (by decide +kernel) (by decide +kernel)
theorem qm_737 : Cond.fieldLink "QuorumLogModel" 68 "QuorumLogModel" "round" "[I" ∈ qu_W := qu_in 737 (by decide +kernel) (by decide +kernel)
theorem qm_738 : Cond.fieldLink "QuorumLogModel" 136 "QuorumLogModel" "reads" "I" ∈ qu_W := qu_in 738 (by decide +kernel) (by decide +kernel)
theorem qm_739 : Cond.fieldLink "QuorumLogModel" 71 "QuorumLogModel" "readOf" "[I" ∈ qu_W := qu_in 739 (by decide +kernel) (by decide +kernel)
theorem qm_740 : Cond.fieldLink "QuorumLogModel" 74 "QuorumLogModel" "readKey" "[I" ∈ qu_W := qu_in 740 (by decide +kernel) (by decide +kernel)
theorem qm_741 : Cond.fieldLink "QuorumLogModel" 77 "QuorumLogModel" "readRound" "[I" ∈ qu_W := qu_in 741 (by decide +kernel) (by decide +kernel)
theorem qm_742 : Cond.fieldLink "QuorumLogModel" 80 "QuorumLogModel" "readOutcome" "[I" ∈ qu_W := qu_in 742 (by decide +kernel) (by decide +kernel)
theorem qm_743 : Cond.fieldLink "QuorumLogModel" 83 "QuorumLogModel" "readValue" "[I" ∈ qu_W := qu_in 743 (by decide +kernel) (by decide +kernel)
theorem qm_744 : Cond.fieldLink "QuorumLogModel" 119 "QuorumLogModel" "waiting" "I" ∈ qu_W := qu_in 744 (by decide +kernel) (by decide +kernel)
theorem qm_745 : Cond.fieldLink "QuorumLogModel" 86 "QuorumLogModel" "mail" "[I" ∈ qu_W := qu_in 745 (by decide +kernel) (by decide +kernel)
theorem qm_746 : Cond.fieldLink "QuorumLogModel" 89 "QuorumLogModel" "come" "[I" ∈ qu_W := qu_in 746 (by decide +kernel) (by decide +kernel)
theorem qm_747 : Cond.lays "QuorumLogModel" "QuorumLogModel" "code" "I" ∈ qu_W := qu_in 747 (by decide +kernel) (by decide +kernel)
theorem qm_749 : Cond.laysFinal "QuorumLogModel" "QuorumLogModel" "down" "[Z" ∈ qu_W := qu_in 749 (by decide +kernel) (by decide +kernel)
theorem qm_751 : Cond.laysFinal "QuorumLogModel" "QuorumLogModel" "term" "[I" ∈ qu_W := qu_in 751 (by decide +kernel) (by decide +kernel)
theorem qm_753 : Cond.laysFinal "QuorumLogModel" "QuorumLogModel" "vote" "[I" ∈ qu_W := qu_in 753 (by decide +kernel) (by decide +kernel)
theorem qm_755 : Cond.laysFinal "QuorumLogModel" "QuorumLogModel" "snapIndex" "[I" ∈ qu_W := qu_in 755 (by decide +kernel) (by decide +kernel)
theorem qm_757 : Cond.laysFinal "QuorumLogModel" "QuorumLogModel" "snapTerm" "[I" ∈ qu_W := qu_in 757 (by decide +kernel) (by decide +kernel)
theorem qm_759 : Cond.laysFinal "QuorumLogModel" "QuorumLogModel" "snapMembers" "[I" ∈ qu_W := qu_in 759 (by decide +kernel) (by decide +kernel)
theorem qm_761 : Cond.laysFinal "QuorumLogModel" "QuorumLogModel" "snapValue" "[I" ∈ qu_W := qu_in 761 (by decide +kernel) (by decide +kernel)
theorem qm_763 : Cond.laysFinal "QuorumLogModel" "QuorumLogModel" "size" "[I" ∈ qu_W := qu_in 763 (by decide +kernel) (by decide +kernel)
theorem qm_765 : Cond.laysFinal "QuorumLogModel" "QuorumLogModel" "logTerm" "[I" ∈ qu_W := qu_in 765 (by decide +kernel) (by decide +kernel)
theorem qm_767 : Cond.laysFinal "QuorumLogModel" "QuorumLogModel" "logSort" "[I" ∈ qu_W := qu_in 767 (by decide +kernel) (by decide +kernel)
theorem qm_769 : Cond.laysFinal "QuorumLogModel" "QuorumLogModel" "logKey" "[I" ∈ qu_W := qu_in 769 (by decide +kernel) (by decide +kernel)
theorem qm_771 : Cond.laysFinal "QuorumLogModel" "QuorumLogModel" "logValue" "[I" ∈ qu_W := qu_in 771 (by decide +kernel) (by decide +kernel)
theorem qm_773 : Cond.laysFinal "QuorumLogModel" "QuorumLogModel" "role" "[I" ∈ qu_W := qu_in 773 (by decide +kernel) (by decide +kernel)
theorem qm_775 : Cond.laysFinal "QuorumLogModel" "QuorumLogModel" "commit" "[I" ∈ qu_W := qu_in 775 (by decide +kernel) (by decide +kernel)
theorem qm_777 : Cond.laysFinal "QuorumLogModel" "QuorumLogModel" "heard" "[Z" ∈ qu_W := qu_in 777 (by decide +kernel) (by decide +kernel)
theorem qm_779 : Cond.laysFinal "QuorumLogModel" "QuorumLogModel" "yes" "[I" ∈ qu_W := qu_in 779 (by decide +kernel) (by decide +kernel)
theorem qm_781 : Cond.laysFinal "QuorumLogModel" "QuorumLogModel" "next" "[I" ∈ qu_W := qu_in 781 (by decide +kernel) (by decide +kernel)
theorem qm_783 : Cond.laysFinal "QuorumLogModel" "QuorumLogModel" "match" "[I" ∈ qu_W := qu_in 783 (by decide +kernel) (by decide +kernel)
theorem qm_785 : Cond.laysFinal "QuorumLogModel" "QuorumLogModel" "confirmed" "[I" ∈ qu_W := qu_in 785 (by decide +kernel) (by decide +kernel)
theorem qm_787 : Cond.laysFinal "QuorumLogModel" "QuorumLogModel" "round" "[I" ∈ qu_W := qu_in 787 (by decide +kernel) (by decide +kernel)
theorem qm_789 : Cond.lays "QuorumLogModel" "QuorumLogModel" "reads" "I" ∈ qu_W := qu_in 789 (by decide +kernel) (by decide +kernel)
theorem qm_791 : Cond.laysFinal "QuorumLogModel" "QuorumLogModel" "readOf" "[I" ∈ qu_W := qu_in 791 (by decide +kernel) (by decide +kernel)
theorem qm_793 : Cond.laysFinal "QuorumLogModel" "QuorumLogModel" "readKey" "[I" ∈ qu_W := qu_in 793 (by decide +kernel) (by decide +kernel)
theorem qm_795 : Cond.laysFinal "QuorumLogModel" "QuorumLogModel" "readRound" "[I" ∈ qu_W := qu_in 795 (by decide +kernel) (by decide +kernel)
theorem qm_797 : Cond.laysFinal "QuorumLogModel" "QuorumLogModel" "readOutcome" "[I" ∈ qu_W := qu_in 797 (by decide +kernel) (by decide +kernel)
theorem qm_799 : Cond.laysFinal "QuorumLogModel" "QuorumLogModel" "readValue" "[I" ∈ qu_W := qu_in 799 (by decide +kernel) (by decide +kernel)
theorem qm_801 : Cond.lays "QuorumLogModel" "QuorumLogModel" "waiting" "I" ∈ qu_W := qu_in 801 (by decide +kernel) (by decide +kernel)
theorem qm_803 : Cond.laysFinal "QuorumLogModel" "QuorumLogModel" "mail" "[I" ∈ qu_W := qu_in 803 (by decide +kernel) (by decide +kernel)
theorem qm_805 : Cond.laysFinal "QuorumLogModel" "QuorumLogModel" "come" "[I" ∈ qu_W := qu_in 805 (by decide +kernel) (by decide +kernel)
theorem qm_808 : Cond.arrayClass .boolean ∈ qu_W := qu_in 808 (by decide +kernel) (by decide +kernel)
theorem qm_812 : Cond.code y_D_thrown c_D_thrown 1 (some .int) ∈ qu_W := qu_in 812 (by decide +kernel) (by decide +kernel)
theorem qm_816 : Cond.code y_D_timer c_D_timer 2 (some .boolean) ∈ qu_W := qu_in 816 (by decide +kernel) (by decide +kernel)
theorem qm_817 : Cond.methodLink "QuorumLogModel" 143 y_D_isServer ∈ qu_W := qu_in 817 (by decide +kernel) (by decide +kernel)
theorem qm_818 : Cond.static y_D_isServer ∈ qu_W := qu_in 818 (by decide +kernel) (by decide +kernel)
theorem qm_819 : Cond.code y_D_isServer c_D_isServer 1 (some .boolean) ∈ qu_W := qu_in 819 (by decide +kernel) (by decide +kernel)
theorem qm_820 : Cond.methodLink "QuorumLogModel" 147 y_D_isMine ∈ qu_W := qu_in 820 (by decide +kernel) (by decide +kernel)
theorem qm_822 : Cond.instanceMethod y_D_isMine ∈ qu_W := qu_in 822 (by decide +kernel) (by decide +kernel)
theorem qm_823 : Cond.code y_D_isMine c_D_isMine 2 (some .boolean) ∈ qu_W := qu_in 823 (by decide +kernel) (by decide +kernel)
theorem qm_824 : Cond.methodLink "QuorumLogModel" 113 y_D_config ∈ qu_W := qu_in 824 (by decide +kernel) (by decide +kernel)
theorem qm_826 : Cond.instanceMethod y_D_config ∈ qu_W := qu_in 826 (by decide +kernel) (by decide +kernel)
theorem qm_827 : Cond.code y_D_config c_D_config 2 (some .int) ∈ qu_W := qu_in 827 (by decide +kernel) (by decide +kernel)
theorem qm_828 : Cond.methodLink "QuorumLogModel" 96 y_D_last ∈ qu_W := qu_in 828 (by decide +kernel) (by decide +kernel)
theorem qm_830 : Cond.instanceMethod y_D_last ∈ qu_W := qu_in 830 (by decide +kernel) (by decide +kernel)
theorem qm_831 : Cond.code y_D_last c_D_last 2 (some .int) ∈ qu_W := qu_in 831 (by decide +kernel) (by decide +kernel)
theorem qm_832 : Cond.methodLink "QuorumLogModel" 110 y_D_membersAt ∈ qu_W := qu_in 832 (by decide +kernel) (by decide +kernel)
theorem qm_834 : Cond.instanceMethod y_D_membersAt ∈ qu_W := qu_in 834 (by decide +kernel) (by decide +kernel)
theorem qm_835 : Cond.code y_D_membersAt c_D_membersAt 4 (some .int) ∈ qu_W := qu_in 835 (by decide +kernel) (by decide +kernel)
theorem qm_836 : Cond.methodLink "QuorumLogModel" 107 y_D_latestMembers ∈ qu_W := qu_in 836 (by decide +kernel) (by decide +kernel)
theorem qm_838 : Cond.instanceMethod y_D_latestMembers ∈ qu_W := qu_in 838 (by decide +kernel) (by decide +kernel)
theorem qm_839 : Cond.code y_D_latestMembers c_D_latestMembers 5 (some .int) ∈ qu_W := qu_in 839 (by decide +kernel) (by decide +kernel)
theorem qm_840 : Cond.methodLink "QuorumLogModel" 100 y_D_cell ∈ qu_W := qu_in 840 (by decide +kernel) (by decide +kernel)
theorem qm_842 : Cond.instanceMethod y_D_cell ∈ qu_W := qu_in 842 (by decide +kernel) (by decide +kernel)
theorem qm_843 : Cond.code y_D_cell c_D_cell 3 (some .int) ∈ qu_W := qu_in 843 (by decide +kernel) (by decide +kernel)
theorem qm_844 : Cond.methodLink "QuorumLogModel" 150 y_D_askAll ∈ qu_W := qu_in 844 (by decide +kernel) (by decide +kernel)
theorem qm_846 : Cond.instanceMethod y_D_askAll ∈ qu_W := qu_in 846 (by decide +kernel) (by decide +kernel)
theorem qm_847 : Cond.code y_D_askAll c_D_askAll 6 none ∈ qu_W := qu_in 847 (by decide +kernel) (by decide +kernel)
theorem qm_848 : Cond.methodLink "QuorumLogModel" 122 y_D_begin ∈ qu_W := qu_in 848 (by decide +kernel) (by decide +kernel)
theorem qm_850 : Cond.instanceMethod y_D_begin ∈ qu_W := qu_in 850 (by decide +kernel) (by decide +kernel)
theorem qm_851 : Cond.code y_D_begin c_D_begin 6 none ∈ qu_W := qu_in 851 (by decide +kernel) (by decide +kernel)
theorem qm_852 : Cond.methodLink "QuorumLogModel" 126 y_D_lastTerm ∈ qu_W := qu_in 852 (by decide +kernel) (by decide +kernel)
theorem qm_854 : Cond.instanceMethod y_D_lastTerm ∈ qu_W := qu_in 854 (by decide +kernel) (by decide +kernel)
theorem qm_855 : Cond.code y_D_lastTerm c_D_lastTerm 2 (some .int) ∈ qu_W := qu_in 855 (by decide +kernel) (by decide +kernel)
theorem qm_856 : Cond.methodLink "QuorumLogModel" 104 y_D_termAt ∈ qu_W := qu_in 856 (by decide +kernel) (by decide +kernel)
theorem qm_858 : Cond.instanceMethod y_D_termAt ∈ qu_W := qu_in 858 (by decide +kernel) (by decide +kernel)
theorem qm_859 : Cond.code y_D_termAt c_D_termAt 4 (some .int) ∈ qu_W := qu_in 859 (by decide +kernel) (by decide +kernel)
theorem qm_860 : Cond.methodLink "QuorumLogModel" 129 y_D_post ∈ qu_W := qu_in 860 (by decide +kernel) (by decide +kernel)
theorem qm_862 : Cond.instanceMethod y_D_post ∈ qu_W := qu_in 862 (by decide +kernel) (by decide +kernel)
theorem qm_863 : Cond.code y_D_post c_D_post 2 none ∈ qu_W := qu_in 863 (by decide +kernel) (by decide +kernel)
theorem qm_864 : Cond.methodLink "QuorumLogModel" 154 y_D_weigh ∈ qu_W := qu_in 864 (by decide +kernel) (by decide +kernel)
theorem qm_866 : Cond.instanceMethod y_D_weigh ∈ qu_W := qu_in 866 (by decide +kernel) (by decide +kernel)
theorem qm_867 : Cond.code y_D_weigh c_D_weigh 2 none ∈ qu_W := qu_in 867 (by decide +kernel) (by decide +kernel)
theorem qm_868 : Cond.methodLink "QuorumLogModel" 157 y_D_most ∈ qu_W := qu_in 868 (by decide +kernel) (by decide +kernel)
theorem qm_870 : Cond.instanceMethod y_D_most ∈ qu_W := qu_in 870 (by decide +kernel) (by decide +kernel)
theorem qm_871 : Cond.code y_D_most c_D_most 4 (some .boolean) ∈ qu_W := qu_in 871 (by decide +kernel) (by decide +kernel)
theorem qm_872 : Cond.methodLink "QuorumLogModel" 116 y_D_count ∈ qu_W := qu_in 872 (by decide +kernel) (by decide +kernel)
theorem qm_873 : Cond.static y_D_count ∈ qu_W := qu_in 873 (by decide +kernel) (by decide +kernel)
theorem qm_874 : Cond.code y_D_count c_D_count 3 (some .int) ∈ qu_W := qu_in 874 (by decide +kernel) (by decide +kernel)
theorem qm_875 : Cond.methodLink "QuorumLogModel" 161 y_D_lead ∈ qu_W := qu_in 875 (by decide +kernel) (by decide +kernel)
theorem qm_877 : Cond.instanceMethod y_D_lead ∈ qu_W := qu_in 877 (by decide +kernel) (by decide +kernel)
theorem qm_878 : Cond.code y_D_lead c_D_lead 3 none ∈ qu_W := qu_in 878 (by decide +kernel) (by decide +kernel)
theorem qm_879 : Cond.methodLink "QuorumLogModel" 164 y_D_append ∈ qu_W := qu_in 879 (by decide +kernel) (by decide +kernel)
theorem qm_881 : Cond.instanceMethod y_D_append ∈ qu_W := qu_in 881 (by decide +kernel) (by decide +kernel)
theorem qm_882 : Cond.code y_D_append c_D_append 6 (some .int) ∈ qu_W := qu_in 882 (by decide +kernel) (by decide +kernel)
theorem qm_883 : Cond.methodLink "QuorumLogModel" 168 y_D_push ∈ qu_W := qu_in 883 (by decide +kernel) (by decide +kernel)
theorem qm_885 : Cond.instanceMethod y_D_push ∈ qu_W := qu_in 885 (by decide +kernel) (by decide +kernel)
theorem qm_886 : Cond.code y_D_push c_D_push 7 none ∈ qu_W := qu_in 886 (by decide +kernel) (by decide +kernel)
theorem qm_887 : Cond.methodLink "QuorumLogModel" 172 y_D_lookAtCommit ∈ qu_W := qu_in 887 (by decide +kernel) (by decide +kernel)
theorem qm_889 : Cond.instanceMethod y_D_lookAtCommit ∈ qu_W := qu_in 889 (by decide +kernel) (by decide +kernel)
theorem qm_890 : Cond.code y_D_lookAtCommit c_D_lookAtCommit 4 none ∈ qu_W := qu_in 890 (by decide +kernel) (by decide +kernel)
theorem qm_891 : Cond.methodLink "QuorumLogModel" 178 y_D_having ∈ qu_W := qu_in 891 (by decide +kernel) (by decide +kernel)
theorem qm_893 : Cond.instanceMethod y_D_having ∈ qu_W := qu_in 893 (by decide +kernel) (by decide +kernel)
theorem qm_894 : Cond.code y_D_having c_D_having 5 (some .int) ∈ qu_W := qu_in 894 (by decide +kernel) (by decide +kernel)
theorem qm_895 : Cond.methodLink "QuorumLogModel" 139 y_D_follow ∈ qu_W := qu_in 895 (by decide +kernel) (by decide +kernel)
theorem qm_897 : Cond.instanceMethod y_D_follow ∈ qu_W := qu_in 897 (by decide +kernel) (by decide +kernel)
theorem qm_898 : Cond.code y_D_follow c_D_follow 4 none ∈ qu_W := qu_in 898 (by decide +kernel) (by decide +kernel)
theorem qm_899 : Cond.methodLink "QuorumLogModel" 175 y_D_sendAll ∈ qu_W := qu_in 899 (by decide +kernel) (by decide +kernel)
theorem qm_901 : Cond.instanceMethod y_D_sendAll ∈ qu_W := qu_in 901 (by decide +kernel) (by decide +kernel)
theorem qm_902 : Cond.code y_D_sendAll c_D_sendAll 4 none ∈ qu_W := qu_in 902 (by decide +kernel) (by decide +kernel)
theorem qm_903 : Cond.methodLink "QuorumLogModel" 132 y_D_sendTo ∈ qu_W := qu_in 903 (by decide +kernel) (by decide +kernel)
theorem qm_905 : Cond.instanceMethod y_D_sendTo ∈ qu_W := qu_in 905 (by decide +kernel) (by decide +kernel)
theorem qm_906 : Cond.code y_D_sendTo c_D_sendTo 8 none ∈ qu_W := qu_in 906 (by decide +kernel) (by decide +kernel)
theorem qm_910 : Cond.code y_D_beat c_D_beat 2 (some .boolean) ∈ qu_W := qu_in 910 (by decide +kernel) (by decide +kernel)
theorem qm_911 : Cond.methodLink "QuorumLogModel" 185 y_D_leads ∈ qu_W := qu_in 911 (by decide +kernel) (by decide +kernel)
theorem qm_913 : Cond.instanceMethod y_D_leads ∈ qu_W := qu_in 913 (by decide +kernel) (by decide +kernel)
theorem qm_914 : Cond.code y_D_leads c_D_leads 2 (some .boolean) ∈ qu_W := qu_in 914 (by decide +kernel) (by decide +kernel)
theorem qm_918 : Cond.code y_D_put c_D_put 4 (some .int) ∈ qu_W := qu_in 918 (by decide +kernel) (by decide +kernel)
theorem qm_919 : Cond.methodLink "QuorumLogModel" 188 y_D_isKey ∈ qu_W := qu_in 919 (by decide +kernel) (by decide +kernel)
theorem qm_920 : Cond.static y_D_isKey ∈ qu_W := qu_in 920 (by decide +kernel) (by decide +kernel)
theorem qm_921 : Cond.code y_D_isKey c_D_isKey 1 (some .boolean) ∈ qu_W := qu_in 921 (by decide +kernel) (by decide +kernel)
theorem qm_922 : Cond.methodLink "QuorumLogModel" 191 y_D_fail ∈ qu_W := qu_in 922 (by decide +kernel) (by decide +kernel)
theorem qm_924 : Cond.instanceMethod y_D_fail ∈ qu_W := qu_in 924 (by decide +kernel) (by decide +kernel)
theorem qm_925 : Cond.code y_D_fail c_D_fail 2 (some .int) ∈ qu_W := qu_in 925 (by decide +kernel) (by decide +kernel)
theorem qm_929 : Cond.code y_D_change c_D_change 6 (some .int) ∈ qu_W := qu_in 929 (by decide +kernel) (by decide +kernel)
theorem qm_930 : Cond.methodLink "QuorumLogModel" 194 y_D_isOld ∈ qu_W := qu_in 930 (by decide +kernel) (by decide +kernel)
theorem qm_932 : Cond.instanceMethod y_D_isOld ∈ qu_W := qu_in 932 (by decide +kernel) (by decide +kernel)
theorem qm_933 : Cond.code y_D_isOld c_D_isOld 2 (some .boolean) ∈ qu_W := qu_in 933 (by decide +kernel) (by decide +kernel)
theorem qm_937 : Cond.code y_D_read c_D_read 5 (some .int) ∈ qu_W := qu_in 937 (by decide +kernel) (by decide +kernel)
theorem qm_938 : Cond.methodLink "QuorumLogModel" 197 y_D_lookAtReads ∈ qu_W := qu_in 938 (by decide +kernel) (by decide +kernel)
theorem qm_940 : Cond.instanceMethod y_D_lookAtReads ∈ qu_W := qu_in 940 (by decide +kernel) (by decide +kernel)
theorem qm_941 : Cond.code y_D_lookAtReads c_D_lookAtReads 5 none ∈ qu_W := qu_in 941 (by decide +kernel) (by decide +kernel)
theorem qm_942 : Cond.methodLink "QuorumLogModel" 181 y_D_valueAt ∈ qu_W := qu_in 942 (by decide +kernel) (by decide +kernel)
theorem qm_944 : Cond.instanceMethod y_D_valueAt ∈ qu_W := qu_in 944 (by decide +kernel) (by decide +kernel)
theorem qm_945 : Cond.code y_D_valueAt c_D_valueAt 7 (some .int) ∈ qu_W := qu_in 945 (by decide +kernel) (by decide +kernel)
theorem qm_949 : Cond.code y_D_outcome c_D_outcome 2 (some .int) ∈ qu_W := qu_in 949 (by decide +kernel) (by decide +kernel)
theorem qm_953 : Cond.code y_D_value c_D_value 2 (some .int) ∈ qu_W := qu_in 953 (by decide +kernel) (by decide +kernel)
theorem qm_957 : Cond.code y_D_compact c_D_compact 7 (some .boolean) ∈ qu_W := qu_in 957 (by decide +kernel) (by decide +kernel)
theorem qm_958 : Cond.methodLink "QuorumLogModel" 200 y_D_shift ∈ qu_W := qu_in 958 (by decide +kernel) (by decide +kernel)
theorem qm_960 : Cond.instanceMethod y_D_shift ∈ qu_W := qu_in 960 (by decide +kernel) (by decide +kernel)
theorem qm_961 : Cond.code y_D_shift c_D_shift 6 none ∈ qu_W := qu_in 961 (by decide +kernel) (by decide +kernel)
theorem qm_965 : Cond.code y_D_crash c_D_crash 2 (some .boolean) ∈ qu_W := qu_in 965 (by decide +kernel) (by decide +kernel)
theorem qm_969 : Cond.code y_D_restart c_D_restart 2 (some .boolean) ∈ qu_W := qu_in 969 (by decide +kernel) (by decide +kernel)
theorem qm_973 : Cond.code y_D_deliver c_D_deliver 4 (some .int) ∈ qu_W := qu_in 973 (by decide +kernel) (by decide +kernel)
theorem qm_974 : Cond.methodLink "QuorumLogModel" 203 y_D_takeOut ∈ qu_W := qu_in 974 (by decide +kernel) (by decide +kernel)
theorem qm_976 : Cond.instanceMethod y_D_takeOut ∈ qu_W := qu_in 976 (by decide +kernel) (by decide +kernel)
theorem qm_977 : Cond.code y_D_takeOut c_D_takeOut 3 none ∈ qu_W := qu_in 977 (by decide +kernel) (by decide +kernel)
theorem qm_978 : Cond.methodLink "QuorumLogModel" 206 y_D_newTerm ∈ qu_W := qu_in 978 (by decide +kernel) (by decide +kernel)
theorem qm_980 : Cond.instanceMethod y_D_newTerm ∈ qu_W := qu_in 980 (by decide +kernel) (by decide +kernel)
theorem qm_981 : Cond.code y_D_newTerm c_D_newTerm 3 none ∈ qu_W := qu_in 981 (by decide +kernel) (by decide +kernel)
theorem qm_982 : Cond.methodLink "QuorumLogModel" 209 y_D_question ∈ qu_W := qu_in 982 (by decide +kernel) (by decide +kernel)
theorem qm_984 : Cond.instanceMethod y_D_question ∈ qu_W := qu_in 984 (by decide +kernel) (by decide +kernel)
theorem qm_985 : Cond.code y_D_question c_D_question 5 none ∈ qu_W := qu_in 985 (by decide +kernel) (by decide +kernel)
theorem qm_986 : Cond.methodLink "QuorumLogModel" 230 y_D_liesBefore ∈ qu_W := qu_in 986 (by decide +kernel) (by decide +kernel)
theorem qm_988 : Cond.instanceMethod y_D_liesBefore ∈ qu_W := qu_in 988 (by decide +kernel) (by decide +kernel)
theorem qm_989 : Cond.code y_D_liesBefore c_D_liesBefore 4 (some .boolean) ∈ qu_W := qu_in 989 (by decide +kernel) (by decide +kernel)
theorem qm_990 : Cond.methodLink "QuorumLogModel" 234 y_D_reply ∈ qu_W := qu_in 990 (by decide +kernel) (by decide +kernel)
theorem qm_992 : Cond.instanceMethod y_D_reply ∈ qu_W := qu_in 992 (by decide +kernel) (by decide +kernel)
theorem qm_993 : Cond.code y_D_reply c_D_reply 6 none ∈ qu_W := qu_in 993 (by decide +kernel) (by decide +kernel)
theorem qm_994 : Cond.methodLink "QuorumLogModel" 212 y_D_answered ∈ qu_W := qu_in 994 (by decide +kernel) (by decide +kernel)
theorem qm_996 : Cond.instanceMethod y_D_answered ∈ qu_W := qu_in 996 (by decide +kernel) (by decide +kernel)
theorem qm_997 : Cond.code y_D_answered c_D_answered 4 none ∈ qu_W := qu_in 997 (by decide +kernel) (by decide +kernel)
theorem qm_998 : Cond.methodLink "QuorumLogModel" 215 y_D_called ∈ qu_W := qu_in 998 (by decide +kernel) (by decide +kernel)
theorem qm_1000 : Cond.instanceMethod y_D_called ∈ qu_W := qu_in 1000 (by decide +kernel) (by decide +kernel)
theorem qm_1001 : Cond.code y_D_called c_D_called 5 none ∈ qu_W := qu_in 1001 (by decide +kernel) (by decide +kernel)
theorem qm_1002 : Cond.methodLink "QuorumLogModel" 218 y_D_voted ∈ qu_W := qu_in 1002 (by decide +kernel) (by decide +kernel)
theorem qm_1004 : Cond.instanceMethod y_D_voted ∈ qu_W := qu_in 1004 (by decide +kernel) (by decide +kernel)
theorem qm_1005 : Cond.code y_D_voted c_D_voted 4 none ∈ qu_W := qu_in 1005 (by decide +kernel) (by decide +kernel)
theorem qm_1006 : Cond.methodLink "QuorumLogModel" 221 y_D_appended ∈ qu_W := qu_in 1006 (by decide +kernel) (by decide +kernel)
theorem qm_1008 : Cond.instanceMethod y_D_appended ∈ qu_W := qu_in 1008 (by decide +kernel) (by decide +kernel)
theorem qm_1009 : Cond.code y_D_appended c_D_appended 7 none ∈ qu_W := qu_in 1009 (by decide +kernel) (by decide +kernel)
theorem qm_1010 : Cond.methodLink "QuorumLogModel" 238 y_D_result ∈ qu_W := qu_in 1010 (by decide +kernel) (by decide +kernel)
theorem qm_1012 : Cond.instanceMethod y_D_result ∈ qu_W := qu_in 1012 (by decide +kernel) (by decide +kernel)
theorem qm_1013 : Cond.code y_D_result c_D_result 6 none ∈ qu_W := qu_in 1013 (by decide +kernel) (by decide +kernel)
theorem qm_1014 : Cond.methodLink "QuorumLogModel" 242 y_D_takeEntry ∈ qu_W := qu_in 1014 (by decide +kernel) (by decide +kernel)
theorem qm_1016 : Cond.instanceMethod y_D_takeEntry ∈ qu_W := qu_in 1016 (by decide +kernel) (by decide +kernel)
theorem qm_1017 : Cond.code y_D_takeEntry c_D_takeEntry 4 (some .boolean) ∈ qu_W := qu_in 1017 (by decide +kernel) (by decide +kernel)
theorem qm_1018 : Cond.methodLink "QuorumLogModel" 224 y_D_resulted ∈ qu_W := qu_in 1018 (by decide +kernel) (by decide +kernel)
theorem qm_1020 : Cond.instanceMethod y_D_resulted ∈ qu_W := qu_in 1020 (by decide +kernel) (by decide +kernel)
theorem qm_1021 : Cond.code y_D_resulted c_D_resulted 7 none ∈ qu_W := qu_in 1021 (by decide +kernel) (by decide +kernel)
theorem qm_1022 : Cond.methodLink "QuorumLogModel" 227 y_D_installed ∈ qu_W := qu_in 1022 (by decide +kernel) (by decide +kernel)
theorem qm_1024 : Cond.instanceMethod y_D_installed ∈ qu_W := qu_in 1024 (by decide +kernel) (by decide +kernel)
theorem qm_1025 : Cond.code y_D_installed c_D_installed 5 none ∈ qu_W := qu_in 1025 (by decide +kernel) (by decide +kernel)
theorem qm_1029 : Cond.code y_D_lose c_D_lose 2 (some .boolean) ∈ qu_W := qu_in 1029 (by decide +kernel) (by decide +kernel)
theorem qm_1033 : Cond.code y_D_waiting c_D_waiting 1 (some .int) ∈ qu_W := qu_in 1033 (by decide +kernel) (by decide +kernel)
theorem qm_1037 : Cond.code y_D_message c_D_message 4 (some .int) ∈ qu_W := qu_in 1037 (by decide +kernel) (by decide +kernel)
theorem qm_1041 : Cond.code y_D_state c_D_state 3 (some .int) ∈ qu_W := qu_in 1041 (by decide +kernel) (by decide +kernel)
theorem qm_1045 : Cond.code y_D_entry c_D_entry 5 (some .int) ∈ qu_W := qu_in 1045 (by decide +kernel) (by decide +kernel)
theorem qm_1049 : Cond.code y_D_stored c_D_stored 3 (some .int) ∈ qu_W := qu_in 1049 (by decide +kernel) (by decide +kernel)
theorem qm_1050 : Cond.arrayClass .long ∈ qu_W := qu_in 1050 (by decide +kernel) (by decide +kernel)
theorem qs_0 : Cond.selects "QuorumLog" y_Q_askAll y_Q_askAll ∈ qu_W := qu_is 0 (by decide +kernel) (by decide +kernel)
theorem qs_1 : Cond.selects "QuorumLog" y_Q_standIfMostSaidYes y_Q_standIfMostSaidYes ∈ qu_W := qu_is 1 (by decide +kernel) (by decide +kernel)
theorem qs_2 : Cond.selects "QuorumLog" y_Q_leadIfMostSaidYes y_Q_leadIfMostSaidYes ∈ qu_W := qu_is 2 (by decide +kernel) (by decide +kernel)
theorem qs_3 : Cond.selects "QuorumLog" y_Q_append y_Q_append ∈ qu_W := qu_is 3 (by decide +kernel) (by decide +kernel)
theorem qs_4 : Cond.selects "QuorumLog" y_Q_lookAtCommit y_Q_lookAtCommit ∈ qu_W := qu_is 4 (by decide +kernel) (by decide +kernel)
theorem qs_5 : Cond.selects "QuorumLog$Server" y_S_reachedBy y_S_reachedBy ∈ qu_W := qu_is 5 (by decide +kernel) (by decide +kernel)
theorem qs_6 : Cond.selects "QuorumLog" y_Q_follow y_Q_follow ∈ qu_W := qu_is 6 (by decide +kernel) (by decide +kernel)
theorem qs_7 : Cond.selects "QuorumLog" y_Q_sendToAll y_Q_sendToAll ∈ qu_W := qu_is 7 (by decide +kernel) (by decide +kernel)
theorem qs_8 : Cond.selects "QuorumLog" y_Q_sendTo y_Q_sendTo ∈ qu_W := qu_is 8 (by decide +kernel) (by decide +kernel)
theorem qs_9 : Cond.selects "QuorumLog" y_Q_come y_Q_come ∈ qu_W := qu_is 9 (by decide +kernel) (by decide +kernel)
theorem qs_10 : Cond.selects "QuorumLog" y_Q_enterTerm y_Q_enterTerm ∈ qu_W := qu_is 10 (by decide +kernel) (by decide +kernel)
theorem qs_11 : Cond.selects "QuorumLog" y_Q_questionComes y_Q_questionComes ∈ qu_W := qu_is 11 (by decide +kernel) (by decide +kernel)
theorem qs_12 : Cond.selects "QuorumLog" y_Q_answerComes y_Q_answerComes ∈ qu_W := qu_is 12 (by decide +kernel) (by decide +kernel)
theorem qs_13 : Cond.selects "QuorumLog" y_Q_callComes y_Q_callComes ∈ qu_W := qu_is 13 (by decide +kernel) (by decide +kernel)
theorem qs_14 : Cond.selects "QuorumLog" y_Q_voteComes y_Q_voteComes ∈ qu_W := qu_is 14 (by decide +kernel) (by decide +kernel)
theorem qs_15 : Cond.selects "QuorumLog" y_Q_appendComes y_Q_appendComes ∈ qu_W := qu_is 15 (by decide +kernel) (by decide +kernel)
theorem qs_16 : Cond.selects "QuorumLog" y_Q_sendResult y_Q_sendResult ∈ qu_W := qu_is 16 (by decide +kernel) (by decide +kernel)
theorem qs_17 : Cond.selects "QuorumLog$Log" y_L_hasOrTakes y_L_hasOrTakes ∈ qu_W := qu_is 17 (by decide +kernel) (by decide +kernel)
theorem qs_18 : Cond.selects "QuorumLog" y_Q_resultComes y_Q_resultComes ∈ qu_W := qu_is 18 (by decide +kernel) (by decide +kernel)
theorem qs_19 : Cond.selects "QuorumLog" y_Q_lookAtReads y_Q_lookAtReads ∈ qu_W := qu_is 19 (by decide +kernel) (by decide +kernel)
theorem qs_20 : Cond.selects "QuorumLog" y_Q_installComes y_Q_installComes ∈ qu_W := qu_is 20 (by decide +kernel) (by decide +kernel)
theorem qs_21 : Cond.selects "QuorumLog" y_Q_leaderFor y_Q_leaderFor ∈ qu_W := qu_is 21 (by decide +kernel) (by decide +kernel)
theorem qs_23 : Cond.selects "QuorumLogModel" y_D_isMine y_D_isMine ∈ qu_W := qu_is 23 (by decide +kernel) (by decide +kernel)
theorem qs_24 : Cond.selects "QuorumLogModel" y_D_config y_D_config ∈ qu_W := qu_is 24 (by decide +kernel) (by decide +kernel)
theorem qs_25 : Cond.selects "QuorumLogModel" y_D_last y_D_last ∈ qu_W := qu_is 25 (by decide +kernel) (by decide +kernel)
theorem qs_26 : Cond.selects "QuorumLogModel" y_D_membersAt y_D_membersAt ∈ qu_W := qu_is 26 (by decide +kernel) (by decide +kernel)
theorem qs_27 : Cond.selects "QuorumLogModel" y_D_latestMembers y_D_latestMembers ∈ qu_W := qu_is 27 (by decide +kernel) (by decide +kernel)
theorem qs_28 : Cond.selects "QuorumLogModel" y_D_cell y_D_cell ∈ qu_W := qu_is 28 (by decide +kernel) (by decide +kernel)
theorem qs_29 : Cond.selects "QuorumLogModel" y_D_askAll y_D_askAll ∈ qu_W := qu_is 29 (by decide +kernel) (by decide +kernel)
theorem qs_30 : Cond.selects "QuorumLogModel" y_D_begin y_D_begin ∈ qu_W := qu_is 30 (by decide +kernel) (by decide +kernel)
theorem qs_31 : Cond.selects "QuorumLogModel" y_D_lastTerm y_D_lastTerm ∈ qu_W := qu_is 31 (by decide +kernel) (by decide +kernel)
theorem qs_32 : Cond.selects "QuorumLogModel" y_D_termAt y_D_termAt ∈ qu_W := qu_is 32 (by decide +kernel) (by decide +kernel)
theorem qs_33 : Cond.selects "QuorumLogModel" y_D_post y_D_post ∈ qu_W := qu_is 33 (by decide +kernel) (by decide +kernel)
theorem qs_34 : Cond.selects "QuorumLogModel" y_D_weigh y_D_weigh ∈ qu_W := qu_is 34 (by decide +kernel) (by decide +kernel)
theorem qs_35 : Cond.selects "QuorumLogModel" y_D_most y_D_most ∈ qu_W := qu_is 35 (by decide +kernel) (by decide +kernel)
theorem qs_36 : Cond.selects "QuorumLogModel" y_D_lead y_D_lead ∈ qu_W := qu_is 36 (by decide +kernel) (by decide +kernel)
theorem qs_37 : Cond.selects "QuorumLogModel" y_D_append y_D_append ∈ qu_W := qu_is 37 (by decide +kernel) (by decide +kernel)
theorem qs_38 : Cond.selects "QuorumLogModel" y_D_push y_D_push ∈ qu_W := qu_is 38 (by decide +kernel) (by decide +kernel)
theorem qs_39 : Cond.selects "QuorumLogModel" y_D_lookAtCommit y_D_lookAtCommit ∈ qu_W := qu_is 39 (by decide +kernel) (by decide +kernel)
theorem qs_40 : Cond.selects "QuorumLogModel" y_D_having y_D_having ∈ qu_W := qu_is 40 (by decide +kernel) (by decide +kernel)
theorem qs_41 : Cond.selects "QuorumLogModel" y_D_follow y_D_follow ∈ qu_W := qu_is 41 (by decide +kernel) (by decide +kernel)
theorem qs_42 : Cond.selects "QuorumLogModel" y_D_sendAll y_D_sendAll ∈ qu_W := qu_is 42 (by decide +kernel) (by decide +kernel)
theorem qs_43 : Cond.selects "QuorumLogModel" y_D_sendTo y_D_sendTo ∈ qu_W := qu_is 43 (by decide +kernel) (by decide +kernel)
theorem qs_44 : Cond.selects "QuorumLogModel" y_D_leads y_D_leads ∈ qu_W := qu_is 44 (by decide +kernel) (by decide +kernel)
theorem qs_45 : Cond.selects "QuorumLogModel" y_D_fail y_D_fail ∈ qu_W := qu_is 45 (by decide +kernel) (by decide +kernel)
theorem qs_46 : Cond.selects "QuorumLogModel" y_D_isOld y_D_isOld ∈ qu_W := qu_is 46 (by decide +kernel) (by decide +kernel)
theorem qs_47 : Cond.selects "QuorumLogModel" y_D_lookAtReads y_D_lookAtReads ∈ qu_W := qu_is 47 (by decide +kernel) (by decide +kernel)
theorem qs_48 : Cond.selects "QuorumLogModel" y_D_valueAt y_D_valueAt ∈ qu_W := qu_is 48 (by decide +kernel) (by decide +kernel)
theorem qs_49 : Cond.selects "QuorumLogModel" y_D_shift y_D_shift ∈ qu_W := qu_is 49 (by decide +kernel) (by decide +kernel)
theorem qs_50 : Cond.selects "QuorumLogModel" y_D_takeOut y_D_takeOut ∈ qu_W := qu_is 50 (by decide +kernel) (by decide +kernel)
theorem qs_51 : Cond.selects "QuorumLogModel" y_D_newTerm y_D_newTerm ∈ qu_W := qu_is 51 (by decide +kernel) (by decide +kernel)
theorem qs_52 : Cond.selects "QuorumLogModel" y_D_question y_D_question ∈ qu_W := qu_is 52 (by decide +kernel) (by decide +kernel)
theorem qs_53 : Cond.selects "QuorumLogModel" y_D_liesBefore y_D_liesBefore ∈ qu_W := qu_is 53 (by decide +kernel) (by decide +kernel)
theorem qs_54 : Cond.selects "QuorumLogModel" y_D_reply y_D_reply ∈ qu_W := qu_is 54 (by decide +kernel) (by decide +kernel)
theorem qs_55 : Cond.selects "QuorumLogModel" y_D_answered y_D_answered ∈ qu_W := qu_is 55 (by decide +kernel) (by decide +kernel)
theorem qs_56 : Cond.selects "QuorumLogModel" y_D_called y_D_called ∈ qu_W := qu_is 56 (by decide +kernel) (by decide +kernel)
theorem qs_57 : Cond.selects "QuorumLogModel" y_D_voted y_D_voted ∈ qu_W := qu_is 57 (by decide +kernel) (by decide +kernel)
theorem qs_58 : Cond.selects "QuorumLogModel" y_D_appended y_D_appended ∈ qu_W := qu_is 58 (by decide +kernel) (by decide +kernel)
theorem qs_59 : Cond.selects "QuorumLogModel" y_D_result y_D_result ∈ qu_W := qu_is 59 (by decide +kernel) (by decide +kernel)
theorem qs_60 : Cond.selects "QuorumLogModel" y_D_takeEntry y_D_takeEntry ∈ qu_W := qu_is 60 (by decide +kernel) (by decide +kernel)
theorem qs_61 : Cond.selects "QuorumLogModel" y_D_resulted y_D_resulted ∈ qu_W := qu_is 61 (by decide +kernel) (by decide +kernel)
theorem qs_62 : Cond.selects "QuorumLogModel" y_D_installed y_D_installed ∈ qu_W := qu_is 62 (by decide +kernel) (by decide +kernel)
theorem oi_1 : Cond.instanceMethod Lib.objectInit ∈ qu_W := qm_24
theorem oi_2 : Cond.code Lib.objectInit ⟨#[0xb1]⟩ 1 none ∈ qu_W := qm_25
theorem ac_int : Cond.arrayClass .int ∈ qu_W := qm_58
theorem ac_boolean : Cond.arrayClass .boolean ∈ qu_W := qm_808
theorem ac_long : Cond.arrayClass .long ∈ qu_W := qm_1050
theorem uw_Q : ∀ w ∈ u_ws "QuorumLog" T_Q 3, w ∈ qu_W := show ∀ w ∈ [u_lay "QuorumLog" T_Q 0, u_lay "QuorumLog" T_Q 1, u_lay "QuorumLog" T_Q 2], w ∈ qu_W from List.forall_mem_cons.mpr ⟨qm_241, List.forall_mem_cons.mpr ⟨qm_243, List.forall_mem_cons.mpr ⟨qm_245, fun _ h => absurd h List.not_mem_nil⟩⟩⟩
theorem uw_E : ∀ w ∈ u_ws "QuorumLog$Entry" T_E 4, w ∈ qu_W := show ∀ w ∈ [u_lay "QuorumLog$Entry" T_E 0, u_lay "QuorumLog$Entry" T_E 1, u_lay "QuorumLog$Entry" T_E 2, u_lay "QuorumLog$Entry" T_E 3], w ∈ qu_W from List.forall_mem_cons.mpr ⟨qm_340, List.forall_mem_cons.mpr ⟨qm_342, List.forall_mem_cons.mpr ⟨qm_344, List.forall_mem_cons.mpr ⟨qm_346, fun _ h => absurd h List.not_mem_nil⟩⟩⟩⟩
theorem uw_L : ∀ w ∈ u_ws "QuorumLog$Log" T_L 3, w ∈ qu_W := show ∀ w ∈ [u_lay "QuorumLog$Log" T_L 0, u_lay "QuorumLog$Log" T_L 1, u_lay "QuorumLog$Log" T_L 2], w ∈ qu_W from List.forall_mem_cons.mpr ⟨qm_102, List.forall_mem_cons.mpr ⟨qm_104, List.forall_mem_cons.mpr ⟨qm_106, fun _ h => absurd h List.not_mem_nil⟩⟩⟩
theorem uw_M : ∀ w ∈ u_ws "QuorumLog$Message" T_M 12, w ∈ qu_W := show ∀ w ∈ [u_lay "QuorumLog$Message" T_M 0, u_lay "QuorumLog$Message" T_M 1, u_lay "QuorumLog$Message" T_M 2, u_lay "QuorumLog$Message" T_M 3, u_lay "QuorumLog$Message" T_M 4, u_lay "QuorumLog$Message" T_M 5, u_lay "QuorumLog$Message" T_M 6, u_lay "QuorumLog$Message" T_M 7, u_lay "QuorumLog$Message" T_M 8, u_lay "QuorumLog$Message" T_M 9, u_lay "QuorumLog$Message" T_M 10, u_lay "QuorumLog$Message" T_M 11], w ∈ qu_W from List.forall_mem_cons.mpr ⟨qm_201, List.forall_mem_cons.mpr ⟨qm_203, List.forall_mem_cons.mpr ⟨qm_205, List.forall_mem_cons.mpr ⟨qm_207, List.forall_mem_cons.mpr ⟨qm_209, List.forall_mem_cons.mpr ⟨qm_211, List.forall_mem_cons.mpr ⟨qm_213, List.forall_mem_cons.mpr ⟨qm_215, List.forall_mem_cons.mpr ⟨qm_217, List.forall_mem_cons.mpr ⟨qm_219, List.forall_mem_cons.mpr ⟨qm_221, List.forall_mem_cons.mpr ⟨qm_223, fun _ h => absurd h List.not_mem_nil⟩⟩⟩⟩⟩⟩⟩⟩⟩⟩⟩⟩
theorem uw_R : ∀ w ∈ u_ws "QuorumLog$Reads" T_R 6, w ∈ qu_W := show ∀ w ∈ [u_lay "QuorumLog$Reads" T_R 0, u_lay "QuorumLog$Reads" T_R 1, u_lay "QuorumLog$Reads" T_R 2, u_lay "QuorumLog$Reads" T_R 3, u_lay "QuorumLog$Reads" T_R 4, u_lay "QuorumLog$Reads" T_R 5], w ∈ qu_W from List.forall_mem_cons.mpr ⟨qm_45, List.forall_mem_cons.mpr ⟨qm_47, List.forall_mem_cons.mpr ⟨qm_49, List.forall_mem_cons.mpr ⟨qm_51, List.forall_mem_cons.mpr ⟨qm_53, List.forall_mem_cons.mpr ⟨qm_55, fun _ h => absurd h List.not_mem_nil⟩⟩⟩⟩⟩⟩
theorem uw_W : ∀ w ∈ u_ws "QuorumLog$Row" T_W 3, w ∈ qu_W := show ∀ w ∈ [u_lay "QuorumLog$Row" T_W 0, u_lay "QuorumLog$Row" T_W 1, u_lay "QuorumLog$Row" T_W 2], w ∈ qu_W from List.forall_mem_cons.mpr ⟨qm_231, List.forall_mem_cons.mpr ⟨qm_233, List.forall_mem_cons.mpr ⟨qm_235, fun _ h => absurd h List.not_mem_nil⟩⟩⟩
theorem uw_S : ∀ w ∈ u_ws "QuorumLog$Server" T_S 13, w ∈ qu_W := show ∀ w ∈ [u_lay "QuorumLog$Server" T_S 0, u_lay "QuorumLog$Server" T_S 1, u_lay "QuorumLog$Server" T_S 2, u_lay "QuorumLog$Server" T_S 3, u_lay "QuorumLog$Server" T_S 4, u_lay "QuorumLog$Server" T_S 5, u_lay "QuorumLog$Server" T_S 6, u_lay "QuorumLog$Server" T_S 7, u_lay "QuorumLog$Server" T_S 8, u_lay "QuorumLog$Server" T_S 9, u_lay "QuorumLog$Server" T_S 10, u_lay "QuorumLog$Server" T_S 11, u_lay "QuorumLog$Server" T_S 12], w ∈ qu_W from List.forall_mem_cons.mpr ⟨qm_132, List.forall_mem_cons.mpr ⟨qm_134, List.forall_mem_cons.mpr ⟨qm_136, List.forall_mem_cons.mpr ⟨qm_138, List.forall_mem_cons.mpr ⟨qm_140, List.forall_mem_cons.mpr ⟨qm_142, List.forall_mem_cons.mpr ⟨qm_144, List.forall_mem_cons.mpr ⟨qm_146, List.forall_mem_cons.mpr ⟨qm_148, List.forall_mem_cons.mpr ⟨qm_150, List.forall_mem_cons.mpr ⟨qm_152, List.forall_mem_cons.mpr ⟨qm_154, List.forall_mem_cons.mpr ⟨qm_156, fun _ h => absurd h List.not_mem_nil⟩⟩⟩⟩⟩⟩⟩⟩⟩⟩⟩⟩⟩
theorem uw_N : ∀ w ∈ u_ws "QuorumLog$Snapshot" T_N 4, w ∈ qu_W := show ∀ w ∈ [u_lay "QuorumLog$Snapshot" T_N 0, u_lay "QuorumLog$Snapshot" T_N 1, u_lay "QuorumLog$Snapshot" T_N 2, u_lay "QuorumLog$Snapshot" T_N 3], w ∈ qu_W from List.forall_mem_cons.mpr ⟨qm_74, List.forall_mem_cons.mpr ⟨qm_76, List.forall_mem_cons.mpr ⟨qm_78, List.forall_mem_cons.mpr ⟨qm_80, fun _ h => absurd h List.not_mem_nil⟩⟩⟩⟩
theorem uw_D : ∀ w ∈ u_ws "QuorumLogModel" T_D 30, w ∈ qu_W := show ∀ w ∈ [u_lay "QuorumLogModel" T_D 0, u_lay "QuorumLogModel" T_D 1, u_lay "QuorumLogModel" T_D 2, u_lay "QuorumLogModel" T_D 3, u_lay "QuorumLogModel" T_D 4, u_lay "QuorumLogModel" T_D 5, u_lay "QuorumLogModel" T_D 6, u_lay "QuorumLogModel" T_D 7, u_lay "QuorumLogModel" T_D 8, u_lay "QuorumLogModel" T_D 9, u_lay "QuorumLogModel" T_D 10, u_lay "QuorumLogModel" T_D 11, u_lay "QuorumLogModel" T_D 12, u_lay "QuorumLogModel" T_D 13, u_lay "QuorumLogModel" T_D 14, u_lay "QuorumLogModel" T_D 15, u_lay "QuorumLogModel" T_D 16, u_lay "QuorumLogModel" T_D 17, u_lay "QuorumLogModel" T_D 18, u_lay "QuorumLogModel" T_D 19, u_lay "QuorumLogModel" T_D 20, u_lay "QuorumLogModel" T_D 21, u_lay "QuorumLogModel" T_D 22, u_lay "QuorumLogModel" T_D 23, u_lay "QuorumLogModel" T_D 24, u_lay "QuorumLogModel" T_D 25, u_lay "QuorumLogModel" T_D 26, u_lay "QuorumLogModel" T_D 27, u_lay "QuorumLogModel" T_D 28, u_lay "QuorumLogModel" T_D 29], w ∈ qu_W from List.forall_mem_cons.mpr ⟨qm_747, List.forall_mem_cons.mpr ⟨qm_749, List.forall_mem_cons.mpr ⟨qm_751, List.forall_mem_cons.mpr ⟨qm_753, List.forall_mem_cons.mpr ⟨qm_755, List.forall_mem_cons.mpr ⟨qm_757, List.forall_mem_cons.mpr ⟨qm_759, List.forall_mem_cons.mpr ⟨qm_761, List.forall_mem_cons.mpr ⟨qm_763, List.forall_mem_cons.mpr ⟨qm_765, List.forall_mem_cons.mpr ⟨qm_767, List.forall_mem_cons.mpr ⟨qm_769, List.forall_mem_cons.mpr ⟨qm_771, List.forall_mem_cons.mpr ⟨qm_773, List.forall_mem_cons.mpr ⟨qm_775, List.forall_mem_cons.mpr ⟨qm_777, List.forall_mem_cons.mpr ⟨qm_779, List.forall_mem_cons.mpr ⟨qm_781, List.forall_mem_cons.mpr ⟨qm_783, List.forall_mem_cons.mpr ⟨qm_785, List.forall_mem_cons.mpr ⟨qm_787, List.forall_mem_cons.mpr ⟨qm_789, List.forall_mem_cons.mpr ⟨qm_791, List.forall_mem_cons.mpr ⟨qm_793, List.forall_mem_cons.mpr ⟨qm_795, List.forall_mem_cons.mpr ⟨qm_797, List.forall_mem_cons.mpr ⟨qm_799, List.forall_mem_cons.mpr ⟨qm_801, List.forall_mem_cons.mpr ⟨qm_803, List.forall_mem_cons.mpr ⟨qm_805, fun _ h => absurd h List.not_mem_nil⟩⟩⟩⟩⟩⟩⟩⟩⟩⟩⟩⟩⟩⟩⟩⟩⟩⟩⟩⟩⟩⟩⟩⟩⟩⟩⟩⟩⟩⟩
theorem w_Q_init : Cond.code y_Q_init c_Q_init 5 none ∈ qu_W ∧ Cond.initialized y_Q_init.cls ∈ qu_W := ⟨qm_22, qm_1⟩
theorem p_Q_init : (parseMethodDescriptor y_Q_init.desc).map (fun d => d.parameters.length) = some 1 := by decide +kernel
theorem w_R_init : Cond.code y_R_init c_R_init 1 none ∈ qu_W ∧ Cond.initialized y_R_init.cls ∈ qu_W := ⟨qm_32, qm_2⟩
theorem p_R_init : (parseMethodDescriptor y_R_init.desc).map (fun d => d.parameters.length) = some 0 := by decide +kernel
theorem w_N_init : Cond.code y_N_init c_N_init 5 none ∈ qu_W ∧ Cond.initialized y_N_init.cls ∈ qu_W := ⟨qm_63, qm_3⟩
theorem p_N_init : (parseMethodDescriptor y_N_init.desc).map (fun d => d.parameters.length) = some 4 := by decide +kernel
theorem w_S_init : Cond.code y_S_init c_S_init 3 none ∈ qu_W ∧ Cond.initialized y_S_init.cls ∈ qu_W := ⟨qm_86, qm_4⟩
theorem p_S_init : (parseMethodDescriptor y_S_init.desc).map (fun d => d.parameters.length) = some 2 := by decide +kernel
theorem w_L_init : Cond.code y_L_init c_L_init 2 none ∈ qu_W ∧ Cond.initialized y_L_init.cls ∈ qu_W := ⟨qm_92, qm_5⟩
theorem p_L_init : (parseMethodDescriptor y_L_init.desc).map (fun d => d.parameters.length) = some 1 := by decide +kernel
theorem w_W_init : Cond.code y_W_init c_W_init 3 none ∈ qu_W ∧ Cond.initialized y_W_init.cls ∈ qu_W := ⟨qm_163, qm_6⟩
theorem p_W_init : (parseMethodDescriptor y_W_init.desc).map (fun d => d.parameters.length) = some 1 := by decide +kernel
theorem w_M_init : Cond.code y_M_init c_M_init 2 none ∈ qu_W ∧ Cond.initialized y_M_init.cls ∈ qu_W := ⟨qm_170, qm_7⟩
theorem p_M_init : (parseMethodDescriptor y_M_init.desc).map (fun d => d.parameters.length) = some 1 := by decide +kernel
theorem w_Q_timer : Cond.code y_Q_timer c_Q_timer 3 (some .boolean) ∈ qu_W ∧ Cond.initialized y_Q_timer.cls ∈ qu_W := ⟨qm_251, qm_1⟩
theorem p_Q_timer : (parseMethodDescriptor y_Q_timer.desc).map (fun d => d.parameters.length) = some 1 := by decide +kernel
theorem w_Q_isServer : Cond.code y_Q_isServer c_Q_isServer 1 (some .boolean) ∈ qu_W ∧ Cond.initialized y_Q_isServer.cls ∈ qu_W := ⟨qm_254, qm_1⟩
theorem p_Q_isServer : (parseMethodDescriptor y_Q_isServer.desc).map (fun d => d.parameters.length) = some 1 := by decide +kernel
theorem w_S_mayAsk : Cond.code y_S_mayAsk c_S_mayAsk 1 (some .boolean) ∈ qu_W ∧ Cond.initialized y_S_mayAsk.cls ∈ qu_W := ⟨qm_258, qm_4⟩
theorem p_S_mayAsk : (parseMethodDescriptor y_S_mayAsk.desc).map (fun d => d.parameters.length) = some 0 := by decide +kernel
theorem w_L_configuration : Cond.code y_L_configuration c_L_configuration 1 (some .int) ∈ qu_W ∧ Cond.initialized y_L_configuration.cls ∈ qu_W := ⟨qm_262, qm_5⟩
theorem p_L_configuration : (parseMethodDescriptor y_L_configuration.desc).map (fun d => d.parameters.length) = some 0 := by decide +kernel
theorem w_L_last : Cond.code y_L_last c_L_last 1 (some .int) ∈ qu_W ∧ Cond.initialized y_L_last.cls ∈ qu_W := ⟨qm_266, qm_5⟩
theorem p_L_last : (parseMethodDescriptor y_L_last.desc).map (fun d => d.parameters.length) = some 0 := by decide +kernel
theorem w_L_latestMembersUpTo : Cond.code y_L_latestMembersUpTo c_L_latestMembersUpTo 4 (some .int) ∈ qu_W ∧ Cond.initialized y_L_latestMembersUpTo.cls ∈ qu_W := ⟨qm_270, qm_5⟩
theorem p_L_latestMembersUpTo : (parseMethodDescriptor y_L_latestMembersUpTo.desc).map (fun d => d.parameters.length) = some 1 := by decide +kernel
theorem w_L_find : Cond.code y_L_find c_L_find 3 (some (.object "QuorumLog$Entry")) ∈ qu_W ∧ Cond.initialized y_L_find.cls ∈ qu_W := ⟨qm_274, qm_5⟩
theorem p_L_find : (parseMethodDescriptor y_L_find.desc).map (fun d => d.parameters.length) = some 1 := by decide +kernel
theorem w_L_membersAt : Cond.code y_L_membersAt c_L_membersAt 3 (some .int) ∈ qu_W ∧ Cond.initialized y_L_membersAt.cls ∈ qu_W := ⟨qm_278, qm_5⟩
theorem p_L_membersAt : (parseMethodDescriptor y_L_membersAt.desc).map (fun d => d.parameters.length) = some 1 := by decide +kernel
theorem w_Q_isIn : Cond.code y_Q_isIn c_Q_isIn 2 (some .boolean) ∈ qu_W ∧ Cond.initialized y_Q_isIn.cls ∈ qu_W := ⟨qm_281, qm_1⟩
theorem p_Q_isIn : (parseMethodDescriptor y_Q_isIn.desc).map (fun d => d.parameters.length) = some 2 := by decide +kernel
theorem w_Q_askAll : Cond.code y_Q_askAll c_Q_askAll 7 none ∈ qu_W ∧ Cond.initialized y_Q_askAll.cls ∈ qu_W := ⟨qm_285, qm_1⟩
theorem p_Q_askAll : (parseMethodDescriptor y_Q_askAll.desc).map (fun d => d.parameters.length) = some 3 := by decide +kernel
theorem w_W_send : Cond.code y_W_send c_W_send 6 (some (.object "QuorumLog$Message")) ∈ qu_W ∧ Cond.initialized y_W_send.cls ∈ qu_W := ⟨qm_291, qm_6⟩
theorem p_W_send : (parseMethodDescriptor y_W_send.desc).map (fun d => d.parameters.length) = some 4 := by decide +kernel
theorem w_M_begin : Cond.code y_M_begin c_M_begin 5 none ∈ qu_W ∧ Cond.initialized y_M_begin.cls ∈ qu_W := ⟨qm_295, qm_7⟩
theorem p_M_begin : (parseMethodDescriptor y_M_begin.desc).map (fun d => d.parameters.length) = some 4 := by decide +kernel
theorem w_L_lastTerm : Cond.code y_L_lastTerm c_L_lastTerm 1 (some .int) ∈ qu_W ∧ Cond.initialized y_L_lastTerm.cls ∈ qu_W := ⟨qm_300, qm_5⟩
theorem p_L_lastTerm : (parseMethodDescriptor y_L_lastTerm.desc).map (fun d => d.parameters.length) = some 0 := by decide +kernel
theorem w_L_termAt : Cond.code y_L_termAt c_L_termAt 3 (some .int) ∈ qu_W ∧ Cond.initialized y_L_termAt.cls ∈ qu_W := ⟨qm_304, qm_5⟩
theorem p_L_termAt : (parseMethodDescriptor y_L_termAt.desc).map (fun d => d.parameters.length) = some 1 := by decide +kernel
theorem w_Q_standIfMostSaidYes : Cond.code y_Q_standIfMostSaidYes c_Q_standIfMostSaidYes 2 none ∈ qu_W ∧ Cond.initialized y_Q_standIfMostSaidYes.cls ∈ qu_W := ⟨qm_308, qm_1⟩
theorem p_Q_standIfMostSaidYes : (parseMethodDescriptor y_Q_standIfMostSaidYes.desc).map (fun d => d.parameters.length) = some 1 := by decide +kernel
theorem w_Q_areMost : Cond.code y_Q_areMost c_Q_areMost 2 (some .boolean) ∈ qu_W ∧ Cond.initialized y_Q_areMost.cls ∈ qu_W := ⟨qm_311, qm_1⟩
theorem p_Q_areMost : (parseMethodDescriptor y_Q_areMost.desc).map (fun d => d.parameters.length) = some 2 := by decide +kernel
theorem w_Q_leadIfMostSaidYes : Cond.code y_Q_leadIfMostSaidYes c_Q_leadIfMostSaidYes 3 none ∈ qu_W ∧ Cond.initialized y_Q_leadIfMostSaidYes.cls ∈ qu_W := ⟨qm_321, qm_1⟩
theorem p_Q_leadIfMostSaidYes : (parseMethodDescriptor y_Q_leadIfMostSaidYes.desc).map (fun d => d.parameters.length) = some 1 := by decide +kernel
theorem w_E_init : Cond.code y_E_init c_E_init 5 none ∈ qu_W ∧ Cond.initialized y_E_init.cls ∈ qu_W := ⟨qm_326, qm_10⟩
theorem p_E_init : (parseMethodDescriptor y_E_init.desc).map (fun d => d.parameters.length) = some 4 := by decide +kernel
theorem w_Q_append : Cond.code y_Q_append c_Q_append 3 (some .int) ∈ qu_W ∧ Cond.initialized y_Q_append.cls ∈ qu_W := ⟨qm_352, qm_1⟩
theorem p_Q_append : (parseMethodDescriptor y_Q_append.desc).map (fun d => d.parameters.length) = some 2 := by decide +kernel
theorem w_L_add : Cond.code y_L_add c_L_add 2 (some .boolean) ∈ qu_W ∧ Cond.initialized y_L_add.cls ∈ qu_W := ⟨qm_356, qm_5⟩
theorem p_L_add : (parseMethodDescriptor y_L_add.desc).map (fun d => d.parameters.length) = some 1 := by decide +kernel
theorem w_Q_lookAtCommit : Cond.code y_Q_lookAtCommit c_Q_lookAtCommit 4 none ∈ qu_W ∧ Cond.initialized y_Q_lookAtCommit.cls ∈ qu_W := ⟨qm_360, qm_1⟩
theorem p_Q_lookAtCommit : (parseMethodDescriptor y_Q_lookAtCommit.desc).map (fun d => d.parameters.length) = some 1 := by decide +kernel
theorem w_S_holdersOf : Cond.code y_S_holdersOf c_S_holdersOf 2 (some .int) ∈ qu_W ∧ Cond.initialized y_S_holdersOf.cls ∈ qu_W := ⟨qm_365, qm_4⟩
theorem p_S_holdersOf : (parseMethodDescriptor y_S_holdersOf.desc).map (fun d => d.parameters.length) = some 1 := by decide +kernel
theorem w_S_reachedBy : Cond.code y_S_reachedBy c_S_reachedBy 5 (some .int) ∈ qu_W ∧ Cond.initialized y_S_reachedBy.cls ∈ qu_W := ⟨qm_369, qm_4⟩
theorem p_S_reachedBy : (parseMethodDescriptor y_S_reachedBy.desc).map (fun d => d.parameters.length) = some 2 := by decide +kernel
theorem w_Q_follow : Cond.code y_Q_follow c_Q_follow 2 none ∈ qu_W ∧ Cond.initialized y_Q_follow.cls ∈ qu_W := ⟨qm_374, qm_1⟩
theorem p_Q_follow : (parseMethodDescriptor y_Q_follow.desc).map (fun d => d.parameters.length) = some 1 := by decide +kernel
theorem w_R_failAllOf : Cond.code y_R_failAllOf c_R_failAllOf 3 none ∈ qu_W ∧ Cond.initialized y_R_failAllOf.cls ∈ qu_W := ⟨qm_378, qm_2⟩
theorem p_R_failAllOf : (parseMethodDescriptor y_R_failAllOf.desc).map (fun d => d.parameters.length) = some 1 := by decide +kernel
theorem w_R_isKeptBy : Cond.code y_R_isKeptBy c_R_isKeptBy 3 (some .boolean) ∈ qu_W ∧ Cond.initialized y_R_isKeptBy.cls ∈ qu_W := ⟨qm_382, qm_2⟩
theorem p_R_isKeptBy : (parseMethodDescriptor y_R_isKeptBy.desc).map (fun d => d.parameters.length) = some 2 := by decide +kernel
theorem w_Q_sendToAll : Cond.code y_Q_sendToAll c_Q_sendToAll 4 none ∈ qu_W ∧ Cond.initialized y_Q_sendToAll.cls ∈ qu_W := ⟨qm_386, qm_1⟩
theorem p_Q_sendToAll : (parseMethodDescriptor y_Q_sendToAll.desc).map (fun d => d.parameters.length) = some 1 := by decide +kernel
theorem w_Q_sendTo : Cond.code y_Q_sendTo c_Q_sendTo 6 none ∈ qu_W ∧ Cond.initialized y_Q_sendTo.cls ∈ qu_W := ⟨qm_390, qm_1⟩
theorem p_Q_sendTo : (parseMethodDescriptor y_Q_sendTo.desc).map (fun d => d.parameters.length) = some 2 := by decide +kernel
theorem w_L_copyBehind : Cond.code y_L_copyBehind c_L_copyBehind 5 (some .int) ∈ qu_W ∧ Cond.initialized y_L_copyBehind.cls ∈ qu_W := ⟨qm_394, qm_5⟩
theorem p_L_copyBehind : (parseMethodDescriptor y_L_copyBehind.desc).map (fun d => d.parameters.length) = some 2 := by decide +kernel
theorem w_Q_beat : Cond.code y_Q_beat c_Q_beat 2 (some .boolean) ∈ qu_W ∧ Cond.initialized y_Q_beat.cls ∈ qu_W := ⟨qm_398, qm_1⟩
theorem p_Q_beat : (parseMethodDescriptor y_Q_beat.desc).map (fun d => d.parameters.length) = some 1 := by decide +kernel
theorem w_S_leads : Cond.code y_S_leads c_S_leads 1 (some .boolean) ∈ qu_W ∧ Cond.initialized y_S_leads.cls ∈ qu_W := ⟨qm_402, qm_4⟩
theorem p_S_leads : (parseMethodDescriptor y_S_leads.desc).map (fun d => d.parameters.length) = some 0 := by decide +kernel
theorem w_Q_outcome : Cond.code y_Q_outcome c_Q_outcome 2 (some .int) ∈ qu_W ∧ Cond.initialized y_Q_outcome.cls ∈ qu_W := ⟨qm_406, qm_1⟩
theorem p_Q_outcome : (parseMethodDescriptor y_Q_outcome.desc).map (fun d => d.parameters.length) = some 1 := by decide +kernel
theorem w_R_holds : Cond.code y_R_holds c_R_holds 2 (some .boolean) ∈ qu_W ∧ Cond.initialized y_R_holds.cls ∈ qu_W := ⟨qm_410, qm_2⟩
theorem p_R_holds : (parseMethodDescriptor y_R_holds.desc).map (fun d => d.parameters.length) = some 1 := by decide +kernel
theorem w_Q_value : Cond.code y_Q_value c_Q_value 2 (some .int) ∈ qu_W ∧ Cond.initialized y_Q_value.cls ∈ qu_W := ⟨qm_414, qm_1⟩
theorem p_Q_value : (parseMethodDescriptor y_Q_value.desc).map (fun d => d.parameters.length) = some 1 := by decide +kernel
theorem w_Q_compact : Cond.code y_Q_compact c_Q_compact 3 (some .boolean) ∈ qu_W ∧ Cond.initialized y_Q_compact.cls ∈ qu_W := ⟨qm_418, qm_1⟩
theorem p_Q_compact : (parseMethodDescriptor y_Q_compact.desc).map (fun d => d.parameters.length) = some 1 := by decide +kernel
theorem w_L_snapshotAt : Cond.code y_L_snapshotAt c_L_snapshotAt 4 (some (.object "QuorumLog$Snapshot")) ∈ qu_W ∧ Cond.initialized y_L_snapshotAt.cls ∈ qu_W := ⟨qm_422, qm_5⟩
theorem p_L_snapshotAt : (parseMethodDescriptor y_L_snapshotAt.desc).map (fun d => d.parameters.length) = some 1 := by decide +kernel
theorem w_L_storedUpTo : Cond.code y_L_storedUpTo c_L_storedUpTo 5 (some .int) ∈ qu_W ∧ Cond.initialized y_L_storedUpTo.cls ∈ qu_W := ⟨qm_426, qm_5⟩
theorem p_L_storedUpTo : (parseMethodDescriptor y_L_storedUpTo.desc).map (fun d => d.parameters.length) = some 2 := by decide +kernel
theorem w_L_beginBehind : Cond.code y_L_beginBehind c_L_beginBehind 6 none ∈ qu_W ∧ Cond.initialized y_L_beginBehind.cls ∈ qu_W := ⟨qm_432, qm_5⟩
theorem p_L_beginBehind : (parseMethodDescriptor y_L_beginBehind.desc).map (fun d => d.parameters.length) = some 1 := by decide +kernel
theorem w_Q_crash : Cond.code y_Q_crash c_Q_crash 3 (some .boolean) ∈ qu_W ∧ Cond.initialized y_Q_crash.cls ∈ qu_W := ⟨qm_436, qm_1⟩
theorem p_Q_crash : (parseMethodDescriptor y_Q_crash.desc).map (fun d => d.parameters.length) = some 1 := by decide +kernel
theorem w_Q_restart : Cond.code y_Q_restart c_Q_restart 2 (some .boolean) ∈ qu_W ∧ Cond.initialized y_Q_restart.cls ∈ qu_W := ⟨qm_440, qm_1⟩
theorem p_Q_restart : (parseMethodDescriptor y_Q_restart.desc).map (fun d => d.parameters.length) = some 1 := by decide +kernel
theorem w_Q_deliver : Cond.code y_Q_deliver c_Q_deliver 4 (some .int) ∈ qu_W ∧ Cond.initialized y_Q_deliver.cls ∈ qu_W := ⟨qm_444, qm_1⟩
theorem p_Q_deliver : (parseMethodDescriptor y_Q_deliver.desc).map (fun d => d.parameters.length) = some 1 := by decide +kernel
theorem w_W_holds : Cond.code y_W_holds c_W_holds 2 (some .boolean) ∈ qu_W ∧ Cond.initialized y_W_holds.cls ∈ qu_W := ⟨qm_448, qm_6⟩
theorem p_W_holds : (parseMethodDescriptor y_W_holds.desc).map (fun d => d.parameters.length) = some 1 := by decide +kernel
theorem w_W_take : Cond.code y_W_take c_W_take 4 (some (.object "QuorumLog$Message")) ∈ qu_W ∧ Cond.initialized y_W_take.cls ∈ qu_W := ⟨qm_452, qm_6⟩
theorem p_W_take : (parseMethodDescriptor y_W_take.desc).map (fun d => d.parameters.length) = some 1 := by decide +kernel
theorem w_Q_come : Cond.code y_Q_come c_Q_come 3 none ∈ qu_W ∧ Cond.initialized y_Q_come.cls ∈ qu_W := ⟨qm_456, qm_1⟩
theorem p_Q_come : (parseMethodDescriptor y_Q_come.desc).map (fun d => d.parameters.length) = some 2 := by decide +kernel
theorem w_Q_enterTerm : Cond.code y_Q_enterTerm c_Q_enterTerm 3 none ∈ qu_W ∧ Cond.initialized y_Q_enterTerm.cls ∈ qu_W := ⟨qm_460, qm_1⟩
theorem p_Q_enterTerm : (parseMethodDescriptor y_Q_enterTerm.desc).map (fun d => d.parameters.length) = some 2 := by decide +kernel
theorem w_Q_questionComes : Cond.code y_Q_questionComes c_Q_questionComes 5 none ∈ qu_W ∧ Cond.initialized y_Q_questionComes.cls ∈ qu_W := ⟨qm_464, qm_1⟩
theorem p_Q_questionComes : (parseMethodDescriptor y_Q_questionComes.desc).map (fun d => d.parameters.length) = some 2 := by decide +kernel
theorem w_L_isBehindOf : Cond.code y_L_isBehindOf c_L_isBehindOf 3 (some .boolean) ∈ qu_W ∧ Cond.initialized y_L_isBehindOf.cls ∈ qu_W := ⟨qm_468, qm_5⟩
theorem p_L_isBehindOf : (parseMethodDescriptor y_L_isBehindOf.desc).map (fun d => d.parameters.length) = some 1 := by decide +kernel
theorem w_Q_answerComes : Cond.code y_Q_answerComes c_Q_answerComes 3 none ∈ qu_W ∧ Cond.initialized y_Q_answerComes.cls ∈ qu_W := ⟨qm_473, qm_1⟩
theorem p_Q_answerComes : (parseMethodDescriptor y_Q_answerComes.desc).map (fun d => d.parameters.length) = some 2 := by decide +kernel
theorem w_Q_callComes : Cond.code y_Q_callComes c_Q_callComes 6 none ∈ qu_W ∧ Cond.initialized y_Q_callComes.cls ∈ qu_W := ⟨qm_477, qm_1⟩
theorem p_Q_callComes : (parseMethodDescriptor y_Q_callComes.desc).map (fun d => d.parameters.length) = some 2 := by decide +kernel
theorem w_Q_voteComes : Cond.code y_Q_voteComes c_Q_voteComes 3 none ∈ qu_W ∧ Cond.initialized y_Q_voteComes.cls ∈ qu_W := ⟨qm_481, qm_1⟩
theorem p_Q_voteComes : (parseMethodDescriptor y_Q_voteComes.desc).map (fun d => d.parameters.length) = some 2 := by decide +kernel
theorem w_Q_appendComes : Cond.code y_Q_appendComes c_Q_appendComes 4 none ∈ qu_W ∧ Cond.initialized y_Q_appendComes.cls ∈ qu_W := ⟨qm_485, qm_1⟩
theorem p_Q_appendComes : (parseMethodDescriptor y_Q_appendComes.desc).map (fun d => d.parameters.length) = some 2 := by decide +kernel
theorem w_Q_sendResult : Cond.code y_Q_sendResult c_Q_sendResult 7 none ∈ qu_W ∧ Cond.initialized y_Q_sendResult.cls ∈ qu_W := ⟨qm_489, qm_1⟩
theorem p_Q_sendResult : (parseMethodDescriptor y_Q_sendResult.desc).map (fun d => d.parameters.length) = some 5 := by decide +kernel
theorem w_L_fitsBehind : Cond.code y_L_fitsBehind c_L_fitsBehind 3 (some .boolean) ∈ qu_W ∧ Cond.initialized y_L_fitsBehind.cls ∈ qu_W := ⟨qm_493, qm_5⟩
theorem p_L_fitsBehind : (parseMethodDescriptor y_L_fitsBehind.desc).map (fun d => d.parameters.length) = some 2 := by decide +kernel
theorem w_L_takeOver : Cond.code y_L_takeOver c_L_takeOver 4 (some .int) ∈ qu_W ∧ Cond.initialized y_L_takeOver.cls ∈ qu_W := ⟨qm_503, qm_5⟩
theorem p_L_takeOver : (parseMethodDescriptor y_L_takeOver.desc).map (fun d => d.parameters.length) = some 1 := by decide +kernel
theorem w_L_hasOrTakes : Cond.code y_L_hasOrTakes c_L_hasOrTakes 3 (some .boolean) ∈ qu_W ∧ Cond.initialized y_L_hasOrTakes.cls ∈ qu_W := ⟨qm_507, qm_5⟩
theorem p_L_hasOrTakes : (parseMethodDescriptor y_L_hasOrTakes.desc).map (fun d => d.parameters.length) = some 2 := by decide +kernel
theorem w_L_cutFrom : Cond.code y_L_cutFrom c_L_cutFrom 3 none ∈ qu_W ∧ Cond.initialized y_L_cutFrom.cls ∈ qu_W := ⟨qm_511, qm_5⟩
theorem p_L_cutFrom : (parseMethodDescriptor y_L_cutFrom.desc).map (fun d => d.parameters.length) = some 1 := by decide +kernel
theorem w_Q_resultComes : Cond.code y_Q_resultComes c_Q_resultComes 5 none ∈ qu_W ∧ Cond.initialized y_Q_resultComes.cls ∈ qu_W := ⟨qm_516, qm_1⟩
theorem p_Q_resultComes : (parseMethodDescriptor y_Q_resultComes.desc).map (fun d => d.parameters.length) = some 2 := by decide +kernel
theorem w_Q_lookAtReads : Cond.code y_Q_lookAtReads c_Q_lookAtReads 4 none ∈ qu_W ∧ Cond.initialized y_Q_lookAtReads.cls ∈ qu_W := ⟨qm_520, qm_1⟩
theorem p_Q_lookAtReads : (parseMethodDescriptor y_Q_lookAtReads.desc).map (fun d => d.parameters.length) = some 1 := by decide +kernel
theorem w_S_confirmersOf : Cond.code y_S_confirmersOf c_S_confirmersOf 2 (some .int) ∈ qu_W ∧ Cond.initialized y_S_confirmersOf.cls ∈ qu_W := ⟨qm_525, qm_4⟩
theorem p_S_confirmersOf : (parseMethodDescriptor y_S_confirmersOf.desc).map (fun d => d.parameters.length) = some 1 := by decide +kernel
theorem w_S_storedNow : Cond.code y_S_storedNow c_S_storedNow 2 (some .int) ∈ qu_W ∧ Cond.initialized y_S_storedNow.cls ∈ qu_W := ⟨qm_529, qm_4⟩
theorem p_S_storedNow : (parseMethodDescriptor y_S_storedNow.desc).map (fun d => d.parameters.length) = some 1 := by decide +kernel
theorem w_Q_installComes : Cond.code y_Q_installComes c_Q_installComes 3 none ∈ qu_W ∧ Cond.initialized y_Q_installComes.cls ∈ qu_W := ⟨qm_534, qm_1⟩
theorem p_Q_installComes : (parseMethodDescriptor y_Q_installComes.desc).map (fun d => d.parameters.length) = some 2 := by decide +kernel
theorem w_Q_lose : Cond.code y_Q_lose c_Q_lose 2 (some .boolean) ∈ qu_W ∧ Cond.initialized y_Q_lose.cls ∈ qu_W := ⟨qm_538, qm_1⟩
theorem p_Q_lose : (parseMethodDescriptor y_Q_lose.desc).map (fun d => d.parameters.length) = some 1 := by decide +kernel
theorem w_Q_waiting : Cond.code y_Q_waiting c_Q_waiting 1 (some .int) ∈ qu_W ∧ Cond.initialized y_Q_waiting.cls ∈ qu_W := ⟨qm_542, qm_1⟩
theorem p_Q_waiting : (parseMethodDescriptor y_Q_waiting.desc).map (fun d => d.parameters.length) = some 0 := by decide +kernel
theorem w_Q_message : Cond.code y_Q_message c_Q_message 4 (some .int) ∈ qu_W ∧ Cond.initialized y_Q_message.cls ∈ qu_W := ⟨qm_546, qm_1⟩
theorem p_Q_message : (parseMethodDescriptor y_Q_message.desc).map (fun d => d.parameters.length) = some 2 := by decide +kernel
theorem w_Q_state : Cond.code y_Q_state c_Q_state 4 (some .int) ∈ qu_W ∧ Cond.initialized y_Q_state.cls ∈ qu_W := ⟨qm_550, qm_1⟩
theorem p_Q_state : (parseMethodDescriptor y_Q_state.desc).map (fun d => d.parameters.length) = some 2 := by decide +kernel
theorem w_Q_entry : Cond.code y_Q_entry c_Q_entry 5 (some .int) ∈ qu_W ∧ Cond.initialized y_Q_entry.cls ∈ qu_W := ⟨qm_554, qm_1⟩
theorem p_Q_entry : (parseMethodDescriptor y_Q_entry.desc).map (fun d => d.parameters.length) = some 3 := by decide +kernel
theorem w_Q_stored : Cond.code y_Q_stored c_Q_stored 3 (some .int) ∈ qu_W ∧ Cond.initialized y_Q_stored.cls ∈ qu_W := ⟨qm_559, qm_1⟩
theorem p_Q_stored : (parseMethodDescriptor y_Q_stored.desc).map (fun d => d.parameters.length) = some 2 := by decide +kernel
theorem w_Q_isKey : Cond.code y_Q_isKey c_Q_isKey 1 (some .boolean) ∈ qu_W ∧ Cond.initialized y_Q_isKey.cls ∈ qu_W := ⟨qm_562, qm_1⟩
theorem p_Q_isKey : (parseMethodDescriptor y_Q_isKey.desc).map (fun d => d.parameters.length) = some 1 := by decide +kernel
theorem w_Z_cell : Cond.code y_Z_cell c_Z_cell 2 (some .int) ∈ qu_W ∧ Cond.initialized y_Z_cell.cls ∈ qu_W := ⟨qm_565, qm_0⟩
theorem p_Z_cell : (parseMethodDescriptor y_Z_cell.desc).map (fun d => d.parameters.length) = some 2 := by decide +kernel
theorem w_Q_put : Cond.code y_Q_put c_Q_put 5 (some .int) ∈ qu_W ∧ Cond.initialized y_Q_put.cls ∈ qu_W := ⟨qm_575, qm_1⟩
theorem p_Q_put : (parseMethodDescriptor y_Q_put.desc).map (fun d => d.parameters.length) = some 3 := by decide +kernel
theorem w_Q_leaderFor : Cond.code y_Q_leaderFor c_Q_leaderFor 3 (some (.object "QuorumLog$Server")) ∈ qu_W ∧ Cond.initialized y_Q_leaderFor.cls ∈ qu_W := ⟨qm_579, qm_1⟩
theorem p_Q_leaderFor : (parseMethodDescriptor y_Q_leaderFor.desc).map (fun d => d.parameters.length) = some 2 := by decide +kernel
theorem w_Q_change : Cond.code y_Q_change c_Q_change 8 (some .int) ∈ qu_W ∧ Cond.initialized y_Q_change.cls ∈ qu_W := ⟨qm_686, qm_1⟩
theorem p_Q_change : (parseMethodDescriptor y_Q_change.desc).map (fun d => d.parameters.length) = some 3 := by decide +kernel
theorem w_S_hasCommitOfItsTerm : Cond.code y_S_hasCommitOfItsTerm c_S_hasCommitOfItsTerm 1 (some .boolean) ∈ qu_W ∧ Cond.initialized y_S_hasCommitOfItsTerm.cls ∈ qu_W := ⟨qm_692, qm_4⟩
theorem p_S_hasCommitOfItsTerm : (parseMethodDescriptor y_S_hasCommitOfItsTerm.desc).map (fun d => d.parameters.length) = some 0 := by decide +kernel
theorem w_Q_read : Cond.code y_Q_read c_Q_read 5 (some .int) ∈ qu_W ∧ Cond.initialized y_Q_read.cls ∈ qu_W := ⟨qm_701, qm_1⟩
theorem p_Q_read : (parseMethodDescriptor y_Q_read.desc).map (fun d => d.parameters.length) = some 2 := by decide +kernel
theorem w_R_keptBy : Cond.code y_R_keptBy c_R_keptBy 4 (some .int) ∈ qu_W ∧ Cond.initialized y_R_keptBy.cls ∈ qu_W := ⟨qm_705, qm_2⟩
theorem p_R_keptBy : (parseMethodDescriptor y_R_keptBy.desc).map (fun d => d.parameters.length) = some 1 := by decide +kernel
theorem w_R_keep : Cond.code y_R_keep c_R_keep 5 (some .int) ∈ qu_W ∧ Cond.initialized y_R_keep.cls ∈ qu_W := ⟨qm_710, qm_2⟩
theorem p_R_keep : (parseMethodDescriptor y_R_keep.desc).map (fun d => d.parameters.length) = some 3 := by decide +kernel
theorem w_D_init : Cond.code y_D_init c_D_init 3 none ∈ qu_W ∧ Cond.initialized y_D_init.cls ∈ qu_W := ⟨qm_715, qm_8⟩
theorem p_D_init : (parseMethodDescriptor y_D_init.desc).map (fun d => d.parameters.length) = some 1 := by decide +kernel
theorem w_D_thrown : Cond.code y_D_thrown c_D_thrown 1 (some .int) ∈ qu_W ∧ Cond.initialized y_D_thrown.cls ∈ qu_W := ⟨qm_812, qm_8⟩
theorem p_D_thrown : (parseMethodDescriptor y_D_thrown.desc).map (fun d => d.parameters.length) = some 0 := by decide +kernel
theorem w_D_timer : Cond.code y_D_timer c_D_timer 2 (some .boolean) ∈ qu_W ∧ Cond.initialized y_D_timer.cls ∈ qu_W := ⟨qm_816, qm_8⟩
theorem p_D_timer : (parseMethodDescriptor y_D_timer.desc).map (fun d => d.parameters.length) = some 1 := by decide +kernel
theorem w_D_isServer : Cond.code y_D_isServer c_D_isServer 1 (some .boolean) ∈ qu_W ∧ Cond.initialized y_D_isServer.cls ∈ qu_W := ⟨qm_819, qm_8⟩
theorem p_D_isServer : (parseMethodDescriptor y_D_isServer.desc).map (fun d => d.parameters.length) = some 1 := by decide +kernel
theorem w_D_isMine : Cond.code y_D_isMine c_D_isMine 2 (some .boolean) ∈ qu_W ∧ Cond.initialized y_D_isMine.cls ∈ qu_W := ⟨qm_823, qm_8⟩
theorem p_D_isMine : (parseMethodDescriptor y_D_isMine.desc).map (fun d => d.parameters.length) = some 1 := by decide +kernel
theorem w_D_config : Cond.code y_D_config c_D_config 2 (some .int) ∈ qu_W ∧ Cond.initialized y_D_config.cls ∈ qu_W := ⟨qm_827, qm_8⟩
theorem p_D_config : (parseMethodDescriptor y_D_config.desc).map (fun d => d.parameters.length) = some 1 := by decide +kernel
theorem w_D_last : Cond.code y_D_last c_D_last 2 (some .int) ∈ qu_W ∧ Cond.initialized y_D_last.cls ∈ qu_W := ⟨qm_831, qm_8⟩
theorem p_D_last : (parseMethodDescriptor y_D_last.desc).map (fun d => d.parameters.length) = some 1 := by decide +kernel
theorem w_D_membersAt : Cond.code y_D_membersAt c_D_membersAt 4 (some .int) ∈ qu_W ∧ Cond.initialized y_D_membersAt.cls ∈ qu_W := ⟨qm_835, qm_8⟩
theorem p_D_membersAt : (parseMethodDescriptor y_D_membersAt.desc).map (fun d => d.parameters.length) = some 2 := by decide +kernel
theorem w_D_latestMembers : Cond.code y_D_latestMembers c_D_latestMembers 5 (some .int) ∈ qu_W ∧ Cond.initialized y_D_latestMembers.cls ∈ qu_W := ⟨qm_839, qm_8⟩
theorem p_D_latestMembers : (parseMethodDescriptor y_D_latestMembers.desc).map (fun d => d.parameters.length) = some 2 := by decide +kernel
theorem w_D_cell : Cond.code y_D_cell c_D_cell 3 (some .int) ∈ qu_W ∧ Cond.initialized y_D_cell.cls ∈ qu_W := ⟨qm_843, qm_8⟩
theorem p_D_cell : (parseMethodDescriptor y_D_cell.desc).map (fun d => d.parameters.length) = some 2 := by decide +kernel
theorem w_D_askAll : Cond.code y_D_askAll c_D_askAll 6 none ∈ qu_W ∧ Cond.initialized y_D_askAll.cls ∈ qu_W := ⟨qm_847, qm_8⟩
theorem p_D_askAll : (parseMethodDescriptor y_D_askAll.desc).map (fun d => d.parameters.length) = some 3 := by decide +kernel
theorem w_D_begin : Cond.code y_D_begin c_D_begin 6 none ∈ qu_W ∧ Cond.initialized y_D_begin.cls ∈ qu_W := ⟨qm_851, qm_8⟩
theorem p_D_begin : (parseMethodDescriptor y_D_begin.desc).map (fun d => d.parameters.length) = some 4 := by decide +kernel
theorem w_D_lastTerm : Cond.code y_D_lastTerm c_D_lastTerm 2 (some .int) ∈ qu_W ∧ Cond.initialized y_D_lastTerm.cls ∈ qu_W := ⟨qm_855, qm_8⟩
theorem p_D_lastTerm : (parseMethodDescriptor y_D_lastTerm.desc).map (fun d => d.parameters.length) = some 1 := by decide +kernel
theorem w_D_termAt : Cond.code y_D_termAt c_D_termAt 4 (some .int) ∈ qu_W ∧ Cond.initialized y_D_termAt.cls ∈ qu_W := ⟨qm_859, qm_8⟩
theorem p_D_termAt : (parseMethodDescriptor y_D_termAt.desc).map (fun d => d.parameters.length) = some 2 := by decide +kernel
theorem w_D_post : Cond.code y_D_post c_D_post 2 none ∈ qu_W ∧ Cond.initialized y_D_post.cls ∈ qu_W := ⟨qm_863, qm_8⟩
theorem p_D_post : (parseMethodDescriptor y_D_post.desc).map (fun d => d.parameters.length) = some 0 := by decide +kernel
theorem w_D_weigh : Cond.code y_D_weigh c_D_weigh 2 none ∈ qu_W ∧ Cond.initialized y_D_weigh.cls ∈ qu_W := ⟨qm_867, qm_8⟩
theorem p_D_weigh : (parseMethodDescriptor y_D_weigh.desc).map (fun d => d.parameters.length) = some 1 := by decide +kernel
theorem w_D_most : Cond.code y_D_most c_D_most 4 (some .boolean) ∈ qu_W ∧ Cond.initialized y_D_most.cls ∈ qu_W := ⟨qm_871, qm_8⟩
theorem p_D_most : (parseMethodDescriptor y_D_most.desc).map (fun d => d.parameters.length) = some 2 := by decide +kernel
theorem w_D_count : Cond.code y_D_count c_D_count 3 (some .int) ∈ qu_W ∧ Cond.initialized y_D_count.cls ∈ qu_W := ⟨qm_874, qm_8⟩
theorem p_D_count : (parseMethodDescriptor y_D_count.desc).map (fun d => d.parameters.length) = some 1 := by decide +kernel
theorem w_D_lead : Cond.code y_D_lead c_D_lead 3 none ∈ qu_W ∧ Cond.initialized y_D_lead.cls ∈ qu_W := ⟨qm_878, qm_8⟩
theorem p_D_lead : (parseMethodDescriptor y_D_lead.desc).map (fun d => d.parameters.length) = some 1 := by decide +kernel
theorem w_D_append : Cond.code y_D_append c_D_append 6 (some .int) ∈ qu_W ∧ Cond.initialized y_D_append.cls ∈ qu_W := ⟨qm_882, qm_8⟩
theorem p_D_append : (parseMethodDescriptor y_D_append.desc).map (fun d => d.parameters.length) = some 4 := by decide +kernel
theorem w_D_push : Cond.code y_D_push c_D_push 7 none ∈ qu_W ∧ Cond.initialized y_D_push.cls ∈ qu_W := ⟨qm_886, qm_8⟩
theorem p_D_push : (parseMethodDescriptor y_D_push.desc).map (fun d => d.parameters.length) = some 5 := by decide +kernel
theorem w_D_lookAtCommit : Cond.code y_D_lookAtCommit c_D_lookAtCommit 4 none ∈ qu_W ∧ Cond.initialized y_D_lookAtCommit.cls ∈ qu_W := ⟨qm_890, qm_8⟩
theorem p_D_lookAtCommit : (parseMethodDescriptor y_D_lookAtCommit.desc).map (fun d => d.parameters.length) = some 1 := by decide +kernel
theorem w_D_having : Cond.code y_D_having c_D_having 5 (some .int) ∈ qu_W ∧ Cond.initialized y_D_having.cls ∈ qu_W := ⟨qm_894, qm_8⟩
theorem p_D_having : (parseMethodDescriptor y_D_having.desc).map (fun d => d.parameters.length) = some 2 := by decide +kernel
theorem w_D_follow : Cond.code y_D_follow c_D_follow 4 none ∈ qu_W ∧ Cond.initialized y_D_follow.cls ∈ qu_W := ⟨qm_898, qm_8⟩
theorem p_D_follow : (parseMethodDescriptor y_D_follow.desc).map (fun d => d.parameters.length) = some 1 := by decide +kernel
theorem w_D_sendAll : Cond.code y_D_sendAll c_D_sendAll 4 none ∈ qu_W ∧ Cond.initialized y_D_sendAll.cls ∈ qu_W := ⟨qm_902, qm_8⟩
theorem p_D_sendAll : (parseMethodDescriptor y_D_sendAll.desc).map (fun d => d.parameters.length) = some 1 := by decide +kernel
theorem w_D_sendTo : Cond.code y_D_sendTo c_D_sendTo 8 none ∈ qu_W ∧ Cond.initialized y_D_sendTo.cls ∈ qu_W := ⟨qm_906, qm_8⟩
theorem p_D_sendTo : (parseMethodDescriptor y_D_sendTo.desc).map (fun d => d.parameters.length) = some 2 := by decide +kernel
theorem w_D_beat : Cond.code y_D_beat c_D_beat 2 (some .boolean) ∈ qu_W ∧ Cond.initialized y_D_beat.cls ∈ qu_W := ⟨qm_910, qm_8⟩
theorem p_D_beat : (parseMethodDescriptor y_D_beat.desc).map (fun d => d.parameters.length) = some 1 := by decide +kernel
theorem w_D_leads : Cond.code y_D_leads c_D_leads 2 (some .boolean) ∈ qu_W ∧ Cond.initialized y_D_leads.cls ∈ qu_W := ⟨qm_914, qm_8⟩
theorem p_D_leads : (parseMethodDescriptor y_D_leads.desc).map (fun d => d.parameters.length) = some 1 := by decide +kernel
theorem w_D_put : Cond.code y_D_put c_D_put 4 (some .int) ∈ qu_W ∧ Cond.initialized y_D_put.cls ∈ qu_W := ⟨qm_918, qm_8⟩
theorem p_D_put : (parseMethodDescriptor y_D_put.desc).map (fun d => d.parameters.length) = some 3 := by decide +kernel
theorem w_D_isKey : Cond.code y_D_isKey c_D_isKey 1 (some .boolean) ∈ qu_W ∧ Cond.initialized y_D_isKey.cls ∈ qu_W := ⟨qm_921, qm_8⟩
theorem p_D_isKey : (parseMethodDescriptor y_D_isKey.desc).map (fun d => d.parameters.length) = some 1 := by decide +kernel
theorem w_D_fail : Cond.code y_D_fail c_D_fail 2 (some .int) ∈ qu_W ∧ Cond.initialized y_D_fail.cls ∈ qu_W := ⟨qm_925, qm_8⟩
theorem p_D_fail : (parseMethodDescriptor y_D_fail.desc).map (fun d => d.parameters.length) = some 1 := by decide +kernel
theorem w_D_change : Cond.code y_D_change c_D_change 6 (some .int) ∈ qu_W ∧ Cond.initialized y_D_change.cls ∈ qu_W := ⟨qm_929, qm_8⟩
theorem p_D_change : (parseMethodDescriptor y_D_change.desc).map (fun d => d.parameters.length) = some 3 := by decide +kernel
theorem w_D_isOld : Cond.code y_D_isOld c_D_isOld 2 (some .boolean) ∈ qu_W ∧ Cond.initialized y_D_isOld.cls ∈ qu_W := ⟨qm_933, qm_8⟩
theorem p_D_isOld : (parseMethodDescriptor y_D_isOld.desc).map (fun d => d.parameters.length) = some 1 := by decide +kernel
theorem w_D_read : Cond.code y_D_read c_D_read 5 (some .int) ∈ qu_W ∧ Cond.initialized y_D_read.cls ∈ qu_W := ⟨qm_937, qm_8⟩
theorem p_D_read : (parseMethodDescriptor y_D_read.desc).map (fun d => d.parameters.length) = some 2 := by decide +kernel
theorem w_D_lookAtReads : Cond.code y_D_lookAtReads c_D_lookAtReads 5 none ∈ qu_W ∧ Cond.initialized y_D_lookAtReads.cls ∈ qu_W := ⟨qm_941, qm_8⟩
theorem p_D_lookAtReads : (parseMethodDescriptor y_D_lookAtReads.desc).map (fun d => d.parameters.length) = some 1 := by decide +kernel
theorem w_D_valueAt : Cond.code y_D_valueAt c_D_valueAt 7 (some .int) ∈ qu_W ∧ Cond.initialized y_D_valueAt.cls ∈ qu_W := ⟨qm_945, qm_8⟩
theorem p_D_valueAt : (parseMethodDescriptor y_D_valueAt.desc).map (fun d => d.parameters.length) = some 3 := by decide +kernel
theorem w_D_outcome : Cond.code y_D_outcome c_D_outcome 2 (some .int) ∈ qu_W ∧ Cond.initialized y_D_outcome.cls ∈ qu_W := ⟨qm_949, qm_8⟩
theorem p_D_outcome : (parseMethodDescriptor y_D_outcome.desc).map (fun d => d.parameters.length) = some 1 := by decide +kernel
theorem w_D_value : Cond.code y_D_value c_D_value 2 (some .int) ∈ qu_W ∧ Cond.initialized y_D_value.cls ∈ qu_W := ⟨qm_953, qm_8⟩
theorem p_D_value : (parseMethodDescriptor y_D_value.desc).map (fun d => d.parameters.length) = some 1 := by decide +kernel
theorem w_D_compact : Cond.code y_D_compact c_D_compact 7 (some .boolean) ∈ qu_W ∧ Cond.initialized y_D_compact.cls ∈ qu_W := ⟨qm_957, qm_8⟩
theorem p_D_compact : (parseMethodDescriptor y_D_compact.desc).map (fun d => d.parameters.length) = some 1 := by decide +kernel
theorem w_D_shift : Cond.code y_D_shift c_D_shift 6 none ∈ qu_W ∧ Cond.initialized y_D_shift.cls ∈ qu_W := ⟨qm_961, qm_8⟩
theorem p_D_shift : (parseMethodDescriptor y_D_shift.desc).map (fun d => d.parameters.length) = some 2 := by decide +kernel
theorem w_D_crash : Cond.code y_D_crash c_D_crash 2 (some .boolean) ∈ qu_W ∧ Cond.initialized y_D_crash.cls ∈ qu_W := ⟨qm_965, qm_8⟩
theorem p_D_crash : (parseMethodDescriptor y_D_crash.desc).map (fun d => d.parameters.length) = some 1 := by decide +kernel
theorem w_D_restart : Cond.code y_D_restart c_D_restart 2 (some .boolean) ∈ qu_W ∧ Cond.initialized y_D_restart.cls ∈ qu_W := ⟨qm_969, qm_8⟩
theorem p_D_restart : (parseMethodDescriptor y_D_restart.desc).map (fun d => d.parameters.length) = some 1 := by decide +kernel
theorem w_D_deliver : Cond.code y_D_deliver c_D_deliver 4 (some .int) ∈ qu_W ∧ Cond.initialized y_D_deliver.cls ∈ qu_W := ⟨qm_973, qm_8⟩
theorem p_D_deliver : (parseMethodDescriptor y_D_deliver.desc).map (fun d => d.parameters.length) = some 1 := by decide +kernel
theorem w_D_takeOut : Cond.code y_D_takeOut c_D_takeOut 3 none ∈ qu_W ∧ Cond.initialized y_D_takeOut.cls ∈ qu_W := ⟨qm_977, qm_8⟩
theorem p_D_takeOut : (parseMethodDescriptor y_D_takeOut.desc).map (fun d => d.parameters.length) = some 1 := by decide +kernel
theorem w_D_newTerm : Cond.code y_D_newTerm c_D_newTerm 3 none ∈ qu_W ∧ Cond.initialized y_D_newTerm.cls ∈ qu_W := ⟨qm_981, qm_8⟩
theorem p_D_newTerm : (parseMethodDescriptor y_D_newTerm.desc).map (fun d => d.parameters.length) = some 2 := by decide +kernel
theorem w_D_question : Cond.code y_D_question c_D_question 5 none ∈ qu_W ∧ Cond.initialized y_D_question.cls ∈ qu_W := ⟨qm_985, qm_8⟩
theorem p_D_question : (parseMethodDescriptor y_D_question.desc).map (fun d => d.parameters.length) = some 3 := by decide +kernel
theorem w_D_liesBefore : Cond.code y_D_liesBefore c_D_liesBefore 4 (some .boolean) ∈ qu_W ∧ Cond.initialized y_D_liesBefore.cls ∈ qu_W := ⟨qm_989, qm_8⟩
theorem p_D_liesBefore : (parseMethodDescriptor y_D_liesBefore.desc).map (fun d => d.parameters.length) = some 3 := by decide +kernel
theorem w_D_reply : Cond.code y_D_reply c_D_reply 6 none ∈ qu_W ∧ Cond.initialized y_D_reply.cls ∈ qu_W := ⟨qm_993, qm_8⟩
theorem p_D_reply : (parseMethodDescriptor y_D_reply.desc).map (fun d => d.parameters.length) = some 5 := by decide +kernel
theorem w_D_answered : Cond.code y_D_answered c_D_answered 4 none ∈ qu_W ∧ Cond.initialized y_D_answered.cls ∈ qu_W := ⟨qm_997, qm_8⟩
theorem p_D_answered : (parseMethodDescriptor y_D_answered.desc).map (fun d => d.parameters.length) = some 3 := by decide +kernel
theorem w_D_called : Cond.code y_D_called c_D_called 5 none ∈ qu_W ∧ Cond.initialized y_D_called.cls ∈ qu_W := ⟨qm_1001, qm_8⟩
theorem p_D_called : (parseMethodDescriptor y_D_called.desc).map (fun d => d.parameters.length) = some 3 := by decide +kernel
theorem w_D_voted : Cond.code y_D_voted c_D_voted 4 none ∈ qu_W ∧ Cond.initialized y_D_voted.cls ∈ qu_W := ⟨qm_1005, qm_8⟩
theorem p_D_voted : (parseMethodDescriptor y_D_voted.desc).map (fun d => d.parameters.length) = some 3 := by decide +kernel
theorem w_D_appended : Cond.code y_D_appended c_D_appended 7 none ∈ qu_W ∧ Cond.initialized y_D_appended.cls ∈ qu_W := ⟨qm_1009, qm_8⟩
theorem p_D_appended : (parseMethodDescriptor y_D_appended.desc).map (fun d => d.parameters.length) = some 2 := by decide +kernel
theorem w_D_result : Cond.code y_D_result c_D_result 6 none ∈ qu_W ∧ Cond.initialized y_D_result.cls ∈ qu_W := ⟨qm_1013, qm_8⟩
theorem p_D_result : (parseMethodDescriptor y_D_result.desc).map (fun d => d.parameters.length) = some 5 := by decide +kernel
theorem w_D_takeEntry : Cond.code y_D_takeEntry c_D_takeEntry 4 (some .boolean) ∈ qu_W ∧ Cond.initialized y_D_takeEntry.cls ∈ qu_W := ⟨qm_1017, qm_8⟩
theorem p_D_takeEntry : (parseMethodDescriptor y_D_takeEntry.desc).map (fun d => d.parameters.length) = some 3 := by decide +kernel
theorem w_D_resulted : Cond.code y_D_resulted c_D_resulted 7 none ∈ qu_W ∧ Cond.initialized y_D_resulted.cls ∈ qu_W := ⟨qm_1021, qm_8⟩
theorem p_D_resulted : (parseMethodDescriptor y_D_resulted.desc).map (fun d => d.parameters.length) = some 2 := by decide +kernel
theorem w_D_installed : Cond.code y_D_installed c_D_installed 5 none ∈ qu_W ∧ Cond.initialized y_D_installed.cls ∈ qu_W := ⟨qm_1025, qm_8⟩
theorem p_D_installed : (parseMethodDescriptor y_D_installed.desc).map (fun d => d.parameters.length) = some 2 := by decide +kernel
theorem w_D_lose : Cond.code y_D_lose c_D_lose 2 (some .boolean) ∈ qu_W ∧ Cond.initialized y_D_lose.cls ∈ qu_W := ⟨qm_1029, qm_8⟩
theorem p_D_lose : (parseMethodDescriptor y_D_lose.desc).map (fun d => d.parameters.length) = some 1 := by decide +kernel
theorem w_D_waiting : Cond.code y_D_waiting c_D_waiting 1 (some .int) ∈ qu_W ∧ Cond.initialized y_D_waiting.cls ∈ qu_W := ⟨qm_1033, qm_8⟩
theorem p_D_waiting : (parseMethodDescriptor y_D_waiting.desc).map (fun d => d.parameters.length) = some 0 := by decide +kernel
theorem w_D_message : Cond.code y_D_message c_D_message 4 (some .int) ∈ qu_W ∧ Cond.initialized y_D_message.cls ∈ qu_W := ⟨qm_1037, qm_8⟩
theorem p_D_message : (parseMethodDescriptor y_D_message.desc).map (fun d => d.parameters.length) = some 2 := by decide +kernel
theorem w_D_state : Cond.code y_D_state c_D_state 3 (some .int) ∈ qu_W ∧ Cond.initialized y_D_state.cls ∈ qu_W := ⟨qm_1041, qm_8⟩
theorem p_D_state : (parseMethodDescriptor y_D_state.desc).map (fun d => d.parameters.length) = some 2 := by decide +kernel
theorem w_D_entry : Cond.code y_D_entry c_D_entry 5 (some .int) ∈ qu_W ∧ Cond.initialized y_D_entry.cls ∈ qu_W := ⟨qm_1045, qm_8⟩
theorem p_D_entry : (parseMethodDescriptor y_D_entry.desc).map (fun d => d.parameters.length) = some 3 := by decide +kernel
theorem w_D_stored : Cond.code y_D_stored c_D_stored 3 (some .int) ∈ qu_W ∧ Cond.initialized y_D_stored.cls ∈ qu_W := ⟨qm_1049, qm_8⟩
theorem p_D_stored : (parseMethodDescriptor y_D_stored.desc).map (fun d => d.parameters.length) = some 2 := by decide +kernel
theorem w_I_bitCount : Cond.code y_I_bitCount c_I_bitCount 1 (some .int) ∈ qu_W ∧ Cond.initialized y_I_bitCount.cls ∈ qu_W := ⟨qm_314, qm_9⟩
theorem p_I_bitCount : (parseMethodDescriptor y_I_bitCount.desc).map (fun d => d.parameters.length) = some 1 := by decide +kernel
theorem w_H_min : Cond.code y_H_min c_H_min 2 (some .int) ∈ qu_W ∧ Cond.initialized y_H_min.cls ∈ qu_W := ⟨qm_496, qm_17⟩
theorem p_H_min : (parseMethodDescriptor y_H_min.desc).map (fun d => d.parameters.length) = some 2 := by decide +kernel
theorem w_H_max : Cond.code y_H_max c_H_max 2 (some .int) ∈ qu_W ∧ Cond.initialized y_H_max.cls ∈ qu_W := ⟨qm_499, qm_17⟩
theorem p_H_max : (parseMethodDescriptor y_H_max.desc).map (fun d => d.parameters.length) = some 2 := by decide +kernel
end
section
/-! the heap as a function of the address: what a method does is said of the whole heap -/
abbrev qh_H : Type := Nat → Option va_E
abbrev qh_G : Type := va_G × (Nat → ClassId)
def qh_R (G : qh_G) (b : Nat) (h : qh_H) (H : Heap) : Prop := b ≤ H.size ∧ ∀ (a : Nat) (x : va_E), h a = some x → b ≤ a ∧ va_at G.1 qu_Cl (a, x) H
def qh_L (ls : Array Slot) (lo : List (Option Value)) : Prop := ls.size = lo.length ∧ lv_wf ls ∧ ∀ (i : Nat) (v : Value), lo[i]? = some (some v) → ls[i]? = some (.val v) ∧ v.category = 1
def qw_K (G : qh_G) (U : State) : Prop := va_K G.1 qu_Cl (qu_Ty G.2) U ∧ (∀ w ∈ qu_Mn, ∃ (a : String) (i : Nat) (x : MethodName) (h : String), w = .methodLinkNest a i x h ∧ va_Nw w U) ∧ ∀ C ∈ qu_Ao, va_AO C U
theorem qw_K.warm {G : qh_G} {s U : State} (hW : s.WarmedH U.vm) (h : qw_K G s) : qw_K G U :=
  ⟨h.1.moved hW.alike, fun w hw => by
    obtain ⟨a, i, x, g, rfl, hz⟩ := h.2.1 w hw
    exact ⟨a, i, x, g, rfl, va_Nw.warmM hW hz⟩, fun C hC => va_AO.moved hW.alike (h.2.2 C hC)⟩
theorem qw_K.same {G : qh_G} {s U : State} (hv : s.vm = U.vm) (h : qw_K G s) : qw_K G U :=
  ⟨h.1.moved (by rw [hv]; exact Vm.Alike.refl _), fun w hw => by
    obtain ⟨a, i, x, g, rfl, hz⟩ := h.2.1 w hw
    exact ⟨a, i, x, g, rfl, va_Nw.same rfl hv hz⟩, fun C hC => va_AO.moved (by rw [hv]; exact Vm.Alike.refl _) (h.2.2 C hC)⟩
theorem qh_R.up {G : qh_G} {b : Nat} {h : qh_H} {H H' : Heap} {a : Nat} {x : va_E} (hR : qh_R G b h H) (ha : b ≤ a) (hsz : H.size ≤ H'.size) (he : va_at G.1 qu_Cl (a, x) H') (oq : ∀ q : Nat, q ≠ a → q < H.size → H'[q]? = H[q]?) : qh_R G b (va_up h a (some x)) H' := by
  refine ⟨Nat.le_trans hR.1 hsz, fun y e hy => ?_⟩
  unfold va_up at hy
  by_cases hya : y = a
  · rw [if_pos hya] at hy
    cases hy
    subst hya
    exact ⟨ha, he⟩
  · rw [if_neg hya] at hy
    obtain ⟨h1, h2⟩ := hR.2 y e hy
    exact ⟨h1, h2.kept (oq y hya h2.lt)⟩
theorem qh_R.fresh {G : qh_G} {b : Nat} {h : qh_H} {H : Heap} (hR : qh_R G b h H) : h H.size = none := by
  cases hx : h H.size with
  | none => rfl
  | some x => exact absurd (hR.2 _ x hx).2.lt (Nat.lt_irrefl _)
/-! locals -/
def qh_al (lo : List (Option Value)) : List (Nat × Value) := (List.range lo.length).filterMap (fun i => (lo[i]?).join.map (fun v => (i, v)))
theorem qh_al_mem {lo : List (Option Value)} {i : Nat} {v : Value} (h : lo[i]? = some (some v)) : (i, v) ∈ qh_al lo :=
  List.mem_filterMap.mpr ⟨i, List.mem_range.mpr (List.getElem?_eq_some_iff.mp h).1, by rw [h]; rfl⟩
theorem qh_al_of {lo : List (Option Value)} {i : Nat} {v : Value} (h : (i, v) ∈ qh_al lo) : lo[i]? = some (some v) := by
  obtain ⟨j, -, hj⟩ := List.mem_filterMap.mp h
  cases hl : lo[j]? with
  | none => rw [hl] at hj; cases hj
  | some x =>
    rw [hl] at hj
    cases x with
    | none => cases hj
    | some y => cases hj; exact hl
theorem qh_L.has {ls : Array Slot} {lo : List (Option Value)} (h : qh_L ls lo) : lv_has ls lo.length (qh_al lo) :=
  ⟨h.1, h.2.1, fun q hq => (h.2.2 q.1 q.2 (qh_al_of hq)).1⟩
theorem qh_L.set {ls ls' : Array Slot} {lo : List (Option Value)} {i : Nat} {v : Value} (h : qh_L ls lo) (hi : i < lo.length) (hc : v.category = 1)
    (h' : lv_has ls' lo.length ((i, v) :: (qh_al lo).filter (fun q => !(q.1 == i) && !(q.1 + 1 == i && q.2.category == 2)))) : qh_L ls' (lo.set i (some v)) := by
  refine ⟨by rw [List.length_set]; exact h'.1, h'.2.1, fun j w hj => ?_⟩
  by_cases hji : j = i
  · subst hji
    rw [List.getElem?_set_self hi] at hj
    cases hj
    exact ⟨h'.2.2 (j, v) List.mem_cons_self, hc⟩
  · rw [List.getElem?_set_ne (Ne.symm hji)] at hj
    have hw := (h.2.2 j w hj).2
    refine ⟨h'.2.2 (j, w) (List.mem_cons_of_mem _ (List.mem_filter.mpr ⟨qh_al_mem hj, ?_⟩)), hw⟩
    simp [hji, hw]
/-! a method's end, its contract, the walk -/
def qx_Q (G : qh_G) (b : Nat) (post : Outcome → qh_H → Prop) (below : List Frame) (s : State) (mc ms : Nat) : State → Prop := fun t =>
  ∃ (o : Outcome) (h' : qh_H) (L : List Loc), t.status = .running ∧ Ended t below o ∧ post o h' ∧ qh_R G b h' t.heap ∧ s.WarmedH t.vm ∧ (s.heap.size ≤ t.heap.size ∧ ∀ q : Nat, q < b → t.heap[q]? = s.heap[q]?) ∧ s.sameButNew ({ t with vm := s.vm } : State) L mc ms ∧ ∀ q ∈ L, b ≤ q.base
def qx_M (l : Launch) (y : MethodName) (ws : List Cond) (rm : Room) (G : qh_G) (b : Nat) (av : List Value) (h : qh_H) (post : Outcome → qh_H → Prop) : Prop :=
  MetFree l y (headSpec ws rm) (fun v U => v = av.toArray ∧ qh_R G b h U.heap ∧ qw_K G U) (fun _ _ _ _ _ => True)
    (fun _ st o t => ∃ (h' : qh_H) (L : List Loc), post o h' ∧ qh_R G b h' t.heap ∧ st.WarmedH t.vm ∧ (st.heap.size ≤ t.heap.size ∧ ∀ q : Nat, q < b → t.heap[q]? = st.heap[q]?) ∧ st.sameButNew ({ t with vm := st.vm } : State) L rm.cells rm.slots ∧ ∀ q ∈ L, b ≤ q.base)
abbrev qw_T : Type := Nat → List (Option Value) → List Value → qh_H → Nat → Nat → Prop
def qw_J (p : Program) (l : Launch) (e : Env) (R : Room) (s : State) (m : MethodId) (args : Array Value) (below : List Frame) (meth : Method) (c : Code) (Q : State → Prop) (G : qh_G) (b : Nat) : qw_T := fun pc lo st h k n =>
  ∀ (H : Heap) (locs : List Loc) (ls : Array Slot), qh_R G b h H → va_S (fun q => b ≤ q) s.heap H locs → qh_L ls lo → W p l e R s m args below meth c H locs k n Q (F0 m pc ls st)
def qw_C (l : Launch) (G : qh_G) (b : Nat) (own nm : String) (cc : ByteArray) (nL : Nat) (ret : Option FieldType) (tb : List (Nat × Nat × Nat × Nat)) (R : Room) (post : Outcome → qh_H → Prop) (X : qw_T) : Prop :=
  ∃ (p : Program) (e : Env) (s : State) (m : MethodId) (args : Array Value) (below : List Frame) (meth : Method) (c : Code),
    X = qw_J p l e R s m args below meth c (qx_Q G b post below s R.cells R.slots) G b ∧ p.tables.exec = Jvm.exec ∧ c.code = cc ∧ c.maxLocals = nL ∧ c.exceptionTable.toList.map (fun h => (h.startPc, h.endPc, h.handlerPc, h.catchType)) = tb ∧ s.vm.findClass own = some m.cls ∧ (∀ w ∈ qu_W, w.before args s = true) ∧ qw_K G s ∧ meth.locks = false ∧ meth.sig.returnType = ret ∧ meth.name = nm ∧ b ≤ s.heap.size
theorem qx_sl : ∀ av : List Value, av.all (fun v => v.category == 1) = true → lg_sl av = av.map Slot.val
  | [], _ => rfl
  | v :: vs, hav => by
    simp only [List.all_cons, Bool.and_eq_true, beq_iff_eq] at hav
    have ih := qx_sl vs hav.2
    unfold lg_sl at ih ⊢
    rw [List.flatMap_cons, ih, if_neg (by rw [hav.1]; decide)]
    rfl
theorem qx_of {l : Launch} {y : MethodName} {ws' : List Cond} {rm : Room} {G : qh_G} {b : Nat} {av : List Value} {h : qh_H} {post : Outcome → qh_H → Prop} {cc : ByteArray} {nL : Nat} {ret : Option FieldType} {lo : List (Option Value)}
    (hy : plainName y.cls = true) (hw : ∀ w ∈ qu_W, w ∈ Cond.code y cc nL ret :: ws') (hav : av.all (fun v => v.category == 1) = true) (hn : av.length ≤ nL) (hlo : lo = av.map some ++ List.replicate (nL - av.length) none)
    (body : ∀ X : qw_T, qw_C l G b y.cls y.name cc nL ret [] rm post X → X 0 lo [] h 0 0) : qx_M l y (Cond.code y cc nL ret :: ws') rm G b av h post := by
  refine MetFree.of_bodyS (code := cc) (maxLocals := nL) (ret := ret) hy ?_ ?_
  · intro args s m hp hnm
    obtain ⟨meth, c, h1, h2, h3, h4, h5, h6, -, -⟩ := Cond.code_spec hnm (atoms_spec (ws := Cond.code y cc nL ret :: ws') hp _ List.mem_cons_self)
    exact ⟨meth, c, h1, h2, h3, h4, h5, h6⟩
  · intro p e s m args below meth c s₁ B hml hP _
    obtain ⟨rfl, hR, hK⟩ := hP
    have hts := atoms_spec (ws := Cond.code y cc nL ret :: ws') B.pre
    have hown : s.vm.findClass y.cls = some m.cls := findClass_of_methodNamed B.named
    have hnm : meth.name = y.name := (name_of_methodNamed B.named B.method).1
    have htb : c.exceptionTable.toList.map (fun h => (h.startPc, h.endPc, h.handlerPc, h.catchType)) = [] := by
      have h9 := B.noHandlers (hts _ List.mem_cons_self)
      rw [Array.isEmpty_iff] at h9
      rw [h9]; rfl
    have hh0 : s₁.heap = s.heap := by rw [B.state]; rfl
    have hsl : lg_sl av = av.map Slot.val := qx_sl av hav
    have hlen : (lg_sl av).length = av.length := by rw [hsl, List.length_map]
    have hl := lv_entry av (n := nL) (by rw [hlen]; exact hn)
    have hE := lg_entry_eq m av nL
    have hL : qh_L ((lg_sl av ++ List.replicate (nL - (lg_sl av).length) Slot.unset).toArray) lo := by
      refine ⟨?_, hl.2.1, fun i v hi => ?_⟩
      · rw [hl.1, hlo, List.length_append, List.length_map, List.length_replicate]; omega
      · rw [hlo] at hi
        by_cases hia : i < av.length
        · rw [List.getElem?_append_left (by rw [List.length_map]; exact hia), List.getElem?_map] at hi
          have hav2 : av[i]? = some v := by
            cases hx : av[i]? with
            | none => rw [hx] at hi; cases hi
            | some z => rw [hx] at hi; cases hi; rfl
          refine ⟨?_, ?_⟩
          · rw [List.getElem?_toArray, hsl, List.getElem?_append_left (by rw [List.length_map]; exact hia), List.getElem?_map, hav2]; rfl
          · have := List.all_eq_true.mp hav v (List.mem_of_getElem? hav2)
            simpa using this
        · rw [List.getElem?_append_right (by rw [List.length_map]; omega), List.getElem?_replicate] at hi
          split at hi <;> cases hi
    have hX := body _ ⟨p, e, s, m, av.toArray, below, meth, c, rfl, B.exec, B.bytes, hml, htb, hown, fun w hw' => hts w (hw w hw'), hK, B.notSynchronized, B.returns, hnm, hR.1⟩
    have hW := hX s.heap [] _ hR va_S.rf hL
    rw [← hE] at hW
    obtain ⟨t, a1, o, h', L, b1, b2, b3, b4, b5, b6, b7, b8⟩ := hW s₁ hh0 (Stand.of_body B)
    exact ⟨t, o, a1, b1, b2, h', L, b3, b4, b5, b6, b7, b8⟩

section QXR
variable {l : Launch} {G : qh_G} {b : Nat} {own nm : String} {cc : ByteArray} {nL : Nat} {ret : Option FieldType} {tb : List (Nat × Nat × Nat × Nat)} {R : Room} {post : Outcome → qh_H → Prop} {X : qw_T} {pc : Nat} {lo : List (Option Value)} {st : List Value} {h : qh_H} {k n : Nat}
theorem qx_iconst (C : qw_C l G b own nm cc nL ret tb R post X) {i : Int} {v : Int32} (hd : decode cc pc = .ok (.iconst i, 1)) (hv : Int32.ofInt i = v) (kk : X (pc + 1) lo (.int v :: st) h k n) : X pc lo st h k n := by
  obtain ⟨p, e, s, m, args, below, meth, c, rfl, hx, hb, hml, htb, hown, hts, hK, hlk, hr, hnm, hbs⟩ := C
  intro H locs ls hR hS hL
  exact lv_iconst hx hb hd hv (kk H locs ls hR hS hL)
theorem qx_bipush (C : qw_C l G b own nm cc nL ret tb R post X) {i : Int} {v : Int32} (hd : decode cc pc = .ok (.bipush i, 2)) (hv : (Int8.ofInt i).toInt32 = v) (kk : X (pc + 2) lo (.int v :: st) h k n) : X pc lo st h k n := by
  obtain ⟨p, e, s, m, args, below, meth, c, rfl, hx, hb, hml, htb, hown, hts, hK, hlk, hr, hnm, hbs⟩ := C
  intro H locs ls hR hS hL
  exact lv_bipush hx hb hd hv (kk H locs ls hR hS hL)
theorem qx_sipush (C : qw_C l G b own nm cc nL ret tb R post X) {i : Int} {v : Int32} (hd : decode cc pc = .ok (.sipush i, 3)) (hv : (Int16.ofInt i).toInt32 = v) (kk : X (pc + 3) lo (.int v :: st) h k n) : X pc lo st h k n := by
  obtain ⟨p, e, s, m, args, below, meth, c, rfl, hx, hb, hml, htb, hown, hts, hK, hlk, hr, hnm, hbs⟩ := C
  intro H locs ls hR hS hL
  exact lv_sipush hx hb hd hv (kk H locs ls hR hS hL)
theorem qx_null (C : qw_C l G b own nm cc nL ret tb R post X) (hd : decode cc pc = .ok (.aconst_null, 1)) (kk : X (pc + 1) lo (.null :: st) h k n) : X pc lo st h k n := by
  obtain ⟨p, e, s, m, args, below, meth, c, rfl, hx, hb, hml, htb, hown, hts, hK, hlk, hr, hnm, hbs⟩ := C
  intro H locs ls hR hS hL
  exact lv_null hx hb hd (kk H locs ls hR hS hL)
theorem qx_iload_n (C : qw_C l G b own nm cc nL ret tb R post X) {f : Fin 4} {i : Nat} {x : Int32} (hd : decode cc pc = .ok (.iload_n f, 1)) (hi : (f : Nat) = i) (hl : lo[i]? = some (some (.int x))) (kk : X (pc + 1) lo (.int x :: st) h k n) : X pc lo st h k n := by
  obtain ⟨p, e, s, m, args, below, meth, c, rfl, hx, hb, hml, htb, hown, hts, hK, hlk, hr, hnm, hbs⟩ := C
  intro H locs ls hR hS hL
  exact lv_iload_n hx hb hd hi (hL.2.2 _ _ hl).1 (kk H locs ls hR hS hL)
theorem qx_iload (C : qw_C l G b own nm cc nL ret tb R post X) {i : Nat} {x : Int32} (hd : decode cc pc = .ok (.iload i, 2)) (hl : lo[i]? = some (some (.int x))) (kk : X (pc + 2) lo (.int x :: st) h k n) : X pc lo st h k n := by
  obtain ⟨p, e, s, m, args, below, meth, c, rfl, hx, hb, hml, htb, hown, hts, hK, hlk, hr, hnm, hbs⟩ := C
  intro H locs ls hR hS hL
  exact lv_iload hx hb hd (hL.2.2 _ _ hl).1 (kk H locs ls hR hS hL)
theorem qx_aload_n (C : qw_C l G b own nm cc nL ret tb R post X) {f : Fin 4} {i : Nat} {x : Nat} (hd : decode cc pc = .ok (.aload_n f, 1)) (hi : (f : Nat) = i) (hl : lo[i]? = some (some (.ref x))) (kk : X (pc + 1) lo (.ref x :: st) h k n) : X pc lo st h k n := by
  obtain ⟨p, e, s, m, args, below, meth, c, rfl, hx, hb, hml, htb, hown, hts, hK, hlk, hr, hnm, hbs⟩ := C
  intro H locs ls hR hS hL
  exact lv_aload_n hx hb hd hi (hL.2.2 _ _ hl).1 (kk H locs ls hR hS hL)
theorem qx_aload (C : qw_C l G b own nm cc nL ret tb R post X) {i : Nat} {x : Nat} (hd : decode cc pc = .ok (.aload i, 2)) (hl : lo[i]? = some (some (.ref x))) (kk : X (pc + 2) lo (.ref x :: st) h k n) : X pc lo st h k n := by
  obtain ⟨p, e, s, m, args, below, meth, c, rfl, hx, hb, hml, htb, hown, hts, hK, hlk, hr, hnm, hbs⟩ := C
  intro H locs ls hR hS hL
  exact lv_aload hx hb hd (hL.2.2 _ _ hl).1 (kk H locs ls hR hS hL)
theorem qx_aload_nN (C : qw_C l G b own nm cc nL ret tb R post X) {f : Fin 4} {i : Nat} (hd : decode cc pc = .ok (.aload_n f, 1)) (hi : (f : Nat) = i) (hl : lo[i]? = some (some .null)) (kk : X (pc + 1) lo (.null :: st) h k n) : X pc lo st h k n := by
  obtain ⟨p, e, s, m, args, below, meth, c, rfl, hx, hb, hml, htb, hown, hts, hK, hlk, hr, hnm, hbs⟩ := C
  intro H locs ls hR hS hL
  exact lv_aload_nN hx hb hd hi (hL.2.2 _ _ hl).1 (kk H locs ls hR hS hL)
theorem qx_aloadN (C : qw_C l G b own nm cc nL ret tb R post X) {i : Nat} (hd : decode cc pc = .ok (.aload i, 2)) (hl : lo[i]? = some (some .null)) (kk : X (pc + 2) lo (.null :: st) h k n) : X pc lo st h k n := by
  obtain ⟨p, e, s, m, args, below, meth, c, rfl, hx, hb, hml, htb, hown, hts, hK, hlk, hr, hnm, hbs⟩ := C
  intro H locs ls hR hS hL
  exact lv_aloadN hx hb hd (hL.2.2 _ _ hl).1 (kk H locs ls hR hS hL)
theorem qx_istore_n (C : qw_C l G b own nm cc nL ret tb R post X) {f : Fin 4} {i : Nat} {x : Int32} (hd : decode cc pc = .ok (.istore_n f, 1)) (hi : (f : Nat) = i) (hn : i < lo.length) (kk : X (pc + 1) (lo.set i (some (.int x))) st h k n) : X pc lo (.int x :: st) h k n := by
  obtain ⟨p, e, s, m, args, below, meth, c, rfl, hx, hb, hml, htb, hown, hts, hK, hlk, hr, hnm, hbs⟩ := C
  intro H locs ls hR hS hL
  exact lv_istore_n hx hb hd hi hL.has hn rfl (fun ls2 h2 => kk H locs ls2 hR hS (hL.set hn rfl h2))
theorem qx_istore (C : qw_C l G b own nm cc nL ret tb R post X) {i : Nat} {x : Int32} (hd : decode cc pc = .ok (.istore i, 2)) (hn : i < lo.length) (kk : X (pc + 2) (lo.set i (some (.int x))) st h k n) : X pc lo (.int x :: st) h k n := by
  obtain ⟨p, e, s, m, args, below, meth, c, rfl, hx, hb, hml, htb, hown, hts, hK, hlk, hr, hnm, hbs⟩ := C
  intro H locs ls hR hS hL
  exact lv_istore hx hb hd hL.has hn rfl (fun ls2 h2 => kk H locs ls2 hR hS (hL.set hn rfl h2))
theorem qx_astore_n (C : qw_C l G b own nm cc nL ret tb R post X) {f : Fin 4} {i : Nat} {x : Nat} (hd : decode cc pc = .ok (.astore_n f, 1)) (hi : (f : Nat) = i) (hn : i < lo.length) (kk : X (pc + 1) (lo.set i (some (.ref x))) st h k n) : X pc lo (.ref x :: st) h k n := by
  obtain ⟨p, e, s, m, args, below, meth, c, rfl, hx, hb, hml, htb, hown, hts, hK, hlk, hr, hnm, hbs⟩ := C
  intro H locs ls hR hS hL
  exact lv_astore_n hx hb hd hi hL.has hn rfl (fun ls2 h2 => kk H locs ls2 hR hS (hL.set hn rfl h2))
theorem qx_astore (C : qw_C l G b own nm cc nL ret tb R post X) {i : Nat} {x : Nat} (hd : decode cc pc = .ok (.astore i, 2)) (hn : i < lo.length) (kk : X (pc + 2) (lo.set i (some (.ref x))) st h k n) : X pc lo (.ref x :: st) h k n := by
  obtain ⟨p, e, s, m, args, below, meth, c, rfl, hx, hb, hml, htb, hown, hts, hK, hlk, hr, hnm, hbs⟩ := C
  intro H locs ls hR hS hL
  exact lv_astore hx hb hd hL.has hn rfl (fun ls2 h2 => kk H locs ls2 hR hS (hL.set hn rfl h2))
theorem qx_astore_nN (C : qw_C l G b own nm cc nL ret tb R post X) {f : Fin 4} {i : Nat} (hd : decode cc pc = .ok (.astore_n f, 1)) (hi : (f : Nat) = i) (hn : i < lo.length) (kk : X (pc + 1) (lo.set i (some (.null))) st h k n) : X pc lo (.null :: st) h k n := by
  obtain ⟨p, e, s, m, args, below, meth, c, rfl, hx, hb, hml, htb, hown, hts, hK, hlk, hr, hnm, hbs⟩ := C
  intro H locs ls hR hS hL
  exact lv_astore_nN hx hb hd hi hL.has hn rfl (fun ls2 h2 => kk H locs ls2 hR hS (hL.set hn rfl h2))
theorem qx_astoreN (C : qw_C l G b own nm cc nL ret tb R post X) {i : Nat} (hd : decode cc pc = .ok (.astore i, 2)) (hn : i < lo.length) (kk : X (pc + 2) (lo.set i (some (.null))) st h k n) : X pc lo (.null :: st) h k n := by
  obtain ⟨p, e, s, m, args, below, meth, c, rfl, hx, hb, hml, htb, hown, hts, hK, hlk, hr, hnm, hbs⟩ := C
  intro H locs ls hR hS hL
  exact lv_astoreN hx hb hd hL.has hn rfl (fun ls2 h2 => kk H locs ls2 hR hS (hL.set hn rfl h2))
theorem qx_iadd (C : qw_C l G b own nm cc nL ret tb R post X) {x y : Int32} (hd : decode cc pc = .ok (.iadd, 1)) (kk : X (pc + 1) lo (.int (x + y) :: st) h k n) : X pc lo (.int y :: .int x :: st) h k n := by
  obtain ⟨p, e, s, m, args, below, meth, c, rfl, hx, hb, hml, htb, hown, hts, hK, hlk, hr, hnm, hbs⟩ := C
  intro H locs ls hR hS hL
  exact lv_iadd hx hb hd (kk H locs ls hR hS hL)
theorem qx_isub (C : qw_C l G b own nm cc nL ret tb R post X) {x y : Int32} (hd : decode cc pc = .ok (.isub, 1)) (kk : X (pc + 1) lo (.int (x - y) :: st) h k n) : X pc lo (.int y :: .int x :: st) h k n := by
  obtain ⟨p, e, s, m, args, below, meth, c, rfl, hx, hb, hml, htb, hown, hts, hK, hlk, hr, hnm, hbs⟩ := C
  intro H locs ls hR hS hL
  exact lv_isub hx hb hd (kk H locs ls hR hS hL)
theorem qx_imul (C : qw_C l G b own nm cc nL ret tb R post X) {x y : Int32} (hd : decode cc pc = .ok (.imul, 1)) (kk : X (pc + 1) lo (.int (x * y) :: st) h k n) : X pc lo (.int y :: .int x :: st) h k n := by
  obtain ⟨p, e, s, m, args, below, meth, c, rfl, hx, hb, hml, htb, hown, hts, hK, hlk, hr, hnm, hbs⟩ := C
  intro H locs ls hR hS hL
  exact lv_imul hx hb hd (kk H locs ls hR hS hL)
theorem qx_iand (C : qw_C l G b own nm cc nL ret tb R post X) {x y : Int32} (hd : decode cc pc = .ok (.iand, 1)) (kk : X (pc + 1) lo (.int (x &&& y) :: st) h k n) : X pc lo (.int y :: .int x :: st) h k n := by
  obtain ⟨p, e, s, m, args, below, meth, c, rfl, hx, hb, hml, htb, hown, hts, hK, hlk, hr, hnm, hbs⟩ := C
  intro H locs ls hR hS hL
  exact lv_iand hx hb hd (kk H locs ls hR hS hL)
theorem qx_ior (C : qw_C l G b own nm cc nL ret tb R post X) {x y : Int32} (hd : decode cc pc = .ok (.ior, 1)) (kk : X (pc + 1) lo (.int (x ||| y) :: st) h k n) : X pc lo (.int y :: .int x :: st) h k n := by
  obtain ⟨p, e, s, m, args, below, meth, c, rfl, hx, hb, hml, htb, hown, hts, hK, hlk, hr, hnm, hbs⟩ := C
  intro H locs ls hR hS hL
  exact lv_ior hx hb hd (kk H locs ls hR hS hL)
theorem qx_ixor (C : qw_C l G b own nm cc nL ret tb R post X) {x y : Int32} (hd : decode cc pc = .ok (.ixor, 1)) (kk : X (pc + 1) lo (.int (x ^^^ y) :: st) h k n) : X pc lo (.int y :: .int x :: st) h k n := by
  obtain ⟨p, e, s, m, args, below, meth, c, rfl, hx, hb, hml, htb, hown, hts, hK, hlk, hr, hnm, hbs⟩ := C
  intro H locs ls hR hS hL
  exact lv_ixor hx hb hd (kk H locs ls hR hS hL)
theorem qx_ishl (C : qw_C l G b own nm cc nL ret tb R post X) {x y : Int32} (hd : decode cc pc = .ok (.ishl, 1)) (kk : X (pc + 1) lo (.int (x <<< (y &&& 31)) :: st) h k n) : X pc lo (.int y :: .int x :: st) h k n := by
  obtain ⟨p, e, s, m, args, below, meth, c, rfl, hx, hb, hml, htb, hown, hts, hK, hlk, hr, hnm, hbs⟩ := C
  intro H locs ls hR hS hL
  exact lv_ishl hx hb hd (kk H locs ls hR hS hL)
theorem qx_ishr (C : qw_C l G b own nm cc nL ret tb R post X) {x y : Int32} (hd : decode cc pc = .ok (.ishr, 1)) (kk : X (pc + 1) lo (.int (x >>> (y &&& 31)) :: st) h k n) : X pc lo (.int y :: .int x :: st) h k n := by
  obtain ⟨p, e, s, m, args, below, meth, c, rfl, hx, hb, hml, htb, hown, hts, hK, hlk, hr, hnm, hbs⟩ := C
  intro H locs ls hR hS hL
  exact lv_ishr hx hb hd (kk H locs ls hR hS hL)
theorem qx_ineg (C : qw_C l G b own nm cc nL ret tb R post X) {x : Int32} (hd : decode cc pc = .ok (.ineg, 1)) (kk : X (pc + 1) lo (.int (-x) :: st) h k n) : X pc lo (.int x :: st) h k n := by
  obtain ⟨p, e, s, m, args, below, meth, c, rfl, hx, hb, hml, htb, hown, hts, hK, hlk, hr, hnm, hbs⟩ := C
  intro H locs ls hR hS hL
  exact lv_ineg hx hb hd (kk H locs ls hR hS hL)
theorem qx_dup (C : qw_C l G b own nm cc nL ret tb R post X) {v : Value} (hd : decode cc pc = .ok (.dup, 1)) (hv : v.category = 1) (kk : X (pc + 1) lo (v :: v :: st) h k n) : X pc lo (v :: st) h k n := by
  obtain ⟨p, e, s, m, args, below, meth, c, rfl, hx, hb, hml, htb, hown, hts, hK, hlk, hr, hnm, hbs⟩ := C
  intro H locs ls hR hS hL
  exact lv_dup hx hb hd hv (kk H locs ls hR hS hL)
theorem qx_pop (C : qw_C l G b own nm cc nL ret tb R post X) {v : Value} (hd : decode cc pc = .ok (.pop, 1)) (hv : v.category = 1) (kk : X (pc + 1) lo st h k n) : X pc lo (v :: st) h k n := by
  obtain ⟨p, e, s, m, args, below, meth, c, rfl, hx, hb, hml, htb, hown, hts, hK, hlk, hr, hnm, hbs⟩ := C
  intro H locs ls hR hS hL
  exact lv_pop hx hb hd hv (kk H locs ls hR hS hL)
theorem qx_dup_x1 (C : qw_C l G b own nm cc nL ret tb R post X) {v u : Value} (hd : decode cc pc = .ok (.dup_x1, 1)) (hv : v.category = 1) (hu : u.category = 1) (kk : X (pc + 1) lo (v :: u :: v :: st) h k n) : X pc lo (v :: u :: st) h k n := by
  obtain ⟨p, e, s, m, args, below, meth, c, rfl, hx, hb, hml, htb, hown, hts, hK, hlk, hr, hnm, hbs⟩ := C
  intro H locs ls hR hS hL
  exact lv_dup_x1 hx hb hd hv hu (kk H locs ls hR hS hL)
theorem qx_dup_x2 (C : qw_C l G b own nm cc nL ret tb R post X) {v u z : Value} (hd : decode cc pc = .ok (.dup_x2, 1)) (hv : v.category = 1) (hu : u.category = 1) (hz : z.category = 1) (kk : X (pc + 1) lo (v :: u :: z :: v :: st) h k n) : X pc lo (v :: u :: z :: st) h k n := by
  obtain ⟨p, e, s, m, args, below, meth, c, rfl, hx, hb, hml, htb, hown, hts, hK, hlk, hr, hnm, hbs⟩ := C
  intro H locs ls hR hS hL
  exact lv_dup_x2 hx hb hd hv hu hz (kk H locs ls hR hS hL)
theorem qx_dup2 (C : qw_C l G b own nm cc nL ret tb R post X) {v u : Value} (hd : decode cc pc = .ok (.dup2, 1)) (hv : v.category = 1) (hu : u.category = 1) (kk : X (pc + 1) lo (v :: u :: v :: u :: st) h k n) : X pc lo (v :: u :: st) h k n := by
  obtain ⟨p, e, s, m, args, below, meth, c, rfl, hx, hb, hml, htb, hown, hts, hK, hlk, hr, hnm, hbs⟩ := C
  intro H locs ls hR hS hL
  exact lv_dup2_11 hx hb hd hv hu (kk H locs ls hR hS hL)
theorem qx_i2l (C : qw_C l G b own nm cc nL ret tb R post X) {x : Int32} (hd : decode cc pc = .ok (.i2l, 1)) (kk : X (pc + 1) lo (.long x.toInt64 :: st) h k n) : X pc lo (.int x :: st) h k n := by
  obtain ⟨p, e, s, m, args, below, meth, c, rfl, hx, hb, hml, htb, hown, hts, hK, hlk, hr, hnm, hbs⟩ := C
  intro H locs ls hR hS hL
  exact lv_i2l hx hb hd rfl (kk H locs ls hR hS hL)
theorem qx_lcmp (C : qw_C l G b own nm cc nL ret tb R post X) {x y : Int64} (hd : decode cc pc = .ok (.lcmp, 1)) (kk : X (pc + 1) lo (.int (lg_cmp x y) :: st) h k n) : X pc lo (.long y :: .long x :: st) h k n := by
  obtain ⟨p, e, s, m, args, below, meth, c, rfl, hx, hb, hml, htb, hown, hts, hK, hlk, hr, hnm, hbs⟩ := C
  intro H locs ls hR hS hL
  exact W.lcmp hx hb hd (kk H locs ls hR hS hL)
theorem qx_goto (C : qw_C l G b own nm cc nL ret tb R post X) {off : Int} {tgt : Nat} (hd : decode cc pc = .ok (.goto off, 3)) (ht : (pc : Int) + off = (tgt : Int)) (kk : X tgt lo st h k n) : X pc lo st h k n := by
  obtain ⟨p, e, s, m, args, below, meth, c, rfl, hx, hb, hml, htb, hown, hts, hK, hlk, hr, hnm, hbs⟩ := C
  intro H locs ls hR hS hL
  exact lv_goto hx hb hd ht (kk H locs ls hR hS hL)
theorem qx_if_eq (C : qw_C l G b own nm cc nL ret tb R post X) {x : Int32} {off : Int} {tgt : Nat} (hd : decode cc pc = .ok (.ifCond .eq off, 3)) (ht : (pc : Int) + off = (tgt : Int)) (kt : x = 0 → X tgt lo st h k n) (kf : ¬ x = 0 → X (pc + 3) lo st h k n) : X pc lo (.int x :: st) h k n := by
  obtain ⟨p, e, s, m, args, below, meth, c, rfl, hx, hb, hml, htb, hown, hts, hK, hlk, hr, hnm, hbs⟩ := C
  intro H locs ls hR hS hL
  exact lv_if_eq hx hb hd ht (fun q => kt q H locs ls hR hS hL) (fun q => kf q H locs ls hR hS hL)
theorem qx_if_ne (C : qw_C l G b own nm cc nL ret tb R post X) {x : Int32} {off : Int} {tgt : Nat} (hd : decode cc pc = .ok (.ifCond .ne off, 3)) (ht : (pc : Int) + off = (tgt : Int)) (kt : ¬ x = 0 → X tgt lo st h k n) (kf : x = 0 → X (pc + 3) lo st h k n) : X pc lo (.int x :: st) h k n := by
  obtain ⟨p, e, s, m, args, below, meth, c, rfl, hx, hb, hml, htb, hown, hts, hK, hlk, hr, hnm, hbs⟩ := C
  intro H locs ls hR hS hL
  exact lv_if_ne hx hb hd ht (fun q => kt q H locs ls hR hS hL) (fun q => kf q H locs ls hR hS hL)
theorem qx_if_lt (C : qw_C l G b own nm cc nL ret tb R post X) {x : Int32} {off : Int} {tgt : Nat} (hd : decode cc pc = .ok (.ifCond .lt off, 3)) (ht : (pc : Int) + off = (tgt : Int)) (kt : x < 0 → X tgt lo st h k n) (kf : ¬ x < 0 → X (pc + 3) lo st h k n) : X pc lo (.int x :: st) h k n := by
  obtain ⟨p, e, s, m, args, below, meth, c, rfl, hx, hb, hml, htb, hown, hts, hK, hlk, hr, hnm, hbs⟩ := C
  intro H locs ls hR hS hL
  exact lv_if_lt hx hb hd ht (fun q => kt q H locs ls hR hS hL) (fun q => kf q H locs ls hR hS hL)
theorem qx_if_ge (C : qw_C l G b own nm cc nL ret tb R post X) {x : Int32} {off : Int} {tgt : Nat} (hd : decode cc pc = .ok (.ifCond .ge off, 3)) (ht : (pc : Int) + off = (tgt : Int)) (kt : 0 ≤ x → X tgt lo st h k n) (kf : ¬ 0 ≤ x → X (pc + 3) lo st h k n) : X pc lo (.int x :: st) h k n := by
  obtain ⟨p, e, s, m, args, below, meth, c, rfl, hx, hb, hml, htb, hown, hts, hK, hlk, hr, hnm, hbs⟩ := C
  intro H locs ls hR hS hL
  exact lv_if_ge hx hb hd ht (fun q => kt q H locs ls hR hS hL) (fun q => kf q H locs ls hR hS hL)
theorem qx_if_gt (C : qw_C l G b own nm cc nL ret tb R post X) {x : Int32} {off : Int} {tgt : Nat} (hd : decode cc pc = .ok (.ifCond .gt off, 3)) (ht : (pc : Int) + off = (tgt : Int)) (kt : 0 < x → X tgt lo st h k n) (kf : ¬ 0 < x → X (pc + 3) lo st h k n) : X pc lo (.int x :: st) h k n := by
  obtain ⟨p, e, s, m, args, below, meth, c, rfl, hx, hb, hml, htb, hown, hts, hK, hlk, hr, hnm, hbs⟩ := C
  intro H locs ls hR hS hL
  exact lv_if_gt hx hb hd ht (fun q => kt q H locs ls hR hS hL) (fun q => kf q H locs ls hR hS hL)
theorem qx_if_le (C : qw_C l G b own nm cc nL ret tb R post X) {x : Int32} {off : Int} {tgt : Nat} (hd : decode cc pc = .ok (.ifCond .le off, 3)) (ht : (pc : Int) + off = (tgt : Int)) (kt : x ≤ 0 → X tgt lo st h k n) (kf : ¬ x ≤ 0 → X (pc + 3) lo st h k n) : X pc lo (.int x :: st) h k n := by
  obtain ⟨p, e, s, m, args, below, meth, c, rfl, hx, hb, hml, htb, hown, hts, hK, hlk, hr, hnm, hbs⟩ := C
  intro H locs ls hR hS hL
  exact lv_if_le hx hb hd ht (fun q => kt q H locs ls hR hS hL) (fun q => kf q H locs ls hR hS hL)
theorem qx_icmp_eq (C : qw_C l G b own nm cc nL ret tb R post X) {x y : Int32} {off : Int} {tgt : Nat} (hd : decode cc pc = .ok (.if_icmp .eq off, 3)) (ht : (pc : Int) + off = (tgt : Int)) (kt : x = y → X tgt lo st h k n) (kf : ¬ x = y → X (pc + 3) lo st h k n) : X pc lo (.int y :: .int x :: st) h k n := by
  obtain ⟨p, e, s, m, args, below, meth, c, rfl, hx, hb, hml, htb, hown, hts, hK, hlk, hr, hnm, hbs⟩ := C
  intro H locs ls hR hS hL
  exact lv_icmp_eq hx hb hd ht (fun q => kt q H locs ls hR hS hL) (fun q => kf q H locs ls hR hS hL)
theorem qx_icmp_ne (C : qw_C l G b own nm cc nL ret tb R post X) {x y : Int32} {off : Int} {tgt : Nat} (hd : decode cc pc = .ok (.if_icmp .ne off, 3)) (ht : (pc : Int) + off = (tgt : Int)) (kt : ¬ x = y → X tgt lo st h k n) (kf : x = y → X (pc + 3) lo st h k n) : X pc lo (.int y :: .int x :: st) h k n := by
  obtain ⟨p, e, s, m, args, below, meth, c, rfl, hx, hb, hml, htb, hown, hts, hK, hlk, hr, hnm, hbs⟩ := C
  intro H locs ls hR hS hL
  exact lv_icmp_ne hx hb hd ht (fun q => kt q H locs ls hR hS hL) (fun q => kf q H locs ls hR hS hL)
theorem qx_icmp_lt (C : qw_C l G b own nm cc nL ret tb R post X) {x y : Int32} {off : Int} {tgt : Nat} (hd : decode cc pc = .ok (.if_icmp .lt off, 3)) (ht : (pc : Int) + off = (tgt : Int)) (kt : x < y → X tgt lo st h k n) (kf : ¬ x < y → X (pc + 3) lo st h k n) : X pc lo (.int y :: .int x :: st) h k n := by
  obtain ⟨p, e, s, m, args, below, meth, c, rfl, hx, hb, hml, htb, hown, hts, hK, hlk, hr, hnm, hbs⟩ := C
  intro H locs ls hR hS hL
  exact lv_icmp_lt hx hb hd ht (fun q => kt q H locs ls hR hS hL) (fun q => kf q H locs ls hR hS hL)
theorem qx_icmp_ge (C : qw_C l G b own nm cc nL ret tb R post X) {x y : Int32} {off : Int} {tgt : Nat} (hd : decode cc pc = .ok (.if_icmp .ge off, 3)) (ht : (pc : Int) + off = (tgt : Int)) (kt : y ≤ x → X tgt lo st h k n) (kf : ¬ y ≤ x → X (pc + 3) lo st h k n) : X pc lo (.int y :: .int x :: st) h k n := by
  obtain ⟨p, e, s, m, args, below, meth, c, rfl, hx, hb, hml, htb, hown, hts, hK, hlk, hr, hnm, hbs⟩ := C
  intro H locs ls hR hS hL
  exact lv_icmp_ge hx hb hd ht (fun q => kt q H locs ls hR hS hL) (fun q => kf q H locs ls hR hS hL)
theorem qx_icmp_gt (C : qw_C l G b own nm cc nL ret tb R post X) {x y : Int32} {off : Int} {tgt : Nat} (hd : decode cc pc = .ok (.if_icmp .gt off, 3)) (ht : (pc : Int) + off = (tgt : Int)) (kt : y < x → X tgt lo st h k n) (kf : ¬ y < x → X (pc + 3) lo st h k n) : X pc lo (.int y :: .int x :: st) h k n := by
  obtain ⟨p, e, s, m, args, below, meth, c, rfl, hx, hb, hml, htb, hown, hts, hK, hlk, hr, hnm, hbs⟩ := C
  intro H locs ls hR hS hL
  exact lv_icmp_gt hx hb hd ht (fun q => kt q H locs ls hR hS hL) (fun q => kf q H locs ls hR hS hL)
theorem qx_icmp_le (C : qw_C l G b own nm cc nL ret tb R post X) {x y : Int32} {off : Int} {tgt : Nat} (hd : decode cc pc = .ok (.if_icmp .le off, 3)) (ht : (pc : Int) + off = (tgt : Int)) (kt : x ≤ y → X tgt lo st h k n) (kf : ¬ x ≤ y → X (pc + 3) lo st h k n) : X pc lo (.int y :: .int x :: st) h k n := by
  obtain ⟨p, e, s, m, args, below, meth, c, rfl, hx, hb, hml, htb, hown, hts, hK, hlk, hr, hnm, hbs⟩ := C
  intro H locs ls hR hS hL
  exact lv_icmp_le hx hb hd ht (fun q => kt q H locs ls hR hS hL) (fun q => kf q H locs ls hR hS hL)
theorem qx_ifnonnull (C : qw_C l G b own nm cc nL ret tb R post X) {x : Nat} {off : Int} {tgt : Nat} (hd : decode cc pc = .ok (.ifnonnull off, 3)) (ht : (pc : Int) + off = (tgt : Int)) (kk : X tgt lo st h k n) : X pc lo (.ref x :: st) h k n := by
  obtain ⟨p, e, s, m, args, below, meth, c, rfl, hx, hb, hml, htb, hown, hts, hK, hlk, hr, hnm, hbs⟩ := C
  intro H locs ls hR hS hL
  exact lv_ifnonnull hx hb hd ht (kk H locs ls hR hS hL)
theorem qx_ifnonnullN (C : qw_C l G b own nm cc nL ret tb R post X) {off : Int} (hd : decode cc pc = .ok (.ifnonnull off, 3)) (kk : X (pc + 3) lo st h k n) : X pc lo (.null :: st) h k n := by
  obtain ⟨p, e, s, m, args, below, meth, c, rfl, hx, hb, hml, htb, hown, hts, hK, hlk, hr, hnm, hbs⟩ := C
  intro H locs ls hR hS hL
  exact lv_ifnonnullN hx hb hd (kk H locs ls hR hS hL)
theorem qx_ifnull (C : qw_C l G b own nm cc nL ret tb R post X) {x : Nat} {off : Int} (hd : decode cc pc = .ok (.ifnull off, 3)) (kk : X (pc + 3) lo st h k n) : X pc lo (.ref x :: st) h k n := by
  obtain ⟨p, e, s, m, args, below, meth, c, rfl, hx, hb, hml, htb, hown, hts, hK, hlk, hr, hnm, hbs⟩ := C
  intro H locs ls hR hS hL
  exact lv_ifnull hx hb hd (kk H locs ls hR hS hL)
theorem qx_ifnullN (C : qw_C l G b own nm cc nL ret tb R post X) {off : Int} {tgt : Nat} (hd : decode cc pc = .ok (.ifnull off, 3)) (ht : (pc : Int) + off = (tgt : Int)) (kk : X tgt lo st h k n) : X pc lo (.null :: st) h k n := by
  obtain ⟨p, e, s, m, args, below, meth, c, rfl, hx, hb, hml, htb, hown, hts, hK, hlk, hr, hnm, hbs⟩ := C
  intro H locs ls hR hS hL
  exact lv_ifnullN hx hb hd ht (kk H locs ls hR hS hL)
theorem qx_tabIn (C : qw_C l G b own nm cc nL ret tb R post X) {x : Int32} {dflt lw hi : Int} {offs : Array Int} {len : Nat} {off : Int} {tgt : Nat} (hd : decode cc pc = .ok (.tableswitch dflt lw hi offs, len)) (h1 : ¬ x.toInt < lw) (h2 : ¬ hi < x.toInt) (ho : offs[(x.toInt - lw).toNat]? = some off) (ht : (pc : Int) + off = (tgt : Int)) (kk : X tgt lo st h k n) : X pc lo (.int x :: st) h k n := by
  obtain ⟨p, e, s, m, args, below, meth, c, rfl, hx, hb, hml, htb, hown, hts, hK, hlk, hr, hnm, hbs⟩ := C
  intro H locs ls hR hS hL
  exact lv_tableIn hx hb hd h1 h2 ho ht (kk H locs ls hR hS hL)
theorem qx_tabOut (C : qw_C l G b own nm cc nL ret tb R post X) {x : Int32} {dflt lw hi : Int} {offs : Array Int} {len : Nat} {tgt : Nat} (hd : decode cc pc = .ok (.tableswitch dflt lw hi offs, len)) (h1 : x.toInt < lw ∨ hi < x.toInt) (ht : (pc : Int) + dflt = (tgt : Int)) (kk : X tgt lo st h k n) : X pc lo (.int x :: st) h k n := by
  obtain ⟨p, e, s, m, args, below, meth, c, rfl, hx, hb, hml, htb, hown, hts, hK, hlk, hr, hnm, hbs⟩ := C
  intro H locs ls hR hS hL
  exact lv_tableOut hx hb hd h1 ht (kk H locs ls hR hS hL)
theorem qx_iinc (C : qw_C l G b own nm cc nL ret tb R post X) {i : Nat} {d : Int} {x : Int32} (hd : decode cc pc = .ok (.iinc i d, 3)) (hl : lo[i]? = some (some (.int x))) (kk : X (pc + 3) (lo.set i (some (.int (x + Int32.ofInt d)))) st h k n) : X pc lo st h k n := by
  obtain ⟨p, e, s, m, args, below, meth, c, rfl, hx, hb, hml, htb, hown, hts, hK, hlk, hr, hnm, hbs⟩ := C
  intro H locs ls hR hS hL
  have hn : i < lo.length := (List.getElem?_eq_some_iff.mp hl).1
  obtain ⟨j, hj⟩ := List.getElem?_of_mem (qh_al_mem hl)
  exact lv_iinc hx hb hd hL.has hj rfl hn rfl (fun ls2 h2 => kk H locs ls2 hR hS (hL.set hn rfl h2))
theorem qh_R.one {G : qh_G} {b : Nat} {h : qh_H} {H : Heap} {a : Nat} {x : va_E} (hR : qh_R G b h H) (ha : h a = some x) : va_P G.1 qu_Cl [(a, x)] H := by
  intro j q hj
  cases j with
  | zero => cases hj; exact (hR.2 a x ha).2
  | succ j => cases hj
def qx_FL (own : String) (index ci j : Nat) : Prop := ∃ (C : String) (T : u_T) (N : Nat), qu_Cl[ci]? = some (C, T, N) ∧ j < N ∧ (∀ w ∈ u_ws C T N, w ∈ qu_W) ∧ Cond.fieldLink own index (T j).1 (T j).2.1 (T j).2.2.1 ∈ qu_W
def qx_FP (own : String) (index ci j : Nat) (ty : FieldType) (fin : Bool) : Prop := ∃ (C : String) (T : u_T) (N : Nat) (ty0 : Nat → FieldType), qu_Cl[ci]? = some (C, T, N) ∧ j < N ∧ (∀ w ∈ u_ws C T N, w ∈ qu_W) ∧ Cond.fieldLink own index (T j).1 (T j).2.1 (T j).2.2.1 ∈ qu_W ∧ (∀ i, i < N → parseFieldDescriptor (T i).2.2.1 = some (ty0 i)) ∧ (∀ x, x < N → ∀ y, y < N → x ≠ y → (T x).2.1 ≠ (T y).2.1) ∧ parseFieldDescriptor (T j).2.2.1 = some ty ∧ (T j).2.2.2 = fin ∧ (fin = true → (T j).1 = own)
def qx_NW (own : String) (index ci : Nat) (fs : List Value) (N : Nat) : Prop := ∃ (C : String) (T : u_T) (ty : Nat → FieldType), qu_Cl[ci]? = some (C, T, N) ∧ (∀ w ∈ u_ws C T N, w ∈ qu_W) ∧ (∀ j, j < N → parseFieldDescriptor (T j).2.2.1 = some (ty j)) ∧ (∀ j, j < N → defaultValue (ty j) = vp_V fs j) ∧ Cond.classLink own index C ∈ qu_W ∧ Cond.instantiable C N ∈ qu_W ∧ Cond.initialized C ∈ qu_W
theorem qx_get (C : qw_C l G b own nm cc nL ret tb R post X) {index ci j a : Nat} {fs : List Value} {v : Value} (hd : decode cc pc = .ok (.getfield index, 3)) (hf : qx_FL own index ci j) (ha : h a = some (.inr (ci, fs))) (hv : fs[j]? = some v) (kk : X (pc + 3) lo (v :: st) h k n) : X pc lo (.ref a :: st) h k n := by
  obtain ⟨p, e, s, m, args, below, meth, c, rfl, hx, hb, hml, htb, hown, hts, hK, hlk, hr, hnm, hbs⟩ := C
  intro H locs ls hR hS hL
  obtain ⟨Cn, T, N, hc, hj, hin, hlink⟩ := hf
  exact va_get (D := G.1) (cl := qu_Cl) hx hb hts hin hown hK.1 (hR.one ha) 0 rfl hc j hj (hts _ hlink) (fun _ q => q) hv hd (kk H locs ls hR hS hL)
theorem qx_put (C : qw_C l G b own nm cc nL ret tb R post X) {index ci j a : Nat} {fs : List Value} {v : Value} {ty : FieldType} (hd : decode cc pc = .ok (.putfield index, 3)) (hf : qx_FP own index ci j ty false) (ha : h a = some (.inr (ci, fs))) (hl : j < fs.length) (hn : narrow ty v = v) (hfit : fits ty v = true) (kk : X (pc + 3) lo st (va_up h a (some (.inr (ci, fs.set j v)))) k n) : X pc lo (v :: .ref a :: st) h k n := by
  obtain ⟨p, e, s, m, args, below, meth, c, rfl, hx, hb, hml, htb, hown, hts, hK, hlk, hr, hnm, hbs⟩ := C
  intro H locs ls hR hS hL
  obtain ⟨Cn, T, N, ty0, hc, hj, hin, hlink, hty, hnm2, hpd, hfin, hdecl⟩ := hf
  have hap := va_apart (own := own) hts hin ty0 hty hnm2 hK.1 hc
  obtain ⟨hba, r, h1, cell, q1, q2, q3, q4⟩ := hR.2 a _ ha
  have hr2 : r = (Cn, T, N) := Option.some.inj (h1.symm.trans hc)
  subst hr2
  obtain ⟨hSl, hfc, kC, hkC, hkind⟩ := hK.1.1 ci _ hc
  obtain ⟨cf, kf, fi, f, hi, hsl⟩ := hSl j hj
  have hlay := hts _ (hin _ (u_in_lay hj))
  unfold u_lay at hlay
  rw [if_neg (by rw [hfin]; decide)] at hlay
  have hst := (u_facts hfc hkC (u_lays hts hin hj) hi).1
  have h6 := u_store hfc hkC hkind hlay hi hpd hn hfit
  refine W.putK hx hb (f := f) ⟨hown, hts _ hlink, ⟨_, _, _, hi⟩, hst⟩ (by rw [q2]; exact h6) q1 q3 (by rw [hsl]; exact k2_hasslot (q4 j hj)) rfl rfl hd fun H' e1 e2 e3 => ?_
  rw [hsl] at e1 ⊢
  exact kk H' _ ls (hR.up hba (Nat.le_of_eq e2.symm) ⟨_, hc, t_OB.to (V := updV (vp_V fs) j v) ⟨_, e1, q2, q3, t_set q4 hap hj v⟩ (fun i _ => vp_updV_set hl v i)⟩ (fun q hq _ => e3 q hq)) (hS.put e2 e3 hba) hL
theorem qx_putF (C : qw_C l G b own nm cc nL ret tb R post X) {index ci j a : Nat} {fs : List Value} {v : Value} {ty : FieldType} (hd : decode cc pc = .ok (.putfield index, 3)) (hi0 : nm = "<init>") (hf : qx_FP own index ci j ty true) (ha : h a = some (.inr (ci, fs))) (hl : j < fs.length) (hn : narrow ty v = v) (hfit : fits ty v = true) (kk : X (pc + 3) lo st (va_up h a (some (.inr (ci, fs.set j v)))) k n) : X pc lo (v :: .ref a :: st) h k n := by
  obtain ⟨p, e, s, m, args, below, meth, c, rfl, hx, hb, hml, htb, hown, hts, hK, hlk, hr, hnm, hbs⟩ := C
  intro H locs ls hR hS hL
  obtain ⟨Cn, T, N, ty0, hc, hj, hin, hlink, hty, hnm2, hpd, hfin, hdecl⟩ := hf
  have hap := va_apart (own := own) hts hin ty0 hty hnm2 hK.1 hc
  obtain ⟨hba, r, h1, cell, q1, q2, q3, q4⟩ := hR.2 a _ ha
  have hr2 : r = (Cn, T, N) := Option.some.inj (h1.symm.trans hc)
  subst hr2
  obtain ⟨hSl, hfc, kC, hkC, hkind⟩ := hK.1.1 ci _ hc
  obtain ⟨cf, kf, fi, f, hi, hsl⟩ := hSl j hj
  have hlay := hts _ (hin _ (u_in_lay hj))
  unfold u_lay at hlay
  rw [if_pos hfin] at hlay
  have hst := (u_facts hfc hkC (u_lays hts hin hj) hi).1
  have hcf : m.cls = cf := by
    obtain ⟨_, _, c', _, _, _, -, -, hf', -, -, -, hown2, -⟩ := Cond.laysFinal_spec hlay
    have e1 : c' = cf := by have := hi.symm.trans hf'; simp at this; exact this.1.symm
    rw [hdecl rfl] at hown2
    rw [← e1]; exact Option.some.inj (hown.symm.trans hown2)
  have h6 := u_fits hfc hkC hkind (Or.inr hlay) hi hpd hn hfit
  refine W.putFinK hx hb hown (hts _ hlink) hi hst hcf (hnm.trans hi0) (by rw [q2]; exact h6) q1 q3 (by rw [hsl]; exact k2_hasslot (q4 j hj)) rfl rfl hd fun H' e1 e2 e3 => ?_
  rw [hsl] at e1 ⊢
  exact kk H' _ ls (hR.up hba (Nat.le_of_eq e2.symm) ⟨_, hc, t_OB.to (V := updV (vp_V fs) j v) ⟨_, e1, q2, q3, t_set q4 hap hj v⟩ (fun i _ => vp_updV_set hl v i)⟩ (fun q hq _ => e3 q hq)) (hS.put e2 e3 hba) hL
theorem qx_new (C : qw_C l G b own nm cc nL ret tb R post X) {index ci N : Nat} {fs : List Value} (hd : decode cc pc = .ok (.new index, 3)) (hf : qx_NW own index ci fs N) (h1 : k + 1 ≤ R.cells) (h2 : n + N ≤ R.slots) (kk : ∀ q : Nat, h q = none → X (pc + 3) lo (.ref q :: st) (va_up h q (some (.inr (ci, fs)))) (k + 1) (n + N)) : X pc lo st h k n := by
  obtain ⟨p, e, s, m, args, below, meth, c, rfl, hx, hb, hml, htb, hown, hts, hK, hlk, hr, hnm, hbs⟩ := C
  intro H locs ls hR hS hL
  obtain ⟨Cn, T, ty, hc, hin, hty, hfs, hcl, hinst, hini⟩ := hf
  have hKn := hK.1.1 ci _ hc
  refine W.newcK hx hb hown (hts _ hcl) (hts _ hinst) (hts _ hini) rfl hd h1 h2 hKn.2.1 rfl fun H1 kC hkC e1 z1 o1 => ?_
  exact kk H.size hR.fresh H1 locs ls (hR.up hR.1 (by omega) ⟨_, hc, (u_born ty hts hin hKn hkC e1 hty).to hfs⟩ (fun q _ hq => o1 q hq)) ⟨Nat.le_trans hS.1 (by omega), fun x g1 g2 => (o1 x (Nat.lt_of_lt_of_le g1 hS.1)).trans (hS.2.1 x g1 g2), hS.2.2⟩ hL
theorem qx_iald (C : qw_C l G b own nm cc nL ret tb R post X) {a N : Nat} {f : Nat → Int32} {i : Int32} (hd : decode cc pc = .ok (.iaload, 1)) (ha : h a = some (.inl (G.2 0, N, .inl f))) (hin : vp_in i N) (kk : X (pc + 1) lo (.int (f i.toNatClampNeg) :: st) h k n) : X pc lo (.int i :: .ref a :: st) h k n := by
  obtain ⟨p, e, s, m, args, below, meth, c, rfl, hx, hb, hml, htb, hown, hts, hK, hlk, hr, hnm, hbs⟩ := C
  intro H locs ls hR hS hL
  exact va_iald (D := G.1) (cl := qu_Cl) hx hb hK.1 (hR.one ha) 0 0 rfl rfl hin hd (kk H locs ls hR hS hL)
theorem qx_zald (C : qw_C l G b own nm cc nL ret tb R post X) {a N : Nat} {f : Nat → Int32} {i : Int32} (hd : decode cc pc = .ok (.baload, 1)) (ha : h a = some (.inl (G.2 1, N, .inl f))) (hin : vp_in i N) (kk : X (pc + 1) lo (.int (f i.toNatClampNeg) :: st) h k n) : X pc lo (.int i :: .ref a :: st) h k n := by
  obtain ⟨p, e, s, m, args, below, meth, c, rfl, hx, hb, hml, htb, hown, hts, hK, hlk, hr, hnm, hbs⟩ := C
  intro H locs ls hR hS hL
  exact va_zald (D := G.1) (cl := qu_Cl) hx hb hK.1 (hR.one ha) 0 1 rfl rfl hin hd (kk H locs ls hR hS hL)
theorem qx_lald (C : qw_C l G b own nm cc nL ret tb R post X) {a N : Nat} {f : Nat → Int64} {i : Int32} (hd : decode cc pc = .ok (.laload, 1)) (ha : h a = some (.inl (G.2 2, N, .inr (.inl f)))) (hin : vp_in i N) (kk : X (pc + 1) lo (.long (f i.toNatClampNeg) :: st) h k n) : X pc lo (.int i :: .ref a :: st) h k n := by
  obtain ⟨p, e, s, m, args, below, meth, c, rfl, hx, hb, hml, htb, hown, hts, hK, hlk, hr, hnm, hbs⟩ := C
  intro H locs ls hR hS hL
  exact va_lald (D := G.1) (cl := qu_Cl) hx hb hK.1 (hR.one ha) 0 2 rfl rfl hin hd (kk H locs ls hR hS hL)
theorem qx_iast (C : qw_C l G b own nm cc nL ret tb R post X) {a N : Nat} {f : Nat → Int32} {i : Int32} {x : Int32} (hd : decode cc pc = .ok (.iastore, 1)) (ha : h a = some (.inl (G.2 0, N, .inl f))) (hin : vp_in i N) (kk : X (pc + 1) lo st (va_up h a (some (.inl (G.2 0, N, .inl (upd f i.toNatClampNeg x))))) k n) : X pc lo (.int x :: .int i :: .ref a :: st) h k n := by
  obtain ⟨p, e, s, m, args, below, meth, c, rfl, hx, hb, hml, htb, hown, hts, hK, hlk, hr, hnm, hbs⟩ := C
  intro H locs ls hR hS hL
  obtain ⟨hba, hca⟩ := hR.2 a _ ha
  refine W.iast hx hb hca ((hK.1.2 0 _ rfl).1 N (fun j => .int (f j))) (fun q => by cases q) (by show ¬ (i < 0 ∨ (arrV _ _ _).slots.size ≤ _); rw [arrV_size]; exact hin) rfl rfl hd fun H1 e z oq => ?_
  refine kk H1 _ ls (hR.up hba (Nat.le_of_eq z.symm) ?_ (fun q hq _ => oq q hq)) (hS.put z oq hba) hL
  show H1[a]? = some (vp_cell _ _)
  rw [e]
  rw [vp_cell_i, vp_cell_i, arrV_store]
  congr 2
  funext q
  by_cases hq : q = i.toNatClampNeg
  · subst hq
    simp [updV, upd, vp_nar, vp_updL]
    try rfl
  · simp [updV, upd, vp_updL, hq]
theorem qx_zast (C : qw_C l G b own nm cc nL ret tb R post X) {a N : Nat} {f : Nat → Int32} {i : Int32} {x : Int32} (hd : decode cc pc = .ok (.bastore, 1)) (ha : h a = some (.inl (G.2 1, N, .inl f))) (hin : vp_in i N) (kk : X (pc + 1) lo st (va_up h a (some (.inl (G.2 1, N, .inl (upd f i.toNatClampNeg (vp_nar .boolean x)))))) k n) : X pc lo (.int x :: .int i :: .ref a :: st) h k n := by
  obtain ⟨p, e, s, m, args, below, meth, c, rfl, hx, hb, hml, htb, hown, hts, hK, hlk, hr, hnm, hbs⟩ := C
  intro H locs ls hR hS hL
  obtain ⟨hba, hca⟩ := hR.2 a _ ha
  refine W.zast hx hb hca ((hK.1.2 1 _ rfl).1 N (fun j => .int (f j))) (fun q => by cases q) (by show ¬ (i < 0 ∨ (arrV _ _ _).slots.size ≤ _); rw [arrV_size]; exact hin) rfl rfl hd fun H1 e z oq => ?_
  refine kk H1 _ ls (hR.up hba (Nat.le_of_eq z.symm) ?_ (fun q hq _ => oq q hq)) (hS.put z oq hba) hL
  show H1[a]? = some (vp_cell _ _)
  rw [e]
  rw [vp_cell_i, vp_cell_i, arrV_store]
  congr 2
  funext q
  by_cases hq : q = i.toNatClampNeg
  · subst hq
    simp [updV, upd, vp_nar, vp_updL]
    try rfl
  · simp [updV, upd, vp_updL, hq]
theorem qx_last (C : qw_C l G b own nm cc nL ret tb R post X) {a N : Nat} {f : Nat → Int64} {i : Int32} {x : Int64} (hd : decode cc pc = .ok (.lastore, 1)) (ha : h a = some (.inl (G.2 2, N, .inr (.inl f)))) (hin : vp_in i N) (kk : X (pc + 1) lo st (va_up h a (some (.inl (G.2 2, N, .inr (.inl (vp_updL f i.toNatClampNeg x)))))) k n) : X pc lo (.long x :: .int i :: .ref a :: st) h k n := by
  obtain ⟨p, e, s, m, args, below, meth, c, rfl, hx, hb, hml, htb, hown, hts, hK, hlk, hr, hnm, hbs⟩ := C
  intro H locs ls hR hS hL
  obtain ⟨hba, hca⟩ := hR.2 a _ ha
  refine W.last hx hb hca ((hK.1.2 2 _ rfl).1 N (fun j => .long (f j))) (fun q => by cases q) (by show ¬ (i < 0 ∨ (arrV _ _ _).slots.size ≤ _); rw [arrV_size]; exact hin) rfl rfl hd fun H1 e z oq => ?_
  refine kk H1 _ ls (hR.up hba (Nat.le_of_eq z.symm) ?_ (fun q hq _ => oq q hq)) (hS.put z oq hba) hL
  show H1[a]? = some (vp_cell _ _)
  rw [e]
  rw [vp_cell_l, vp_cell_l, arrV_store]
  congr 2
  funext q
  by_cases hq : q = i.toNatClampNeg
  · subst hq
    simp [updV, upd, vp_nar, vp_updL]
    try rfl
  · simp [updV, upd, vp_updL, hq]
theorem qx_alen (C : qw_C l G b own nm cc nL ret tb R post X) {a t N : Nat} {x : vp_A} {ty : FieldType} (hd : decode cc pc = .ok (.arraylength, 1)) (ha : h a = some (.inl (G.2 t, x))) (ht : (qu_Ty G.2)[t]? = some (G.2 t, ty)) (hx1 : x.1 = N) (kk : X (pc + 1) lo (.int (nI N) :: st) h k n) : X pc lo (.ref a :: st) h k n := by
  obtain ⟨p, e, s, m, args, below, meth, c, rfl, hx, hb, hml, htb, hown, hts, hK, hlk, hr, hnm, hbs⟩ := C
  intro H locs ls hR hS hL
  subst hx1
  exact va_alen (D := G.1) (cl := qu_Cl) hx hb hK.1 (hR.one ha) 0 t rfl ht rfl hd (kk H locs ls hR hS hL)
theorem qx_aald (C : qw_C l G b own nm cc nL ret tb R post X) {a t N y : Nat} {f : Nat → Option Nat} {E : String} {i : Int32} (hd : decode cc pc = .ok (.aaload, 1)) (ha : h a = some (.inl (G.2 t, N, .inr (.inr (.inr (.inr f)))))) (ht : (qu_Ty G.2)[t]? = some (G.2 t, .object E)) (hin : vp_in i N) (hv : f i.toNatClampNeg = some y) (kk : X (pc + 1) lo (.ref y :: st) h k n) : X pc lo (.int i :: .ref a :: st) h k n := by
  obtain ⟨p, e, s, m, args, below, meth, c, rfl, hx, hb, hml, htb, hown, hts, hK, hlk, hr, hnm, hbs⟩ := C
  intro H locs ls hR hS hL
  have h9 := kk H locs ls hR hS hL
  refine va_aldq (D := G.1) (cl := qu_Cl) hx hb hK.1 (hR.one ha) 0 t rfl ht hin hd ?_
  rw [hv]
  exact h9
theorem qx_aaldN (C : qw_C l G b own nm cc nL ret tb R post X) {a t N : Nat} {f : Nat → Option Nat} {E : String} {i : Int32} (hd : decode cc pc = .ok (.aaload, 1)) (ha : h a = some (.inl (G.2 t, N, .inr (.inr (.inr (.inr f)))))) (ht : (qu_Ty G.2)[t]? = some (G.2 t, .object E)) (hin : vp_in i N) (hv : f i.toNatClampNeg = none) (kk : X (pc + 1) lo (.null :: st) h k n) : X pc lo (.int i :: .ref a :: st) h k n := by
  obtain ⟨p, e, s, m, args, below, meth, c, rfl, hx, hb, hml, htb, hown, hts, hK, hlk, hr, hnm, hbs⟩ := C
  intro H locs ls hR hS hL
  have h9 := kk H locs ls hR hS hL
  refine va_aldq (D := G.1) (cl := qu_Cl) hx hb hK.1 (hR.one ha) 0 t rfl ht hin hd ?_
  rw [hv]
  exact h9
theorem qx_aast (C : qw_C l G b own nm cc nL ret tb R post X) {a t N v ci : Nat} {f : Nat → Option Nat} {r : vw_C} {vs : List Value} {i : Int32} (hd : decode cc pc = .ok (.aastore, 1)) (ha : h a = some (.inl (G.2 t, N, .inr (.inr (.inr (.inr f)))))) (ht : (qu_Ty G.2)[t]? = some (G.2 t, .object r.1)) (hv : h v = some (.inr (ci, vs))) (hc : qu_Cl[ci]? = some r) (hin : vp_in i N) (kk : X (pc + 1) lo st (va_up h a (some (.inl (G.2 t, N, .inr (.inr (.inr (.inr (va_up f i.toNatClampNeg (some v))))))))) k n) : X pc lo (.ref v :: .int i :: .ref a :: st) h k n := by
  obtain ⟨p, e, s, m, args, below, meth, c, rfl, hx, hb, hml, htb, hown, hts, hK, hlk, hr, hnm, hbs⟩ := C
  intro H locs ls hR hS hL
  have hlt : i.toNatClampNeg < N := Nat.not_le.mp fun q => hin (Or.inr q)
  have h0 : ¬ i < 0 := fun q => hin (Or.inl q)
  obtain ⟨hba, hca⟩ := hR.2 a _ ha
  obtain ⟨-, r', hr', cellV, g1, g2, g3, -⟩ := hR.2 v _ hv
  have hcls := (hK.1.1 ci r hc).2
  obtain ⟨kA, comp, k1, k2, k3, -⟩ := (hK.1.2 t _ ht).2
  have hcomp : comp = G.1.1 ci := Option.some.inj (k3.symm.trans hcls.1)
  subst hcomp
  obtain ⟨kC, hkC, -⟩ := hcls.2
  refine W.aast hx hb hca (fun q h => by cases h) (fun h => by cases h) k1 k2 rfl hkC ⟨h0, by show _ < (arrV _ _ _).slots.size; rw [arrV_size]; exact hlt⟩ g1 (fun q h => by rw [g3] at h; cases h) (by rw [g2]; exact hkC) (by rw [g2]; exact va_assign hcls) rfl rfl hd fun H1 e z oq => ?_
  refine kk H1 _ ls (hR.up hba (Nat.le_of_eq z.symm) ?_ (fun q hq _ => oq q hq)) (hS.put z oq hba) hL
  show H1[a]? = some (vp_cell _ _)
  rw [e]
  rw [vp_cell_q, vp_cell_q, arrV_store]
  congr 2
  funext q
  by_cases hq : q = i.toNatClampNeg
  · subst hq
    simp [updV, va_up, va_rf]
  · simp [updV, va_up, hq]
theorem qx_newa (C : qw_C l G b own nm cc nL ret tb R post X) {t N : Nat} {atype : ArrayType} {ty : FieldType} {a0 : vp_A} {i : Int32} (hd : decode cc pc = .ok (.newarray atype, 2)) (hty : newarray.typeOf atype = ty) (ht : (qu_Ty G.2)[t]? = some (G.2 t, ty)) (hw : Cond.arrayClass ty ∈ qu_W) (ha0 : ∀ cA : ClassId, vp_cell cA a0 = arrV cA N (fun _ => defaultValue ty)) (hi : ¬ i < 0) (hN : i.toNatClampNeg = N) (hby : N * componentBytes ty ≤ 536870912) (h1 : k + 1 ≤ R.cells) (h2 : n + N ≤ R.slots) (kk : ∀ q : Nat, h q = none → X (pc + 2) lo (.ref q :: st) (va_up h q (some (.inl (G.2 t, a0)))) (k + 1) (n + N)) : X pc lo (.int i :: st) h k n := by
  obtain ⟨p, e, s, m, args, below, meth, c, rfl, hx, hb, hml, htb, hown, hts, hK, hlk, hr, hnm, hbs⟩ := C
  intro H locs ls hR hS hL
  subst hty
  refine va_newaK hx hb (hts _ hw) rfl hd rfl hi hN hby h1 h2 rfl fun H1 cA e1 z1 o1 hAr hNm => ?_
  have hcA : cA = G.2 t := by
    have h9 := (hK.1.2 t _ ht).2
    have h8 : s.vm.findClass ("[" ++ (newarray.typeOf atype).toString) = some (G.2 t) := by
      revert h9
      cases atype <;> exact fun h9 => h9
    exact Option.some.inj (hNm.symm.trans h8)
  subst hcA
  exact kk H.size hR.fresh H1 locs ls (hR.up hR.1 (by omega) (show H1[H.size]? = some (vp_cell _ _) by rw [ha0]; exact e1) (fun q _ hq => o1 q hq)) ⟨Nat.le_trans hS.1 (by omega), fun x g1 g2 => (o1 x (Nat.lt_of_lt_of_le g1 hS.1)).trans (hS.2.1 x g1 g2), hS.2.2⟩ hL
theorem qx_newq (C : qw_C l G b own nm cc nL ret tb R post X) {t N index : Nat} {E : String} {i : Int32} (hd : decode cc pc = .ok (.anewarray index, 3)) (ht : (qu_Ty G.2)[t]? = some (G.2 t, .object E)) (hw : Cond.classLink own index E ∈ qu_W) (ho : E ∈ qu_Ao) (hi : ¬ i < 0) (hN : i.toNatClampNeg = N) (hby : N * 4 ≤ 536870912) (h1 : k + 1 ≤ R.cells) (h2 : n + N ≤ R.slots) (kk : ∀ q : Nat, h q = none → X (pc + 3) lo (.ref q :: st) (va_up h q (some (.inl (G.2 t, N, .inr (.inr (.inr (.inr (fun _ => none)))))))) (k + 1) (n + N)) : X pc lo (.int i :: st) h k n := by
  obtain ⟨p, e, s, m, args, below, meth, c, rfl, hx, hb, hml, htb, hown, hts, hK, hlk, hr, hnm, hbs⟩ := C
  intro H locs ls hR hS hL
  subst hN
  refine W.anew hx hb hown (hts _ hw) (va_AO.use (hK.2.2 E ho)) rfl hd rfl hi hby h1 h2 fun cA kA comp f1 f2 f3 f4 => ?_
  obtain ⟨kA2, comp2, k1, k2, k3, k4⟩ := (hK.1.2 t _ ht).2
  have hcA : cA = G.2 t := Option.some.inj (f1.symm.trans k4)
  subst hcA
  generalize hH1 : H.push ({ cls := G.2 t, slots := Array.replicate i.toNatClampNeg .null, vm := .none } : Cell) = H1
  have z1 : H1.size = H.size + 1 := by rw [← hH1, Array.size_push]
  have e1 : H1[H.size]? = some (arrV (G.2 t) i.toNatClampNeg (fun _ => .null)) := by rw [← hH1, Array.getElem?_push_size, ← arrV_new]
  have o1 : ∀ q : Nat, q < H.size → H1[q]? = H[q]? := fun q hq => by rw [← hH1, Array.getElem?_push, if_neg (Nat.ne_of_lt hq)]
  exact kk H.size hR.fresh H1 locs ls (hR.up hR.1 (by omega) (show H1[H.size]? = some (vp_cell _ _) by rw [vp_cell_q]; exact e1) (fun q _ hq => o1 q hq)) ⟨Nat.le_trans hS.1 (by omega), fun x g1 g2 => (o1 x (Nat.lt_of_lt_of_le g1 hS.1)).trans (hS.2.1 x g1 g2), hS.2.2⟩ hL
theorem qw_mono {p : Program} {e : Env} {s : State} {m : MethodId} {args : Array Value} {below : List Frame} {meth : Method} {c : Code} {H : Heap} {locs : List Loc} {cells slots : Nat} {Q Q' : State → Prop} {g : JFrame} (hq : ∀ t, Q t → Q' t) (kk : W p l e R s m args below meth c H locs cells slots Q g) : W p l e R s m args below meth c H locs cells slots Q' g := fun T hT X => by
  obtain ⟨t, a1, b1⟩ := kk T hT X
  exact ⟨t, a1, hq t b1⟩
theorem qx_fin {s : State} {args : Array Value} {below : List Frame} {H : Heap} {locs : List Loc} {mc ms : Nat} {o0 : Outcome} (hbs : b ≤ s.heap.size) (hR : qh_R G b h H) (hS : va_S (fun q => b ≤ q) s.heap H locs) (hp : post o0 h) : ∀ t : State, MQ below (fun _ _ o t => o = o0 ∧ t.heap = H) args s mc ms (fun q => b ≤ q) t → qx_Q G b post below s mc ms t := by
  rintro t ⟨o, h1, h2, ⟨rfl, h4⟩, L, ⟨-, h5, h6⟩, h7⟩
  refine ⟨o, h, L, h1, h2, hp, by rw [h4]; exact hR, h5, ⟨by rw [h4]; exact hS.1, fun q hq => ?_⟩, h6, h7⟩
  rw [h4]
  exact hS.2.1 q (Nat.lt_of_lt_of_le hq hbs) (Nat.not_le.mpr hq)
theorem qx_iret (C : qw_C l G b own nm cc nL (some .int) tb R post X) {v : Int32} (hd : decode cc pc = .ok (.ireturn, 1)) (h1 : k ≤ R.cells) (h2 : n ≤ R.slots) (hp : post (.returned (some (.int v))) h) : X pc lo [.int v] h k n := by
  obtain ⟨p, e, s, m, args, below, meth, c, rfl, hx, hb, hml, htb, hown, hts, hK, hlk, hr, hnm, hbs⟩ := C
  intro H locs ls hR hS hL
  refine W.widen h1 h2 (qw_mono (qx_fin (args := args) hbs hR hS hp) ?_)
  exact W.iret hx hb hr (fun t ht _ => ⟨rfl, ht⟩) hS.2.2 hd
theorem qx_zret (C : qw_C l G b own nm cc nL (some .boolean) tb R post X) {v : Int32} (hd : decode cc pc = .ok (.ireturn, 1)) (hv : narrow .boolean (.int v) = .int v) (h1 : k ≤ R.cells) (h2 : n ≤ R.slots) (hp : post (.returned (some (.int v))) h) : X pc lo [.int v] h k n := by
  obtain ⟨p, e, s, m, args, below, meth, c, rfl, hx, hb, hml, htb, hown, hts, hK, hlk, hr, hnm, hbs⟩ := C
  intro H locs ls hR hS hL
  refine W.widen h1 h2 (qw_mono (qx_fin (args := args) hbs hR hS hp) ?_)
  exact W.zret hx hb hr hv (fun t ht _ => ⟨rfl, ht⟩) hS.2.2 hd
theorem qx_vret (C : qw_C l G b own nm cc nL none tb R post X) (hd : decode cc pc = .ok (.return_, 1)) (h1 : k ≤ R.cells) (h2 : n ≤ R.slots) (hp : post (.returned none) h) : X pc lo [] h k n := by
  obtain ⟨p, e, s, m, args, below, meth, c, rfl, hx, hb, hml, htb, hown, hts, hK, hlk, hr, hnm, hbs⟩ := C
  intro H locs ls hR hS hL
  refine W.widen h1 h2 (qw_mono (qx_fin (args := args) hbs hR hS hp) ?_)
  exact W.vret hx hb hr (fun t ht _ => ⟨rfl, ht⟩) hS.2.2 hd
theorem qx_aret {E : String} (C : qw_C l G b own nm cc nL (some (.object E)) tb R post X) {v : Value} (hd : decode cc pc = .ok (.areturn, 1)) (hv : v = .null ∨ ∃ a, v = .ref a) (h1 : k ≤ R.cells) (h2 : n ≤ R.slots) (hp : post (.returned (some v)) h) : X pc lo [v] h k n := by
  obtain ⟨p, e, s, m, args, below, meth, c, rfl, hx, hb, hml, htb, hown, hts, hK, hlk, hr, hnm, hbs⟩ := C
  intro H locs ls hR hS hL
  refine W.widen h1 h2 (qw_mono (qx_fin (args := args) hbs hR hS hp) ?_)
  exact W.aret hx hb hr (Or.inl ⟨_, rfl⟩) hv (fun t ht _ => ⟨rfl, ht⟩) hS.2.2 hd
theorem qx_objI (C : qw_C l G b own nm cc nL ret tb R post X) {a index : Nat} (hd : decode cc pc = .ok (.invokespecial index, 3)) (hw1 : Cond.methodLink own index Lib.objectInit ∈ qu_W) (hw2 : Cond.instanceMethod Lib.objectInit ∈ qu_W) (hw3 : Cond.code Lib.objectInit ⟨#[0xb1]⟩ 1 none ∈ qu_W) (hll : lo.length = nL) (h1 : 1 ≤ R.frames) (h2 : (st.map fun v => v.category).sum + 12 ≤ R.locals) (kk : X (pc + 3) lo st h k n) : X pc lo (.ref a :: st) h k n := by
  obtain ⟨p, e, s, m, args, below, meth, c, rfl, hx, hb, hml, htb, hown, hts, hK, hlk, hr, hnm, hbs⟩ := C
  intro H locs ls hR hS hL
  refine W.objInit hx hb hown (hts _ hw1) (hts _ hw2) (hts _ hw3) rfl (by rw [hml]; exact hL.1.trans hll) rfl hd h1 (by show 2 * 0 + _ + 12 ≤ _; omega) ?_
  exact kk H locs ls hR hS hL
end QXR
end
section
section QXC
variable {l : Launch} {G : qh_G} {b : Nat}
theorem qx_call {y : MethodName} {cY : ByteArray} {nY : Nat} {rY : Option FieldType} {rm : Room} {av : List Value} {h : qh_H} {pq : Outcome → qh_H → Prop}
    {p : Program} {e : Env} {R : Room} {s : State} {m : MethodId} {args : Array Value} {below : List Frame} {meth : Method} {c : Code} {T : State} {locs : List Loc} {k n : Nat}
    (X : Stand p l e R s m args below meth c T locs k n) (hM : qx_M l y (Cond.code y cY nY rY :: qu_W) rm G b av h pq)
    (hts : ∀ w ∈ qu_W, w.before args s = true) (hy : Cond.code y cY nY rY ∈ qu_W ∧ Cond.initialized y.cls ∈ qu_W) (hK : qw_K G s) (hR : qh_R G b h T.heap)
    {mk : MethodId} (hn : s.methodNamed? y = some mk)
    {g : JFrame} (hg : g.method = m) (hsize : g.locals.size = c.maxLocals) {ig : Instr} {len : Nat} (hdg : decode c.code g.pc = .ok (ig, len))
    (hW : 2 * g.monitorRoom + (g.stack.map fun v => v.category).sum ≤ 8) (hfr : rm.frames + 1 ≤ R.frames ∧ 8 + (nY + 11) + rm.locals ≤ R.locals ∧ k + rm.cells ≤ R.cells ∧ n + rm.slots ≤ R.slots) :
    ∃ (o : Outcome) (h' : qh_H) (T' : State) (L : List Loc), Stand p l e R s m args below meth c T' (locs ++ L) (k + rm.cells) (n + rm.slots) ∧ pq o h' ∧ qh_R G b h' T'.heap ∧ (T.heap.size ≤ T'.heap.size ∧ ∀ q : Nat, q < b → T'.heap[q]? = T.heap[q]?) ∧ (∀ q ∈ L, b ≤ q.base) ∧
      (∀ v, o = .returned v → Steps p.tables e below (doInvoke e (T.setTop g) [] mk av.toArray).1 (T'.setTop { g with pc := g.pc + len, stack := v.toList ++ g.stack })) ∧
      (∀ x, o = .threw x → Steps p.tables e below (doInvoke e (T.setTop g) [] mk av.toArray).1 ((T'.setTop g).pushFrame (.throwing x))) := by
  have hG : ∀ w ∈ (Cond.code y cY nY rY :: qu_W), w ∈ qu_W ∧ ((w.onTables && w.keeps) = true ∨ ∃ ty, w = .arrayClass ty) := by
    intro w hw
    rcases List.mem_cons.mp hw with rfl | hw
    · exact ⟨hy.1, qu_good _ hy.1⟩
    · exact ⟨hw, qu_good _ hw⟩
  have hws := pay_in hts hG
  have hnT : T.methodNamed? y = some mk := X.named hn
  obtain ⟨methY, cdY, hmY, hcY, -, hlY, -⟩ := Cond.code_spec hnT (hws _ List.mem_cons_self args T X.warmed)
  obtain ⟨kY, hkY, -⟩ := className_of_methodNamed hnT
  have hinitY : kY.init = .initialized := Cond.initialized_spec (findClass_of_methodNamed hnT) hkY (hws _ (List.mem_cons_of_mem _ hy.2) args T X.warmed)
  have h0 : At T g.method c below := by rw [hg]; exact X.here
  have hr1 := hfr.2.1
  have happ : (headSpec (Cond.code y cY nY rY :: qu_W) rm).appliesLoose y e.platform (T.calling g mk av.toArray) = true :=
    Spec.appliesLoose_calling (g := g) h0 hdg hnT hkY hinitY
      (X.room_calling (g := g) (R' := rm) hsize hmY hcY hfr.1 (by rw [hlY]; omega) hfr.2.2.1 hfr.2.2.2) (atoms_intro fun w hw => hws w hw _ _ X.warmed)
  obtain ⟨mid, hmid⟩ := h0.above
  have hfr' : (T.setTop g).frames = (.java g :: mid) ++ below := by rw [State.frames_setTop' g h0.top, hmid]; rfl
  obtain ⟨o, s₂, hsteps, -, hend, hq⟩ := Steps.callFree hM p X.admits X.cas X.clock (acts := []) hfr' happ ⟨rfl, hR, qw_K.same (s := T) (show T.vm = T.vm from rfl) (hK.warm X.warmed)⟩ trivial
  rw [State.frames_setTop' g h0.top, X.tail] at hend
  obtain ⟨h', L, hp, hR2, hW2, hz, hsame, hL⟩ := hq
  cases o with
  | returned v =>
    obtain ⟨T', X', -, -, ht⟩ := X.outOf hg hdg hend hW2 hsame
    have hh : T'.heap = s₂.heap := by rw [ht]; rfl
    exact ⟨_, h', T', L, X', hp, by rw [hh]; exact hR2, by rw [hh]; exact hz, hL, fun v' q => by cases q; rw [← ht]; exact hsteps, fun x q => by cases q⟩
  | threw x =>
    obtain ⟨T', X', -, -, ht⟩ := X.outOfThrown hg hend hW2 hsame
    have hh : T'.heap = s₂.heap := by rw [ht]; rfl
    exact ⟨_, h', T', L, X', hp, by rw [hh]; exact hR2, by rw [hh]; exact hz, hL, fun v' q => (by cases q), fun x' q => by cases q; rw [← ht]; exact hsteps⟩
/-- where a call stands: the step into the callee -/
def qx_Site (l : Launch) (G : qh_G) (own : String) (cc : ByteArray) (pc : Nat) (y : MethodName) (av rest : List Value) (h : qh_H) : Prop :=
  ∀ {p : Program} {e : Env} {R : Room} {s : State} {m : MethodId} {args : Array Value} {below : List Frame} {meth : Method} {c : Code} {T : State} {locs : List Loc} {k n : Nat}, Stand p l e R s m args below meth c T locs k n → p.tables.exec = Jvm.exec → c.code = cc → s.vm.findClass own = some m.cls → (∀ w ∈ qu_W, w.before args s = true) → qw_K G s → (∀ (a : Nat) (x : va_E), h a = some x → va_at G.1 qu_Cl (a, x) T.heap) → ∀ ls : Array Slot,
    ∃ (vm₁ : Vm) (mk : MethodId) (ig : Instr), Stand p l e R s m args below meth c (T.setVm vm₁) locs k n ∧ s.methodNamed? y = some mk ∧ decode cc pc = .ok (ig, 3) ∧ ∀ target, Steps p.tables e below (doInvoke e ((T.setVm vm₁).setTop (F0 m pc ls rest)) [] mk av.toArray).1 target → Steps p.tables e below (T.setTop (F0 m pc ls (av.reverse ++ rest))) target
variable {own nm : String} {cc : ByteArray} {nL : Nat} {ret : Option FieldType} {tb : List (Nat × Nat × Nat × Nat)} {R : Room} {post : Outcome → qh_H → Prop} {X : qw_T} {pc : Nat} {lo : List (Option Value)} {st : List Value} {h : qh_H} {k n : Nat}
theorem qx_run (C : qw_C l G b own nm cc nL ret tb R post X) {y : MethodName} {cY : ByteArray} {nY : Nat} {rY : Option FieldType} {rm : Room} {av rest : List Value} {pq : Outcome → qh_H → Prop}
    (hsite : qx_Site l G own cc pc y av rest h) (hM : qx_M l y (Cond.code y cY nY rY :: qu_W) rm G b av h pq) (hy : Cond.code y cY nY rY ∈ qu_W ∧ Cond.initialized y.cls ∈ qu_W)
    (hst : st = av.reverse ++ rest) (hll : lo.length = nL) (hro : (rest.map fun v => v.category).sum ≤ 8) (hfr : rm.frames + 1 ≤ R.frames ∧ 8 + (nY + 11) + rm.locals ≤ R.locals ∧ k + rm.cells ≤ R.cells ∧ n + rm.slots ≤ R.slots)
    (hno : ∀ (x : Addr) (h' : qh_H), pq (.threw x) h' → False) (kk : ∀ (v : Option Value) (h' : qh_H), pq (.returned v) h' → X (pc + 3) lo (v.toList ++ rest) h' (k + rm.cells) (n + rm.slots)) : X pc lo st h k n := by
  obtain ⟨p, e, s, m, args, below, meth, c, rfl, hx, hb, hml, htb, hown, hts, hK, hlk, hr, hnm, hbs⟩ := C
  intro H locs ls hR hS hL T hT XS
  subst hT
  obtain ⟨vm₁, mk, ig, X₁, hnamed, hd, hgo⟩ := hsite XS hx hb hown hts hK (fun a x hax => (hR.2 a x hax).2) ls
  obtain ⟨o, h', T', L, X', hp, hR', hz, hLb, hret, hthr⟩ := qx_call (g := F0 m pc ls rest) X₁ hM hts hy hK hR hnamed rfl (by show ls.size = _; rw [hml]; exact hL.1.trans hll) (by rw [hb]; exact hd) (lv_room hro) hfr
  have hS' : va_S (fun q => b ≤ q) s.heap T'.heap (locs ++ L) := ⟨Nat.le_trans hS.1 hz.1, fun q g1 g2 => (hz.2 q (Nat.not_le.mp g2)).trans (hS.2.1 q g1 g2), fun q hq => by
    rcases List.mem_append.mp hq with h9 | h9
    · exact hS.2.2 q h9
    · exact hLb q h9⟩
  cases o with
  | returned v =>
    obtain ⟨t, a1, b1⟩ := kk v h' hp T'.heap (locs ++ L) ls hR' hS' hL T' rfl X'
    subst hst
    exact ⟨t, hgo _ ((hret v rfl).trans a1), b1⟩
  | threw x => exact (hno x h' hp).elim
/-- an int comes back -/
theorem qx_runi (C : qw_C l G b own nm cc nL ret tb R post X) {y : MethodName} {cY : ByteArray} {nY : Nat} {rY : Option FieldType} {rm : Room} {av rest : List Value} {pq : Int32 → qh_H → Prop}
    (hsite : qx_Site l G own cc pc y av rest h) (hM : qx_M l y (Cond.code y cY nY rY :: qu_W) rm G b av h (fun o h' => ∃ r : Int32, o = .returned (some (.int r)) ∧ pq r h')) (hy : Cond.code y cY nY rY ∈ qu_W ∧ Cond.initialized y.cls ∈ qu_W)
    (hst : st = av.reverse ++ rest) (hll : lo.length = nL) (hro : (rest.map fun v => v.category).sum ≤ 8) (hfr : rm.frames + 1 ≤ R.frames ∧ 8 + (nY + 11) + rm.locals ≤ R.locals ∧ k + rm.cells ≤ R.cells ∧ n + rm.slots ≤ R.slots)
    (kk : ∀ (r : Int32) (h' : qh_H), pq r h' → X (pc + 3) lo (.int r :: rest) h' (k + rm.cells) (n + rm.slots)) : X pc lo st h k n :=
  qx_run C hsite hM hy hst hll hro hfr (fun x h' q => by obtain ⟨r, q1, -⟩ := q; cases q1) (fun v h' q => by obtain ⟨r, q1, q2⟩ := q; cases q1; exact kk r h' q2)
/-- nothing comes back -/
theorem qx_runv (C : qw_C l G b own nm cc nL ret tb R post X) {y : MethodName} {cY : ByteArray} {nY : Nat} {rY : Option FieldType} {rm : Room} {av rest : List Value} {pq : qh_H → Prop}
    (hsite : qx_Site l G own cc pc y av rest h) (hM : qx_M l y (Cond.code y cY nY rY :: qu_W) rm G b av h (fun o h' => o = .returned none ∧ pq h')) (hy : Cond.code y cY nY rY ∈ qu_W ∧ Cond.initialized y.cls ∈ qu_W)
    (hst : st = av.reverse ++ rest) (hll : lo.length = nL) (hro : (rest.map fun v => v.category).sum ≤ 8) (hfr : rm.frames + 1 ≤ R.frames ∧ 8 + (nY + 11) + rm.locals ≤ R.locals ∧ k + rm.cells ≤ R.cells ∧ n + rm.slots ≤ R.slots)
    (kk : ∀ h' : qh_H, pq h' → X (pc + 3) lo rest h' (k + rm.cells) (n + rm.slots)) : X pc lo st h k n :=
  qx_run C hsite hM hy hst hll hro hfr (fun x h' q => by cases q.1) (fun v h' q => by obtain ⟨q1, q2⟩ := q; cases q1; exact kk h' q2)
/-- an object or null comes back -/
theorem qx_runq (C : qw_C l G b own nm cc nL ret tb R post X) {y : MethodName} {cY : ByteArray} {nY : Nat} {rY : Option FieldType} {rm : Room} {av rest : List Value} {pq : Option Nat → qh_H → Prop}
    (hsite : qx_Site l G own cc pc y av rest h) (hM : qx_M l y (Cond.code y cY nY rY :: qu_W) rm G b av h (fun o h' => ∃ r : Option Nat, o = .returned (some (va_rf r)) ∧ pq r h')) (hy : Cond.code y cY nY rY ∈ qu_W ∧ Cond.initialized y.cls ∈ qu_W)
    (hst : st = av.reverse ++ rest) (hll : lo.length = nL) (hro : (rest.map fun v => v.category).sum ≤ 8) (hfr : rm.frames + 1 ≤ R.frames ∧ 8 + (nY + 11) + rm.locals ≤ R.locals ∧ k + rm.cells ≤ R.cells ∧ n + rm.slots ≤ R.slots)
    (kk : ∀ (r : Option Nat) (h' : qh_H), pq r h' → X (pc + 3) lo (va_rf r :: rest) h' (k + rm.cells) (n + rm.slots)) : X pc lo st h k n :=
  qx_run C hsite hM hy hst hll hro hfr (fun x h' q => by obtain ⟨r, q1, -⟩ := q; cases q1) (fun v h' q => by obtain ⟨r, q1, q2⟩ := q; cases q1; exact kk r h' q2)
/-- a callee that may throw, and no handler here: the throw goes on -/
theorem qx_runt (C : qw_C l G b own nm cc nL ret [] R post X) {y : MethodName} {cY : ByteArray} {nY : Nat} {rY : Option FieldType} {rm : Room} {av rest : List Value} {pq : Outcome → qh_H → Prop}
    (hsite : qx_Site l G own cc pc y av rest h) (hM : qx_M l y (Cond.code y cY nY rY :: qu_W) rm G b av h pq) (hy : Cond.code y cY nY rY ∈ qu_W ∧ Cond.initialized y.cls ∈ qu_W)
    (hst : st = av.reverse ++ rest) (hll : lo.length = nL) (hro : (rest.map fun v => v.category).sum ≤ 8) (hfr : rm.frames + 1 ≤ R.frames ∧ 8 + (nY + 11) + rm.locals ≤ R.locals ∧ k + rm.cells ≤ R.cells ∧ n + rm.slots ≤ R.slots)
    (hth : ∀ (x : Addr) (h' : qh_H), pq (.threw x) h' → post (.threw x) h') (kk : ∀ (v : Option Value) (h' : qh_H), pq (.returned v) h' → X (pc + 3) lo (v.toList ++ rest) h' (k + rm.cells) (n + rm.slots)) : X pc lo st h k n := by
  obtain ⟨p, e, s, m, args, below, meth, c, rfl, hx, hb, hml, htb, hown, hts, hK, hlk, hr, hnm, hbs⟩ := C
  intro H locs ls hR hS hL T hT XS
  subst hT
  obtain ⟨vm₁, mk, ig, X₁, hnamed, hd, hgo⟩ := hsite XS hx hb hown hts hK (fun a x hax => (hR.2 a x hax).2) ls
  obtain ⟨o, h', T', L, X', hp, hR', hz, hLb, hret, hthr⟩ := qx_call (g := F0 m pc ls rest) X₁ hM hts hy hK hR hnamed rfl (by show ls.size = _; rw [hml]; exact hL.1.trans hll) (by rw [hb]; exact hd) (lv_room hro) hfr
  have hS' : va_S (fun q => b ≤ q) s.heap T'.heap (locs ++ L) := ⟨Nat.le_trans hS.1 hz.1, fun q g1 g2 => (hz.2 q (Nat.not_le.mp g2)).trans (hS.2.1 q g1 g2), fun q hq => by
    rcases List.mem_append.mp hq with h9 | h9
    · exact hS.2.2 q h9
    · exact hLb q h9⟩
  cases o with
  | returned v =>
    obtain ⟨t, a1, b1⟩ := kk v h' hp T'.heap (locs ++ L) ls hR' hS' hL T' rfl X'
    subst hst
    exact ⟨t, hgo _ ((hret v rfl).trans a1), b1⟩
  | threw x =>
    have X2 := stand_widen X' hfr.2.2.1 hfr.2.2.2
    have htb0 : ∀ z ∈ c.exceptionTable.toList, covers z (F0 m pc ls rest).pc = false := by
      intro z hz9
      have h9 := List.map_eq_nil_iff.mp htb
      rw [h9] at hz9
      cases hz9
    obtain ⟨l1, l2, l3, l4, l5⟩ := X2.leaveThrown x (g := F0 m pc ls rest) rfl rfl rfl htb0 hlk
    subst hst
    refine ⟨_, hgo _ ((hthr x rfl).trans l1), .threw x, h', locs ++ L, l2, l3, hth x h' hp, hR', l4, ⟨Nat.le_trans hS.1 hz.1, fun q hq => ?_⟩, l5, hS'.2.2⟩
    exact (hz.2 q hq).trans (hS.2.1 q (Nat.lt_of_lt_of_le hq hbs) (Nat.not_le.mpr hq))
/-! the sites: virtual, static, constructor; plain or of a nest mate -/
theorem qx_siteV {y : MethodName} {cY : ByteArray} {nY : Nat} {rY : Option FieldType} {E : String} {T0 : u_T} {N0 index ci b0 : Nat} {fs As rest : List Value} (hd : decode cc pc = .ok (.invokevirtual index, 3)) (hw1 : Cond.methodLink own index y ∈ qu_W) (hw2 : Cond.instanceMethod y ∈ qu_W) (hw3 : Cond.selects E y y ∈ qu_W) (hw4 : Cond.code y cY nY rY ∈ qu_W) (hy : y.cls ≠ "java/lang/invoke/MethodHandle" ∧ y.cls ≠ "java/lang/invoke/VarHandle") (hcl : qu_Cl[ci]? = some (E, T0, N0)) (hn : (parseMethodDescriptor y.desc).map (fun d => d.parameters.length) = some As.length) (hb0 : h b0 = some (.inr (ci, fs))) : qx_Site l G own cc pc y (.ref b0 :: As) rest h := by
  intro p e R s m args below meth c T locs k n X hx hb hown hts hK hat ls
  obtain ⟨mk, methM, hnamed, hmethM, hstM, habM⟩ := Cond.instanceMethod_spec (hts _ hw2)
  obtain ⟨methM', cM, hmethM', -, -, -, -, -, -, hsigM⟩ := Cond.code_spec hnamed (hts _ hw4)
  cases hmethM.symm.trans hmethM'
  obtain ⟨c2, r2, m2, q1, q2, q3, q4, kP, hkP, hkPi⟩ := Cond.selects_spec (hts _ hw3)
  obtain ⟨r, g0, cellB, g1, g2, g3, -⟩ := hat b0 _ hb0
  have hcls : s.vm.findClass E = some cellB.cls := by rw [g2]; exact (hK.1.1 ci _ hcl).2.1
  cases hcls.symm.trans q1
  cases (State.methodFound?_of_named hnamed hy).symm.trans q2
  cases hnamed.symm.trans q3
  have hselP : selectMethod e.platform s.vm cellB.cls mk = .method mk := by rw [Launch.admits_selectMethod X.admits]; exact q4
  have hlen : As.length = methM.sig.parameters.length := by rw [hsigM] at hn; exact (Option.some.inj hn).symm
  obtain ⟨vm₁, X₁, hstep₁⟩ := X.invokevirtual hx hown (hts _ hw1) hnamed hmethM hstM hkP hkPi hy (a := b0) (cell := cellB) g1 (fun z q => by rw [g3] at q; cases q) hselP hmethM habM hkP hkPi (g := F0 m pc ls ((Value.ref b0 :: As).reverse ++ rest)) rfl (argsL := As) (rest := rest) hlen (by simp) (by rw [hb]; exact hd)
  exact ⟨vm₁, mk, .invokevirtual index, X₁, hnamed, hd, fun target q => hstep₁ _ fun acts => by rw [doInvoke_state]; exact q⟩
theorem qx_siteVN {y : MethodName} {cY : ByteArray} {nY : Nat} {rY : Option FieldType} {E : String} {T0 : u_T} {N0 index ci b0 : Nat} {fs As rest : List Value} {host : String} (hd : decode cc pc = .ok (.invokevirtual index, 3)) (hw1 : Cond.methodLinkNest own index y host ∈ qu_Mn) (hw2 : Cond.instanceMethod y ∈ qu_W) (hw3 : Cond.selects E y y ∈ qu_W) (hw4 : Cond.code y cY nY rY ∈ qu_W) (hy : y.cls ≠ "java/lang/invoke/MethodHandle" ∧ y.cls ≠ "java/lang/invoke/VarHandle") (hcl : qu_Cl[ci]? = some (E, T0, N0)) (hn : (parseMethodDescriptor y.desc).map (fun d => d.parameters.length) = some As.length) (hb0 : h b0 = some (.inr (ci, fs))) : qx_Site l G own cc pc y (.ref b0 :: As) rest h := by
  intro p e R s m args below meth c T locs k n X hx hb hown hts hK hat ls
  obtain ⟨_, _, _, _, hl0, hl1⟩ := hK.2.1 _ hw1
  cases hl0
  obtain ⟨mk, methM, hnamed, hmethM, hstM, habM⟩ := Cond.instanceMethod_spec (hts _ hw2)
  obtain ⟨methM', cM, hmethM', -, -, -, -, -, -, hsigM⟩ := Cond.code_spec hnamed (hts _ hw4)
  cases hmethM.symm.trans hmethM'
  obtain ⟨c2, r2, m2, q1, q2, q3, q4, kP, hkP, hkPi⟩ := Cond.selects_spec (hts _ hw3)
  obtain ⟨r, g0, cellB, g1, g2, g3, -⟩ := hat b0 _ hb0
  have hcls : s.vm.findClass E = some cellB.cls := by rw [g2]; exact (hK.1.1 ci _ hcl).2.1
  cases hcls.symm.trans q1
  cases (State.methodFound?_of_named hnamed hy).symm.trans q2
  cases hnamed.symm.trans q3
  have hselP : selectMethod e.platform s.vm cellB.cls mk = .method mk := by rw [Launch.admits_selectMethod X.admits]; exact q4
  have hlen : As.length = methM.sig.parameters.length := by rw [hsigM] at hn; exact (Option.some.inj hn).symm
  obtain ⟨vm₁, X₁, hstep₁⟩ := X.invokevirtualNest hx hown (va_Nw.use (A := args) rfl hl1) hnamed hmethM hstM hkP hkPi hy (a := b0) (cell := cellB) g1 (fun z q => by rw [g3] at q; cases q) hselP hmethM habM hkP hkPi (g := F0 m pc ls ((Value.ref b0 :: As).reverse ++ rest)) rfl (argsL := As) (rest := rest) hlen (by simp) (by rw [hb]; exact hd)
  exact ⟨vm₁, mk, .invokevirtual index, X₁, hnamed, hd, fun target q => hstep₁ _ fun acts => by rw [doInvoke_state]; exact q⟩
theorem qx_siteS {y : MethodName} {cY : ByteArray} {nY : Nat} {rY : Option FieldType} {index : Nat} {As rest : List Value} (hd : decode cc pc = .ok (.invokestatic index, 3)) (hw1 : Cond.methodLink own index y ∈ qu_W) (hw2 : Cond.static y ∈ qu_W) (hw3 : Cond.initialized y.cls ∈ qu_W) (hw4 : Cond.code y cY nY rY ∈ qu_W) (hy : y.cls ≠ "java/lang/invoke/MethodHandle" ∧ y.cls ≠ "java/lang/invoke/VarHandle") (hn : (parseMethodDescriptor y.desc).map (fun d => d.parameters.length) = some As.length) : qx_Site l G own cc pc y As rest h := by
  intro p e R s m args below meth c T locs k n X hx hb hown hts hK hat ls
  obtain ⟨mk, hnamed⟩ := Cond.code_named (hts _ hw4)
  obtain ⟨methM, cM, hmethM, -, -, -, -, -, -, hsigM⟩ := Cond.code_spec hnamed (hts _ hw4)
  have hstatic : methM.isStatic = true := Cond.static_spec hnamed hmethM (hts _ hw2)
  obtain ⟨kP, hkP, -⟩ := className_of_methodNamed hnamed
  have hinitP : kP.init = .initialized := Cond.initialized_spec (findClass_of_methodNamed hnamed) hkP (hts _ hw3)
  have hlen : As.length = methM.sig.parameters.length := by rw [hsigM] at hn; exact (Option.some.inj hn).symm
  obtain ⟨vm₁, X₁, hstep₁⟩ := X.invokestatic hx hown (hts _ hw1) hnamed hmethM hstatic hkP hinitP hy (g := F0 m pc ls (As.reverse ++ rest)) rfl (argsL := As) (rest := rest) hlen rfl (by rw [hb]; exact hd)
  exact ⟨vm₁, mk, .invokestatic index, X₁, hnamed, hd, fun target q => hstep₁ _ fun acts => by rw [doInvoke_state]; exact q⟩
theorem qx_siteSN {y : MethodName} {cY : ByteArray} {nY : Nat} {rY : Option FieldType} {index : Nat} {As rest : List Value} {host : String} (hd : decode cc pc = .ok (.invokestatic index, 3)) (hw1 : Cond.methodLinkNest own index y host ∈ qu_Mn) (hw2 : Cond.static y ∈ qu_W) (hw3 : Cond.initialized y.cls ∈ qu_W) (hw4 : Cond.code y cY nY rY ∈ qu_W) (hy : y.cls ≠ "java/lang/invoke/MethodHandle" ∧ y.cls ≠ "java/lang/invoke/VarHandle") (hn : (parseMethodDescriptor y.desc).map (fun d => d.parameters.length) = some As.length) : qx_Site l G own cc pc y As rest h := by
  intro p e R s m args below meth c T locs k n X hx hb hown hts hK hat ls
  obtain ⟨_, _, _, _, hl0, hl1⟩ := hK.2.1 _ hw1
  cases hl0
  obtain ⟨mk, hnamed⟩ := Cond.code_named (hts _ hw4)
  obtain ⟨methM, cM, hmethM, -, -, -, -, -, -, hsigM⟩ := Cond.code_spec hnamed (hts _ hw4)
  have hstatic : methM.isStatic = true := Cond.static_spec hnamed hmethM (hts _ hw2)
  obtain ⟨kP, hkP, -⟩ := className_of_methodNamed hnamed
  have hinitP : kP.init = .initialized := Cond.initialized_spec (findClass_of_methodNamed hnamed) hkP (hts _ hw3)
  have hlen : As.length = methM.sig.parameters.length := by rw [hsigM] at hn; exact (Option.some.inj hn).symm
  obtain ⟨vm₁, X₁, hstep₁⟩ := X.invokestaticNest hx hown (va_Nw.use (A := args) rfl hl1) hnamed hmethM hstatic hkP hinitP hy (g := F0 m pc ls (As.reverse ++ rest)) rfl (argsL := As) (rest := rest) hlen rfl (by rw [hb]; exact hd)
  exact ⟨vm₁, mk, .invokestatic index, X₁, hnamed, hd, fun target q => hstep₁ _ fun acts => by rw [doInvoke_state]; exact q⟩
theorem qx_siteI {y : MethodName} {cY : ByteArray} {nY : Nat} {index b0 : Nat} {As rest : List Value} (hd : decode cc pc = .ok (.invokespecial index, 3)) (hy1 : y.name = "<init>") (hw1 : Cond.methodLink own index y ∈ qu_W) (hw2 : Cond.instanceMethod y ∈ qu_W) (hw4 : Cond.code y cY nY none ∈ qu_W) (hy : y.cls ≠ "java/lang/invoke/MethodHandle" ∧ y.cls ≠ "java/lang/invoke/VarHandle") (hn : (parseMethodDescriptor y.desc).map (fun d => d.parameters.length) = some As.length) : qx_Site l G own cc pc y (.ref b0 :: As) rest h := by
  intro p e R s m args below meth c T locs k n X hx hb hown hts hK hat ls
  have hpl : e.platform.magicAccessors = ({} : Platform).magicAccessors := by rw [X.admits.platform]
  obtain ⟨mk, methM, cM, kP, vm₁, hnamed, hmethM, hcodeM, -, hlocalsM, -, hkP, -, hW₁, hstep₁⟩ := Steps.initColdArgs (e := e) X.here hx X.warmed hpl hown hy1 hy (hts _ hw1) (hts _ hw2) (hts _ hw4) (f := F0 m pc ls ((Value.ref b0 :: As).reverse ++ rest)) rfl (a := b0) (argsL := As) (rest := rest) (fun sig q => by rw [q] at hn; exact (Option.some.inj hn).symm) (by simp) (by rw [hb]; exact hd)
  exact ⟨vm₁, mk, .invokespecial index, X.noted hW₁, hnamed, hd, fun target q => hstep₁ _ fun acts => by rw [doInvoke_state]; exact q⟩
theorem qx_siteIN {y : MethodName} {cY : ByteArray} {nY : Nat} {index b0 : Nat} {As rest : List Value} {host : String} (hd : decode cc pc = .ok (.invokespecial index, 3)) (hy1 : y.name = "<init>") (hw1 : Cond.methodLinkNest own index y host ∈ qu_Mn) (hw2 : Cond.instanceMethod y ∈ qu_W) (hw4 : Cond.code y cY nY none ∈ qu_W) (hy : y.cls ≠ "java/lang/invoke/MethodHandle" ∧ y.cls ≠ "java/lang/invoke/VarHandle") (hn : (parseMethodDescriptor y.desc).map (fun d => d.parameters.length) = some As.length) : qx_Site l G own cc pc y (.ref b0 :: As) rest h := by
  intro p e R s m args below meth c T locs k n X hx hb hown hts hK hat ls
  obtain ⟨_, _, _, _, hl0, hl1⟩ := hK.2.1 _ hw1
  cases hl0
  have hpl : e.platform.magicAccessors = ({} : Platform).magicAccessors := by rw [X.admits.platform]
  obtain ⟨mk, methM, cM, kP, vm₁, hnamed, hmethM, hcodeM, -, hlocalsM, -, hkP, -, hW₁, hstep₁⟩ := Steps.initColdArgsNest (e := e) X.here hx X.warmed hpl hown hy1 hy (va_Nw.use (A := args) rfl hl1) (hts _ hw2) (hts _ hw4) (f := F0 m pc ls ((Value.ref b0 :: As).reverse ++ rest)) rfl (a := b0) (argsL := As) (rest := rest) (fun sig q => by rw [q] at hn; exact (Option.some.inj hn).symm) (by simp) (by rw [hb]; exact hd)
  exact ⟨vm₁, mk, .invokespecial index, X.noted hW₁, hnamed, hd, fun target q => hstep₁ _ fun acts => by rw [doInvoke_state]; exact q⟩
end QXC
end
section
/-! ints by an integer -/
def iI (a : Int) : Int32 := Int32.ofInt a
abbrev rng (a : Int) : Prop := -2147483648 ≤ a ∧ a < 2147483648
theorem iI_toInt {a : Int} (h : rng a) : (iI a).toInt = a := Int32.toInt_ofInt_of_le h.1 h.2
theorem iI_of (x : Int32) : iI x.toInt = x := Int32.ofInt_toInt x
theorem rng_of (x : Int32) : rng x.toInt := ⟨Int32.le_toInt x, Int32.toInt_lt x⟩
theorem iI_ex (x : Int32) : ∃ a : Int, rng a ∧ x = iI a := ⟨x.toInt, rng_of x, (iI_of x).symm⟩
theorem iI_add (a b : Int) : iI a + iI b = iI (a + b) := (Int32.ofInt_add a b).symm
theorem iI_sub (a b : Int) : iI a - iI b = iI (a - b) := (Int32.ofInt_sub a b).symm
theorem iI_mul (a b : Int) : iI a * iI b = iI (a * b) := (Int32.ofInt_mul a b).symm
theorem iI_lt {a b : Int} (ha : rng a) (hb : rng b) : iI a < iI b ↔ a < b := by
  rw [Int32.lt_iff_toInt_lt, iI_toInt ha, iI_toInt hb]
theorem iI_le {a b : Int} (ha : rng a) (hb : rng b) : iI a ≤ iI b ↔ a ≤ b := by
  rw [Int32.le_iff_toInt_le, iI_toInt ha, iI_toInt hb]
theorem iI_eq {a b : Int} (ha : rng a) (hb : rng b) : iI a = iI b ↔ a = b := by
  constructor
  · intro h
    have := congrArg Int32.toInt h
    rwa [iI_toInt ha, iI_toInt hb] at this
  · rintro rfl; rfl
theorem iI_nat (n : Nat) : nI n = iI n := by
  apply Int32.toBitVec_inj.1
  show BitVec.ofNat 32 n = BitVec.ofInt 32 n
  simp
theorem iI_clamp {a : Int} (h0 : 0 ≤ a) (h1 : a < 2147483648) : (iI a).toNatClampNeg = a.toNat := by
  obtain ⟨n, rfl⟩ := Int.eq_ofNat_of_zero_le h0
  rw [← iI_nat, nI_clamp (by omega)]
  rfl
theorem iI_in {a : Int} {N : Nat} (h0 : 0 ≤ a) (h1 : a < N) (hN : N < 2147483648) : vp_in (iI a) N := by
  obtain ⟨n, rfl⟩ := Int.eq_ofNat_of_zero_le h0
  rw [← iI_nat]
  exact vp_in_nI (by omega) (by omega)
end
section
theorem d_R_init_0 : decode c_R_init 0 = .ok (.aload_n 0, 1) := by decide +kernel
theorem d_R_init_1 : decode c_R_init 1 = .ok (.invokespecial 3, 3) := by decide +kernel
theorem d_R_init_4 : decode c_R_init 4 = .ok (.aload_n 0, 1) := by decide +kernel
theorem d_R_init_5 : decode c_R_init 5 = .ok (.bipush (60), 2) := by decide +kernel
theorem d_R_init_7 : decode c_R_init 7 = .ok (.newarray .int, 2) := by decide +kernel
theorem d_R_init_9 : decode c_R_init 9 = .ok (.putfield 9, 3) := by decide +kernel
theorem d_R_init_12 : decode c_R_init 12 = .ok (.aload_n 0, 1) := by decide +kernel
theorem d_R_init_13 : decode c_R_init 13 = .ok (.bipush (60), 2) := by decide +kernel
theorem d_R_init_15 : decode c_R_init 15 = .ok (.newarray .int, 2) := by decide +kernel
theorem d_R_init_17 : decode c_R_init 17 = .ok (.putfield 15, 3) := by decide +kernel
theorem d_R_init_20 : decode c_R_init 20 = .ok (.aload_n 0, 1) := by decide +kernel
theorem d_R_init_21 : decode c_R_init 21 = .ok (.bipush (60), 2) := by decide +kernel
theorem d_R_init_23 : decode c_R_init 23 = .ok (.newarray .int, 2) := by decide +kernel
theorem d_R_init_25 : decode c_R_init 25 = .ok (.putfield 18, 3) := by decide +kernel
theorem d_R_init_28 : decode c_R_init 28 = .ok (.aload_n 0, 1) := by decide +kernel
theorem d_R_init_29 : decode c_R_init 29 = .ok (.bipush (60), 2) := by decide +kernel
theorem d_R_init_31 : decode c_R_init 31 = .ok (.newarray .int, 2) := by decide +kernel
theorem d_R_init_33 : decode c_R_init 33 = .ok (.putfield 21, 3) := by decide +kernel
theorem d_R_init_36 : decode c_R_init 36 = .ok (.aload_n 0, 1) := by decide +kernel
theorem d_R_init_37 : decode c_R_init 37 = .ok (.bipush (60), 2) := by decide +kernel
theorem d_R_init_39 : decode c_R_init 39 = .ok (.newarray .int, 2) := by decide +kernel
theorem d_R_init_41 : decode c_R_init 41 = .ok (.putfield 24, 3) := by decide +kernel
theorem d_R_init_44 : decode c_R_init 44 = .ok (.return_, 1) := by decide +kernel
theorem d_N_init_0 : decode c_N_init 0 = .ok (.aload_n 0, 1) := by decide +kernel
theorem d_N_init_1 : decode c_N_init 1 = .ok (.invokespecial 1, 3) := by decide +kernel
theorem d_N_init_4 : decode c_N_init 4 = .ok (.aload_n 0, 1) := by decide +kernel
theorem d_N_init_5 : decode c_N_init 5 = .ok (.iload_n 1, 1) := by decide +kernel
theorem d_N_init_6 : decode c_N_init 6 = .ok (.putfield 7, 3) := by decide +kernel
theorem d_N_init_9 : decode c_N_init 9 = .ok (.aload_n 0, 1) := by decide +kernel
theorem d_N_init_10 : decode c_N_init 10 = .ok (.iload_n 2, 1) := by decide +kernel
theorem d_N_init_11 : decode c_N_init 11 = .ok (.putfield 13, 3) := by decide +kernel
theorem d_N_init_14 : decode c_N_init 14 = .ok (.aload_n 0, 1) := by decide +kernel
theorem d_N_init_15 : decode c_N_init 15 = .ok (.iload_n 3, 1) := by decide +kernel
theorem d_N_init_16 : decode c_N_init 16 = .ok (.putfield 16, 3) := by decide +kernel
theorem d_N_init_19 : decode c_N_init 19 = .ok (.aload_n 0, 1) := by decide +kernel
theorem d_N_init_20 : decode c_N_init 20 = .ok (.aload 4, 2) := by decide +kernel
theorem d_N_init_22 : decode c_N_init 22 = .ok (.putfield 19, 3) := by decide +kernel
theorem d_N_init_25 : decode c_N_init 25 = .ok (.return_, 1) := by decide +kernel
theorem d_S_init_0 : decode c_S_init 0 = .ok (.aload_n 0, 1) := by decide +kernel
theorem d_S_init_1 : decode c_S_init 1 = .ok (.invokespecial 3, 3) := by decide +kernel
theorem d_S_init_4 : decode c_S_init 4 = .ok (.aload_n 0, 1) := by decide +kernel
theorem d_S_init_5 : decode c_S_init 5 = .ok (.iconst 5, 1) := by decide +kernel
theorem d_S_init_6 : decode c_S_init 6 = .ok (.newarray .int, 2) := by decide +kernel
theorem d_S_init_8 : decode c_S_init 8 = .ok (.putfield 9, 3) := by decide +kernel
theorem d_S_init_11 : decode c_S_init 11 = .ok (.aload_n 0, 1) := by decide +kernel
theorem d_S_init_12 : decode c_S_init 12 = .ok (.iconst 5, 1) := by decide +kernel
theorem d_S_init_13 : decode c_S_init 13 = .ok (.newarray .int, 2) := by decide +kernel
theorem d_S_init_15 : decode c_S_init 15 = .ok (.putfield 15, 3) := by decide +kernel
theorem d_S_init_18 : decode c_S_init 18 = .ok (.aload_n 0, 1) := by decide +kernel
theorem d_S_init_19 : decode c_S_init 19 = .ok (.iconst 5, 1) := by decide +kernel
theorem d_S_init_20 : decode c_S_init 20 = .ok (.newarray .int, 2) := by decide +kernel
theorem d_S_init_22 : decode c_S_init 22 = .ok (.putfield 18, 3) := by decide +kernel
theorem d_S_init_25 : decode c_S_init 25 = .ok (.aload_n 0, 1) := by decide +kernel
theorem d_S_init_26 : decode c_S_init 26 = .ok (.iconst 1, 1) := by decide +kernel
theorem d_S_init_27 : decode c_S_init 27 = .ok (.putfield 21, 3) := by decide +kernel
theorem d_S_init_30 : decode c_S_init 30 = .ok (.aload_n 0, 1) := by decide +kernel
theorem d_S_init_31 : decode c_S_init 31 = .ok (.iconst (-1), 1) := by decide +kernel
theorem d_S_init_32 : decode c_S_init 32 = .ok (.putfield 25, 3) := by decide +kernel
theorem d_S_init_35 : decode c_S_init 35 = .ok (.aload_n 0, 1) := by decide +kernel
theorem d_S_init_36 : decode c_S_init 36 = .ok (.iconst 0, 1) := by decide +kernel
theorem d_S_init_37 : decode c_S_init 37 = .ok (.putfield 29, 3) := by decide +kernel
theorem d_S_init_40 : decode c_S_init 40 = .ok (.aload_n 0, 1) := by decide +kernel
theorem d_S_init_41 : decode c_S_init 41 = .ok (.iload_n 1, 1) := by decide +kernel
theorem d_S_init_42 : decode c_S_init 42 = .ok (.putfield 32, 3) := by decide +kernel
theorem d_S_init_45 : decode c_S_init 45 = .ok (.aload_n 0, 1) := by decide +kernel
theorem d_S_init_46 : decode c_S_init 46 = .ok (.new 35, 3) := by decide +kernel
theorem d_S_init_49 : decode c_S_init 49 = .ok (.dup, 1) := by decide +kernel
theorem d_S_init_50 : decode c_S_init 50 = .ok (.aload_n 2, 1) := by decide +kernel
theorem d_S_init_51 : decode c_S_init 51 = .ok (.invokespecial 37, 3) := by decide +kernel
theorem d_S_init_54 : decode c_S_init 54 = .ok (.putfield 40, 3) := by decide +kernel
theorem d_S_init_57 : decode c_S_init 57 = .ok (.return_, 1) := by decide +kernel
theorem d_L_init_0 : decode c_L_init 0 = .ok (.aload_n 0, 1) := by decide +kernel
theorem d_L_init_1 : decode c_L_init 1 = .ok (.invokespecial 3, 3) := by decide +kernel
theorem d_L_init_4 : decode c_L_init 4 = .ok (.aload_n 0, 1) := by decide +kernel
theorem d_L_init_5 : decode c_L_init 5 = .ok (.bipush (48), 2) := by decide +kernel
theorem d_L_init_7 : decode c_L_init 7 = .ok (.anewarray 9, 3) := by decide +kernel
theorem d_L_init_10 : decode c_L_init 10 = .ok (.putfield 11, 3) := by decide +kernel
theorem d_L_init_13 : decode c_L_init 13 = .ok (.aload_n 0, 1) := by decide +kernel
theorem d_L_init_14 : decode c_L_init 14 = .ok (.aload_n 1, 1) := by decide +kernel
theorem d_L_init_15 : decode c_L_init 15 = .ok (.putfield 17, 3) := by decide +kernel
theorem d_L_init_18 : decode c_L_init 18 = .ok (.return_, 1) := by decide +kernel
theorem d_W_init_0 : decode c_W_init 0 = .ok (.aload_n 0, 1) := by decide +kernel
theorem d_W_init_1 : decode c_W_init 1 = .ok (.invokespecial 3, 3) := by decide +kernel
theorem d_W_init_4 : decode c_W_init 4 = .ok (.aload_n 0, 1) := by decide +kernel
theorem d_W_init_5 : decode c_W_init 5 = .ok (.bipush (49), 2) := by decide +kernel
theorem d_W_init_7 : decode c_W_init 7 = .ok (.anewarray 9, 3) := by decide +kernel
theorem d_W_init_10 : decode c_W_init 10 = .ok (.putfield 11, 3) := by decide +kernel
theorem d_W_init_13 : decode c_W_init 13 = .ok (.iconst 0, 1) := by decide +kernel
theorem d_W_init_14 : decode c_W_init 14 = .ok (.istore_n 2, 1) := by decide +kernel
theorem d_W_init_15 : decode c_W_init 15 = .ok (.iload_n 2, 1) := by decide +kernel
theorem d_W_init_16 : decode c_W_init 16 = .ok (.aload_n 0, 1) := by decide +kernel
theorem d_W_init_17 : decode c_W_init 17 = .ok (.getfield 11, 3) := by decide +kernel
theorem d_W_init_20 : decode c_W_init 20 = .ok (.arraylength, 1) := by decide +kernel
theorem d_W_init_21 : decode c_W_init 21 = .ok (.if_icmp .ge (23), 3) := by decide +kernel
theorem d_W_init_24 : decode c_W_init 24 = .ok (.aload_n 0, 1) := by decide +kernel
theorem d_W_init_25 : decode c_W_init 25 = .ok (.getfield 11, 3) := by decide +kernel
theorem d_W_init_28 : decode c_W_init 28 = .ok (.iload_n 2, 1) := by decide +kernel
theorem d_W_init_29 : decode c_W_init 29 = .ok (.new 9, 3) := by decide +kernel
theorem d_W_init_32 : decode c_W_init 32 = .ok (.dup, 1) := by decide +kernel
theorem d_W_init_33 : decode c_W_init 33 = .ok (.aload_n 1, 1) := by decide +kernel
theorem d_W_init_34 : decode c_W_init 34 = .ok (.invokespecial 17, 3) := by decide +kernel
theorem d_W_init_37 : decode c_W_init 37 = .ok (.aastore, 1) := by decide +kernel
theorem d_W_init_38 : decode c_W_init 38 = .ok (.iinc 2 (1), 3) := by decide +kernel
theorem d_W_init_41 : decode c_W_init 41 = .ok (.goto (-26), 3) := by decide +kernel
theorem d_W_init_44 : decode c_W_init 44 = .ok (.aload_n 0, 1) := by decide +kernel
theorem d_W_init_45 : decode c_W_init 45 = .ok (.new 9, 3) := by decide +kernel
theorem d_W_init_48 : decode c_W_init 48 = .ok (.dup, 1) := by decide +kernel
theorem d_W_init_49 : decode c_W_init 49 = .ok (.aload_n 1, 1) := by decide +kernel
theorem d_W_init_50 : decode c_W_init 50 = .ok (.invokespecial 17, 3) := by decide +kernel
theorem d_W_init_53 : decode c_W_init 53 = .ok (.putfield 20, 3) := by decide +kernel
theorem d_W_init_56 : decode c_W_init 56 = .ok (.return_, 1) := by decide +kernel
theorem d_M_init_0 : decode c_M_init 0 = .ok (.aload_n 0, 1) := by decide +kernel
theorem d_M_init_1 : decode c_M_init 1 = .ok (.invokespecial 3, 3) := by decide +kernel
theorem d_M_init_4 : decode c_M_init 4 = .ok (.aload_n 0, 1) := by decide +kernel
theorem d_M_init_5 : decode c_M_init 5 = .ok (.iconst 2, 1) := by decide +kernel
theorem d_M_init_6 : decode c_M_init 6 = .ok (.anewarray 9, 3) := by decide +kernel
theorem d_M_init_9 : decode c_M_init 9 = .ok (.putfield 11, 3) := by decide +kernel
theorem d_M_init_12 : decode c_M_init 12 = .ok (.aload_n 0, 1) := by decide +kernel
theorem d_M_init_13 : decode c_M_init 13 = .ok (.aload_n 1, 1) := by decide +kernel
theorem d_M_init_14 : decode c_M_init 14 = .ok (.putfield 17, 3) := by decide +kernel
theorem d_M_init_17 : decode c_M_init 17 = .ok (.return_, 1) := by decide +kernel
theorem d_S_mayAsk_0 : decode c_S_mayAsk 0 = .ok (.aload_n 0, 1) := by decide +kernel
theorem d_S_mayAsk_1 : decode c_S_mayAsk 1 = .ok (.getfield 21, 3) := by decide +kernel
theorem d_S_mayAsk_4 : decode c_S_mayAsk 4 = .ok (.ifCond .eq (44), 3) := by decide +kernel
theorem d_S_mayAsk_7 : decode c_S_mayAsk 7 = .ok (.aload_n 0, 1) := by decide +kernel
theorem d_S_mayAsk_8 : decode c_S_mayAsk 8 = .ok (.getfield 29, 3) := by decide +kernel
theorem d_S_mayAsk_11 : decode c_S_mayAsk 11 = .ok (.iconst 3, 1) := by decide +kernel
theorem d_S_mayAsk_12 : decode c_S_mayAsk 12 = .ok (.if_icmp .eq (36), 3) := by decide +kernel
theorem d_S_mayAsk_15 : decode c_S_mayAsk 15 = .ok (.aload_n 0, 1) := by decide +kernel
theorem d_S_mayAsk_16 : decode c_S_mayAsk 16 = .ok (.getfield 40, 3) := by decide +kernel
theorem d_S_mayAsk_19 : decode c_S_mayAsk 19 = .ok (.invokevirtual 44, 3) := by decide +kernel
theorem d_S_mayAsk_22 : decode c_S_mayAsk 22 = .ok (.aload_n 0, 1) := by decide +kernel
theorem d_S_mayAsk_23 : decode c_S_mayAsk 23 = .ok (.getfield 32, 3) := by decide +kernel
theorem d_S_mayAsk_26 : decode c_S_mayAsk 26 = .ok (.invokestatic 48, 3) := by decide +kernel
theorem d_S_mayAsk_29 : decode c_S_mayAsk 29 = .ok (.ifCond .eq (19), 3) := by decide +kernel
theorem d_S_mayAsk_32 : decode c_S_mayAsk 32 = .ok (.aload_n 0, 1) := by decide +kernel
theorem d_S_mayAsk_33 : decode c_S_mayAsk 33 = .ok (.getfield 40, 3) := by decide +kernel
theorem d_S_mayAsk_36 : decode c_S_mayAsk 36 = .ok (.getfield 52, 3) := by decide +kernel
theorem d_S_mayAsk_39 : decode c_S_mayAsk 39 = .ok (.bipush (40), 2) := by decide +kernel
theorem d_S_mayAsk_41 : decode c_S_mayAsk 41 = .ok (.if_icmp .ge (7), 3) := by decide +kernel
theorem d_S_mayAsk_44 : decode c_S_mayAsk 44 = .ok (.iconst 1, 1) := by decide +kernel
theorem d_S_mayAsk_45 : decode c_S_mayAsk 45 = .ok (.goto (4), 3) := by decide +kernel
theorem d_S_mayAsk_48 : decode c_S_mayAsk 48 = .ok (.iconst 0, 1) := by decide +kernel
theorem d_S_mayAsk_49 : decode c_S_mayAsk 49 = .ok (.ireturn, 1) := by decide +kernel
theorem d_L_configuration_0 : decode c_L_configuration 0 = .ok (.aload_n 0, 1) := by decide +kernel
theorem d_L_configuration_1 : decode c_L_configuration 1 = .ok (.aload_n 0, 1) := by decide +kernel
theorem d_L_configuration_2 : decode c_L_configuration 2 = .ok (.aload_n 0, 1) := by decide +kernel
theorem d_L_configuration_3 : decode c_L_configuration 3 = .ok (.invokevirtual 30, 3) := by decide +kernel
theorem d_L_configuration_6 : decode c_L_configuration 6 = .ok (.invokevirtual 49, 3) := by decide +kernel
theorem d_L_configuration_9 : decode c_L_configuration 9 = .ok (.invokevirtual 52, 3) := by decide +kernel
theorem d_L_configuration_12 : decode c_L_configuration 12 = .ok (.ireturn, 1) := by decide +kernel
theorem d_L_last_0 : decode c_L_last 0 = .ok (.aload_n 0, 1) := by decide +kernel
theorem d_L_last_1 : decode c_L_last 1 = .ok (.getfield 17, 3) := by decide +kernel
theorem d_L_last_4 : decode c_L_last 4 = .ok (.getfield 21, 3) := by decide +kernel
theorem d_L_last_7 : decode c_L_last 7 = .ok (.aload_n 0, 1) := by decide +kernel
theorem d_L_last_8 : decode c_L_last 8 = .ok (.getfield 27, 3) := by decide +kernel
theorem d_L_last_11 : decode c_L_last 11 = .ok (.iadd, 1) := by decide +kernel
theorem d_L_last_12 : decode c_L_last 12 = .ok (.ireturn, 1) := by decide +kernel
theorem d_L_latestMembersUpTo_0 : decode c_L_latestMembersUpTo 0 = .ok (.iload_n 1, 1) := by decide +kernel
theorem d_L_latestMembersUpTo_1 : decode c_L_latestMembersUpTo 1 = .ok (.istore_n 2, 1) := by decide +kernel
theorem d_L_latestMembersUpTo_2 : decode c_L_latestMembersUpTo 2 = .ok (.iload_n 2, 1) := by decide +kernel
theorem d_L_latestMembersUpTo_3 : decode c_L_latestMembersUpTo 3 = .ok (.aload_n 0, 1) := by decide +kernel
theorem d_L_latestMembersUpTo_4 : decode c_L_latestMembersUpTo 4 = .ok (.getfield 17, 3) := by decide +kernel
theorem d_L_latestMembersUpTo_7 : decode c_L_latestMembersUpTo 7 = .ok (.getfield 21, 3) := by decide +kernel
theorem d_L_latestMembersUpTo_10 : decode c_L_latestMembersUpTo 10 = .ok (.if_icmp .le (29), 3) := by decide +kernel
theorem d_L_latestMembersUpTo_13 : decode c_L_latestMembersUpTo 13 = .ok (.aload_n 0, 1) := by decide +kernel
theorem d_L_latestMembersUpTo_14 : decode c_L_latestMembersUpTo 14 = .ok (.iload_n 2, 1) := by decide +kernel
theorem d_L_latestMembersUpTo_15 : decode c_L_latestMembersUpTo 15 = .ok (.invokevirtual 41, 3) := by decide +kernel
theorem d_L_latestMembersUpTo_18 : decode c_L_latestMembersUpTo 18 = .ok (.astore_n 3, 1) := by decide +kernel
theorem d_L_latestMembersUpTo_19 : decode c_L_latestMembersUpTo 19 = .ok (.aload_n 3, 1) := by decide +kernel
theorem d_L_latestMembersUpTo_20 : decode c_L_latestMembersUpTo 20 = .ok (.ifnull (13), 3) := by decide +kernel
theorem d_L_latestMembersUpTo_23 : decode c_L_latestMembersUpTo 23 = .ok (.aload_n 3, 1) := by decide +kernel
theorem d_L_latestMembersUpTo_24 : decode c_L_latestMembersUpTo 24 = .ok (.getfield 46, 3) := by decide +kernel
theorem d_L_latestMembersUpTo_27 : decode c_L_latestMembersUpTo 27 = .ok (.iconst 2, 1) := by decide +kernel
theorem d_L_latestMembersUpTo_28 : decode c_L_latestMembersUpTo 28 = .ok (.if_icmp .ne (5), 3) := by decide +kernel
theorem d_L_latestMembersUpTo_31 : decode c_L_latestMembersUpTo 31 = .ok (.iload_n 2, 1) := by decide +kernel
theorem d_L_latestMembersUpTo_32 : decode c_L_latestMembersUpTo 32 = .ok (.ireturn, 1) := by decide +kernel
theorem d_L_latestMembersUpTo_33 : decode c_L_latestMembersUpTo 33 = .ok (.iinc 2 (-1), 3) := by decide +kernel
theorem d_L_latestMembersUpTo_36 : decode c_L_latestMembersUpTo 36 = .ok (.goto (-34), 3) := by decide +kernel
theorem d_L_latestMembersUpTo_39 : decode c_L_latestMembersUpTo 39 = .ok (.iconst (-1), 1) := by decide +kernel
theorem d_L_latestMembersUpTo_40 : decode c_L_latestMembersUpTo 40 = .ok (.ireturn, 1) := by decide +kernel
theorem d_L_find_0 : decode c_L_find 0 = .ok (.iload_n 1, 1) := by decide +kernel
theorem d_L_find_1 : decode c_L_find 1 = .ok (.aload_n 0, 1) := by decide +kernel
theorem d_L_find_2 : decode c_L_find 2 = .ok (.getfield 17, 3) := by decide +kernel
theorem d_L_find_5 : decode c_L_find 5 = .ok (.getfield 21, 3) := by decide +kernel
theorem d_L_find_8 : decode c_L_find 8 = .ok (.isub, 1) := by decide +kernel
theorem d_L_find_9 : decode c_L_find 9 = .ok (.iconst 1, 1) := by decide +kernel
theorem d_L_find_10 : decode c_L_find 10 = .ok (.isub, 1) := by decide +kernel
theorem d_L_find_11 : decode c_L_find 11 = .ok (.istore_n 2, 1) := by decide +kernel
theorem d_L_find_12 : decode c_L_find 12 = .ok (.iload_n 2, 1) := by decide +kernel
theorem d_L_find_13 : decode c_L_find 13 = .ok (.ifCond .lt (20), 3) := by decide +kernel
theorem d_L_find_16 : decode c_L_find 16 = .ok (.iload_n 2, 1) := by decide +kernel
theorem d_L_find_17 : decode c_L_find 17 = .ok (.aload_n 0, 1) := by decide +kernel
theorem d_L_find_18 : decode c_L_find 18 = .ok (.getfield 27, 3) := by decide +kernel
theorem d_L_find_21 : decode c_L_find 21 = .ok (.if_icmp .ge (12), 3) := by decide +kernel
theorem d_L_find_24 : decode c_L_find 24 = .ok (.aload_n 0, 1) := by decide +kernel
theorem d_L_find_25 : decode c_L_find 25 = .ok (.getfield 11, 3) := by decide +kernel
theorem d_L_find_28 : decode c_L_find 28 = .ok (.iload_n 2, 1) := by decide +kernel
theorem d_L_find_29 : decode c_L_find 29 = .ok (.aaload, 1) := by decide +kernel
theorem d_L_find_30 : decode c_L_find 30 = .ok (.goto (4), 3) := by decide +kernel
theorem d_L_find_33 : decode c_L_find 33 = .ok (.aconst_null, 1) := by decide +kernel
theorem d_L_find_34 : decode c_L_find 34 = .ok (.areturn, 1) := by decide +kernel
theorem d_L_membersAt_0 : decode c_L_membersAt 0 = .ok (.aload_n 0, 1) := by decide +kernel
theorem d_L_membersAt_1 : decode c_L_membersAt 1 = .ok (.iload_n 1, 1) := by decide +kernel
theorem d_L_membersAt_2 : decode c_L_membersAt 2 = .ok (.invokevirtual 41, 3) := by decide +kernel
theorem d_L_membersAt_5 : decode c_L_membersAt 5 = .ok (.astore_n 2, 1) := by decide +kernel
theorem d_L_membersAt_6 : decode c_L_membersAt 6 = .ok (.aload_n 2, 1) := by decide +kernel
theorem d_L_membersAt_7 : decode c_L_membersAt 7 = .ok (.ifnonnull (13), 3) := by decide +kernel
theorem d_L_membersAt_10 : decode c_L_membersAt 10 = .ok (.aload_n 0, 1) := by decide +kernel
theorem d_L_membersAt_11 : decode c_L_membersAt 11 = .ok (.getfield 17, 3) := by decide +kernel
theorem d_L_membersAt_14 : decode c_L_membersAt 14 = .ok (.getfield 55, 3) := by decide +kernel
theorem d_L_membersAt_17 : decode c_L_membersAt 17 = .ok (.goto (7), 3) := by decide +kernel
theorem d_L_membersAt_20 : decode c_L_membersAt 20 = .ok (.aload_n 2, 1) := by decide +kernel
theorem d_L_membersAt_21 : decode c_L_membersAt 21 = .ok (.getfield 58, 3) := by decide +kernel
theorem d_L_membersAt_24 : decode c_L_membersAt 24 = .ok (.ireturn, 1) := by decide +kernel
theorem d_W_send_0 : decode c_W_send 0 = .ok (.aload_n 0, 1) := by decide +kernel
theorem d_W_send_1 : decode c_W_send 1 = .ok (.getfield 11, 3) := by decide +kernel
theorem d_W_send_4 : decode c_W_send 4 = .ok (.aload_n 0, 1) := by decide +kernel
theorem d_W_send_5 : decode c_W_send 5 = .ok (.getfield 24, 3) := by decide +kernel
theorem d_W_send_8 : decode c_W_send 8 = .ok (.aaload, 1) := by decide +kernel
theorem d_W_send_9 : decode c_W_send 9 = .ok (.astore 5, 2) := by decide +kernel
theorem d_W_send_11 : decode c_W_send 11 = .ok (.aload 5, 2) := by decide +kernel
theorem d_W_send_13 : decode c_W_send 13 = .ok (.iload_n 1, 1) := by decide +kernel
theorem d_W_send_14 : decode c_W_send 14 = .ok (.iload_n 2, 1) := by decide +kernel
theorem d_W_send_15 : decode c_W_send 15 = .ok (.iload_n 3, 1) := by decide +kernel
theorem d_W_send_16 : decode c_W_send 16 = .ok (.iload 4, 2) := by decide +kernel
theorem d_W_send_18 : decode c_W_send 18 = .ok (.invokevirtual 28, 3) := by decide +kernel
theorem d_W_send_21 : decode c_W_send 21 = .ok (.aload_n 0, 1) := by decide +kernel
theorem d_W_send_22 : decode c_W_send 22 = .ok (.getfield 24, 3) := by decide +kernel
theorem d_W_send_25 : decode c_W_send 25 = .ok (.bipush (48), 2) := by decide +kernel
theorem d_W_send_27 : decode c_W_send 27 = .ok (.if_icmp .ge (13), 3) := by decide +kernel
theorem d_W_send_30 : decode c_W_send 30 = .ok (.aload_n 0, 1) := by decide +kernel
theorem d_W_send_31 : decode c_W_send 31 = .ok (.dup, 1) := by decide +kernel
theorem d_W_send_32 : decode c_W_send 32 = .ok (.getfield 24, 3) := by decide +kernel
theorem d_W_send_35 : decode c_W_send 35 = .ok (.iconst 1, 1) := by decide +kernel
theorem d_W_send_36 : decode c_W_send 36 = .ok (.iadd, 1) := by decide +kernel
theorem d_W_send_37 : decode c_W_send 37 = .ok (.putfield 24, 3) := by decide +kernel
theorem d_W_send_40 : decode c_W_send 40 = .ok (.aload 5, 2) := by decide +kernel
theorem d_W_send_42 : decode c_W_send 42 = .ok (.areturn, 1) := by decide +kernel
theorem d_M_begin_0 : decode c_M_begin 0 = .ok (.aload_n 0, 1) := by decide +kernel
theorem d_M_begin_1 : decode c_M_begin 1 = .ok (.iload_n 1, 1) := by decide +kernel
theorem d_M_begin_2 : decode c_M_begin 2 = .ok (.putfield 21, 3) := by decide +kernel
theorem d_M_begin_5 : decode c_M_begin 5 = .ok (.aload_n 0, 1) := by decide +kernel
theorem d_M_begin_6 : decode c_M_begin 6 = .ok (.iload_n 2, 1) := by decide +kernel
theorem d_M_begin_7 : decode c_M_begin 7 = .ok (.putfield 25, 3) := by decide +kernel
theorem d_M_begin_10 : decode c_M_begin 10 = .ok (.aload_n 0, 1) := by decide +kernel
theorem d_M_begin_11 : decode c_M_begin 11 = .ok (.iload_n 3, 1) := by decide +kernel
theorem d_M_begin_12 : decode c_M_begin 12 = .ok (.putfield 28, 3) := by decide +kernel
theorem d_M_begin_15 : decode c_M_begin 15 = .ok (.aload_n 0, 1) := by decide +kernel
theorem d_M_begin_16 : decode c_M_begin 16 = .ok (.iload 4, 2) := by decide +kernel
theorem d_M_begin_18 : decode c_M_begin 18 = .ok (.putfield 31, 3) := by decide +kernel
theorem d_M_begin_21 : decode c_M_begin 21 = .ok (.aload_n 0, 1) := by decide +kernel
theorem d_M_begin_22 : decode c_M_begin 22 = .ok (.iconst 0, 1) := by decide +kernel
theorem d_M_begin_23 : decode c_M_begin 23 = .ok (.putfield 34, 3) := by decide +kernel
theorem d_M_begin_26 : decode c_M_begin 26 = .ok (.aload_n 0, 1) := by decide +kernel
theorem d_M_begin_27 : decode c_M_begin 27 = .ok (.iconst 0, 1) := by decide +kernel
theorem d_M_begin_28 : decode c_M_begin 28 = .ok (.putfield 37, 3) := by decide +kernel
theorem d_M_begin_31 : decode c_M_begin 31 = .ok (.aload_n 0, 1) := by decide +kernel
theorem d_M_begin_32 : decode c_M_begin 32 = .ok (.iconst 0, 1) := by decide +kernel
theorem d_M_begin_33 : decode c_M_begin 33 = .ok (.putfield 40, 3) := by decide +kernel
theorem d_M_begin_36 : decode c_M_begin 36 = .ok (.aload_n 0, 1) := by decide +kernel
theorem d_M_begin_37 : decode c_M_begin 37 = .ok (.iconst 0, 1) := by decide +kernel
theorem d_M_begin_38 : decode c_M_begin 38 = .ok (.putfield 43, 3) := by decide +kernel
theorem d_M_begin_41 : decode c_M_begin 41 = .ok (.aload_n 0, 1) := by decide +kernel
theorem d_M_begin_42 : decode c_M_begin 42 = .ok (.iconst 0, 1) := by decide +kernel
theorem d_M_begin_43 : decode c_M_begin 43 = .ok (.putfield 46, 3) := by decide +kernel
theorem d_M_begin_46 : decode c_M_begin 46 = .ok (.aload_n 0, 1) := by decide +kernel
theorem d_M_begin_47 : decode c_M_begin 47 = .ok (.iconst 0, 1) := by decide +kernel
theorem d_M_begin_48 : decode c_M_begin 48 = .ok (.putfield 49, 3) := by decide +kernel
theorem d_M_begin_51 : decode c_M_begin 51 = .ok (.return_, 1) := by decide +kernel
theorem d_L_lastTerm_0 : decode c_L_lastTerm 0 = .ok (.aload_n 0, 1) := by decide +kernel
theorem d_L_lastTerm_1 : decode c_L_lastTerm 1 = .ok (.aload_n 0, 1) := by decide +kernel
theorem d_L_lastTerm_2 : decode c_L_lastTerm 2 = .ok (.invokevirtual 30, 3) := by decide +kernel
theorem d_L_lastTerm_5 : decode c_L_lastTerm 5 = .ok (.invokevirtual 34, 3) := by decide +kernel
theorem d_L_lastTerm_8 : decode c_L_lastTerm 8 = .ok (.ireturn, 1) := by decide +kernel
theorem d_L_termAt_0 : decode c_L_termAt 0 = .ok (.iload_n 1, 1) := by decide +kernel
theorem d_L_termAt_1 : decode c_L_termAt 1 = .ok (.aload_n 0, 1) := by decide +kernel
theorem d_L_termAt_2 : decode c_L_termAt 2 = .ok (.getfield 17, 3) := by decide +kernel
theorem d_L_termAt_5 : decode c_L_termAt 5 = .ok (.getfield 21, 3) := by decide +kernel
theorem d_L_termAt_8 : decode c_L_termAt 8 = .ok (.if_icmp .ne (11), 3) := by decide +kernel
theorem d_L_termAt_11 : decode c_L_termAt 11 = .ok (.aload_n 0, 1) := by decide +kernel
theorem d_L_termAt_12 : decode c_L_termAt 12 = .ok (.getfield 17, 3) := by decide +kernel
theorem d_L_termAt_15 : decode c_L_termAt 15 = .ok (.getfield 38, 3) := by decide +kernel
theorem d_L_termAt_18 : decode c_L_termAt 18 = .ok (.ireturn, 1) := by decide +kernel
theorem d_L_termAt_19 : decode c_L_termAt 19 = .ok (.aload_n 0, 1) := by decide +kernel
theorem d_L_termAt_20 : decode c_L_termAt 20 = .ok (.iload_n 1, 1) := by decide +kernel
theorem d_L_termAt_21 : decode c_L_termAt 21 = .ok (.invokevirtual 41, 3) := by decide +kernel
theorem d_L_termAt_24 : decode c_L_termAt 24 = .ok (.astore_n 2, 1) := by decide +kernel
theorem d_L_termAt_25 : decode c_L_termAt 25 = .ok (.aload_n 2, 1) := by decide +kernel
theorem d_L_termAt_26 : decode c_L_termAt 26 = .ok (.ifnonnull (7), 3) := by decide +kernel
theorem d_L_termAt_29 : decode c_L_termAt 29 = .ok (.iconst (-1), 1) := by decide +kernel
theorem d_L_termAt_30 : decode c_L_termAt 30 = .ok (.goto (7), 3) := by decide +kernel
theorem d_L_termAt_33 : decode c_L_termAt 33 = .ok (.aload_n 2, 1) := by decide +kernel
theorem d_L_termAt_34 : decode c_L_termAt 34 = .ok (.getfield 45, 3) := by decide +kernel
theorem d_L_termAt_37 : decode c_L_termAt 37 = .ok (.ireturn, 1) := by decide +kernel
theorem d_E_init_0 : decode c_E_init 0 = .ok (.aload_n 0, 1) := by decide +kernel
theorem d_E_init_1 : decode c_E_init 1 = .ok (.invokespecial 1, 3) := by decide +kernel
theorem d_E_init_4 : decode c_E_init 4 = .ok (.aload_n 0, 1) := by decide +kernel
theorem d_E_init_5 : decode c_E_init 5 = .ok (.iload_n 1, 1) := by decide +kernel
theorem d_E_init_6 : decode c_E_init 6 = .ok (.putfield 7, 3) := by decide +kernel
theorem d_E_init_9 : decode c_E_init 9 = .ok (.aload_n 0, 1) := by decide +kernel
theorem d_E_init_10 : decode c_E_init 10 = .ok (.iload_n 2, 1) := by decide +kernel
theorem d_E_init_11 : decode c_E_init 11 = .ok (.putfield 13, 3) := by decide +kernel
theorem d_E_init_14 : decode c_E_init 14 = .ok (.aload_n 0, 1) := by decide +kernel
theorem d_E_init_15 : decode c_E_init 15 = .ok (.iload_n 3, 1) := by decide +kernel
theorem d_E_init_16 : decode c_E_init 16 = .ok (.putfield 16, 3) := by decide +kernel
theorem d_E_init_19 : decode c_E_init 19 = .ok (.aload_n 0, 1) := by decide +kernel
theorem d_E_init_20 : decode c_E_init 20 = .ok (.iload 4, 2) := by decide +kernel
theorem d_E_init_22 : decode c_E_init 22 = .ok (.putfield 19, 3) := by decide +kernel
theorem d_E_init_25 : decode c_E_init 25 = .ok (.return_, 1) := by decide +kernel
theorem d_L_add_0 : decode c_L_add 0 = .ok (.aload_n 0, 1) := by decide +kernel
theorem d_L_add_1 : decode c_L_add 1 = .ok (.getfield 27, 3) := by decide +kernel
theorem d_L_add_4 : decode c_L_add 4 = .ok (.bipush (48), 2) := by decide +kernel
theorem d_L_add_6 : decode c_L_add 6 = .ok (.if_icmp .lt (5), 3) := by decide +kernel
theorem d_L_add_9 : decode c_L_add 9 = .ok (.iconst 0, 1) := by decide +kernel
theorem d_L_add_10 : decode c_L_add 10 = .ok (.ireturn, 1) := by decide +kernel
theorem d_L_add_11 : decode c_L_add 11 = .ok (.aload_n 0, 1) := by decide +kernel
theorem d_L_add_12 : decode c_L_add 12 = .ok (.getfield 11, 3) := by decide +kernel
theorem d_L_add_15 : decode c_L_add 15 = .ok (.aload_n 0, 1) := by decide +kernel
theorem d_L_add_16 : decode c_L_add 16 = .ok (.getfield 27, 3) := by decide +kernel
theorem d_L_add_19 : decode c_L_add 19 = .ok (.aload_n 1, 1) := by decide +kernel
theorem d_L_add_20 : decode c_L_add 20 = .ok (.aastore, 1) := by decide +kernel
theorem d_L_add_21 : decode c_L_add 21 = .ok (.aload_n 0, 1) := by decide +kernel
theorem d_L_add_22 : decode c_L_add 22 = .ok (.dup, 1) := by decide +kernel
theorem d_L_add_23 : decode c_L_add 23 = .ok (.getfield 27, 3) := by decide +kernel
theorem d_L_add_26 : decode c_L_add 26 = .ok (.iconst 1, 1) := by decide +kernel
theorem d_L_add_27 : decode c_L_add 27 = .ok (.iadd, 1) := by decide +kernel
theorem d_L_add_28 : decode c_L_add 28 = .ok (.putfield 27, 3) := by decide +kernel
theorem d_L_add_31 : decode c_L_add 31 = .ok (.iconst 1, 1) := by decide +kernel
theorem d_L_add_32 : decode c_L_add 32 = .ok (.ireturn, 1) := by decide +kernel
theorem d_S_holdersOf_0 : decode c_S_holdersOf 0 = .ok (.aload_n 0, 1) := by decide +kernel
theorem d_S_holdersOf_1 : decode c_S_holdersOf 1 = .ok (.aload_n 0, 1) := by decide +kernel
theorem d_S_holdersOf_2 : decode c_S_holdersOf 2 = .ok (.getfield 15, 3) := by decide +kernel
theorem d_S_holdersOf_5 : decode c_S_holdersOf 5 = .ok (.iload_n 1, 1) := by decide +kernel
theorem d_S_holdersOf_6 : decode c_S_holdersOf 6 = .ok (.invokevirtual 69, 3) := by decide +kernel
theorem d_S_holdersOf_9 : decode c_S_holdersOf 9 = .ok (.ireturn, 1) := by decide +kernel
theorem d_S_reachedBy_0 : decode c_S_reachedBy 0 = .ok (.iconst 1, 1) := by decide +kernel
theorem d_S_reachedBy_1 : decode c_S_reachedBy 1 = .ok (.aload_n 0, 1) := by decide +kernel
theorem d_S_reachedBy_2 : decode c_S_reachedBy 2 = .ok (.getfield 32, 3) := by decide +kernel
theorem d_S_reachedBy_5 : decode c_S_reachedBy 5 = .ok (.ishl, 1) := by decide +kernel
theorem d_S_reachedBy_6 : decode c_S_reachedBy 6 = .ok (.istore_n 3, 1) := by decide +kernel
theorem d_S_reachedBy_7 : decode c_S_reachedBy 7 = .ok (.iconst 0, 1) := by decide +kernel
theorem d_S_reachedBy_8 : decode c_S_reachedBy 8 = .ok (.istore 4, 2) := by decide +kernel
theorem d_S_reachedBy_10 : decode c_S_reachedBy 10 = .ok (.iload 4, 2) := by decide +kernel
theorem d_S_reachedBy_12 : decode c_S_reachedBy 12 = .ok (.iconst 5, 1) := by decide +kernel
theorem d_S_reachedBy_13 : decode c_S_reachedBy 13 = .ok (.if_icmp .ge (24), 3) := by decide +kernel
theorem d_S_reachedBy_16 : decode c_S_reachedBy 16 = .ok (.aload_n 1, 1) := by decide +kernel
theorem d_S_reachedBy_17 : decode c_S_reachedBy 17 = .ok (.iload 4, 2) := by decide +kernel
theorem d_S_reachedBy_19 : decode c_S_reachedBy 19 = .ok (.iaload, 1) := by decide +kernel
theorem d_S_reachedBy_20 : decode c_S_reachedBy 20 = .ok (.iload_n 2, 1) := by decide +kernel
theorem d_S_reachedBy_21 : decode c_S_reachedBy 21 = .ok (.if_icmp .lt (10), 3) := by decide +kernel
theorem d_S_reachedBy_24 : decode c_S_reachedBy 24 = .ok (.iload_n 3, 1) := by decide +kernel
theorem d_S_reachedBy_25 : decode c_S_reachedBy 25 = .ok (.iconst 1, 1) := by decide +kernel
theorem d_S_reachedBy_26 : decode c_S_reachedBy 26 = .ok (.iload 4, 2) := by decide +kernel
theorem d_S_reachedBy_28 : decode c_S_reachedBy 28 = .ok (.ishl, 1) := by decide +kernel
theorem d_S_reachedBy_29 : decode c_S_reachedBy 29 = .ok (.ior, 1) := by decide +kernel
theorem d_S_reachedBy_30 : decode c_S_reachedBy 30 = .ok (.istore_n 3, 1) := by decide +kernel
theorem d_S_reachedBy_31 : decode c_S_reachedBy 31 = .ok (.iinc 4 (1), 3) := by decide +kernel
theorem d_S_reachedBy_34 : decode c_S_reachedBy 34 = .ok (.goto (-24), 3) := by decide +kernel
theorem d_S_reachedBy_37 : decode c_S_reachedBy 37 = .ok (.iload_n 3, 1) := by decide +kernel
theorem d_S_reachedBy_38 : decode c_S_reachedBy 38 = .ok (.ireturn, 1) := by decide +kernel
theorem d_R_failAllOf_0 : decode c_R_failAllOf 0 = .ok (.iconst 0, 1) := by decide +kernel
theorem d_R_failAllOf_1 : decode c_R_failAllOf 1 = .ok (.istore_n 2, 1) := by decide +kernel
theorem d_R_failAllOf_2 : decode c_R_failAllOf 2 = .ok (.iload_n 2, 1) := by decide +kernel
theorem d_R_failAllOf_3 : decode c_R_failAllOf 3 = .ok (.aload_n 0, 1) := by decide +kernel
theorem d_R_failAllOf_4 : decode c_R_failAllOf 4 = .ok (.getfield 27, 3) := by decide +kernel
theorem d_R_failAllOf_7 : decode c_R_failAllOf 7 = .ok (.if_icmp .ge (25), 3) := by decide +kernel
theorem d_R_failAllOf_10 : decode c_R_failAllOf 10 = .ok (.aload_n 0, 1) := by decide +kernel
theorem d_R_failAllOf_11 : decode c_R_failAllOf 11 = .ok (.iload_n 2, 1) := by decide +kernel
theorem d_R_failAllOf_12 : decode c_R_failAllOf 12 = .ok (.iload_n 1, 1) := by decide +kernel
theorem d_R_failAllOf_13 : decode c_R_failAllOf 13 = .ok (.invokevirtual 31, 3) := by decide +kernel
theorem d_R_failAllOf_16 : decode c_R_failAllOf 16 = .ok (.ifCond .eq (10), 3) := by decide +kernel
theorem d_R_failAllOf_19 : decode c_R_failAllOf 19 = .ok (.aload_n 0, 1) := by decide +kernel
theorem d_R_failAllOf_20 : decode c_R_failAllOf 20 = .ok (.getfield 21, 3) := by decide +kernel
theorem d_R_failAllOf_23 : decode c_R_failAllOf 23 = .ok (.iload_n 2, 1) := by decide +kernel
theorem d_R_failAllOf_24 : decode c_R_failAllOf 24 = .ok (.iconst 2, 1) := by decide +kernel
theorem d_R_failAllOf_25 : decode c_R_failAllOf 25 = .ok (.iastore, 1) := by decide +kernel
theorem d_R_failAllOf_26 : decode c_R_failAllOf 26 = .ok (.iinc 2 (1), 3) := by decide +kernel
theorem d_R_failAllOf_29 : decode c_R_failAllOf 29 = .ok (.goto (-27), 3) := by decide +kernel
theorem d_R_failAllOf_32 : decode c_R_failAllOf 32 = .ok (.return_, 1) := by decide +kernel
theorem d_R_isKeptBy_0 : decode c_R_isKeptBy 0 = .ok (.aload_n 0, 1) := by decide +kernel
theorem d_R_isKeptBy_1 : decode c_R_isKeptBy 1 = .ok (.getfield 21, 3) := by decide +kernel
theorem d_R_isKeptBy_4 : decode c_R_isKeptBy 4 = .ok (.iload_n 1, 1) := by decide +kernel
theorem d_R_isKeptBy_5 : decode c_R_isKeptBy 5 = .ok (.iaload, 1) := by decide +kernel
theorem d_R_isKeptBy_6 : decode c_R_isKeptBy 6 = .ok (.ifCond .ne (17), 3) := by decide +kernel
theorem d_R_isKeptBy_9 : decode c_R_isKeptBy 9 = .ok (.aload_n 0, 1) := by decide +kernel
theorem d_R_isKeptBy_10 : decode c_R_isKeptBy 10 = .ok (.getfield 9, 3) := by decide +kernel
theorem d_R_isKeptBy_13 : decode c_R_isKeptBy 13 = .ok (.iload_n 1, 1) := by decide +kernel
theorem d_R_isKeptBy_14 : decode c_R_isKeptBy 14 = .ok (.iaload, 1) := by decide +kernel
theorem d_R_isKeptBy_15 : decode c_R_isKeptBy 15 = .ok (.iload_n 2, 1) := by decide +kernel
theorem d_R_isKeptBy_16 : decode c_R_isKeptBy 16 = .ok (.if_icmp .ne (7), 3) := by decide +kernel
theorem d_R_isKeptBy_19 : decode c_R_isKeptBy 19 = .ok (.iconst 1, 1) := by decide +kernel
theorem d_R_isKeptBy_20 : decode c_R_isKeptBy 20 = .ok (.goto (4), 3) := by decide +kernel
theorem d_R_isKeptBy_23 : decode c_R_isKeptBy 23 = .ok (.iconst 0, 1) := by decide +kernel
theorem d_R_isKeptBy_24 : decode c_R_isKeptBy 24 = .ok (.ireturn, 1) := by decide +kernel
theorem d_L_copyBehind_0 : decode c_L_copyBehind 0 = .ok (.iconst 0, 1) := by decide +kernel
theorem d_L_copyBehind_1 : decode c_L_copyBehind 1 = .ok (.istore_n 3, 1) := by decide +kernel
theorem d_L_copyBehind_2 : decode c_L_copyBehind 2 = .ok (.iload_n 3, 1) := by decide +kernel
theorem d_L_copyBehind_3 : decode c_L_copyBehind 3 = .ok (.aload_n 2, 1) := by decide +kernel
theorem d_L_copyBehind_4 : decode c_L_copyBehind 4 = .ok (.arraylength, 1) := by decide +kernel
theorem d_L_copyBehind_5 : decode c_L_copyBehind 5 = .ok (.if_icmp .ge (32), 3) := by decide +kernel
theorem d_L_copyBehind_8 : decode c_L_copyBehind 8 = .ok (.aload_n 0, 1) := by decide +kernel
theorem d_L_copyBehind_9 : decode c_L_copyBehind 9 = .ok (.iload_n 1, 1) := by decide +kernel
theorem d_L_copyBehind_10 : decode c_L_copyBehind 10 = .ok (.iconst 1, 1) := by decide +kernel
theorem d_L_copyBehind_11 : decode c_L_copyBehind 11 = .ok (.iadd, 1) := by decide +kernel
theorem d_L_copyBehind_12 : decode c_L_copyBehind 12 = .ok (.iload_n 3, 1) := by decide +kernel
theorem d_L_copyBehind_13 : decode c_L_copyBehind 13 = .ok (.iadd, 1) := by decide +kernel
theorem d_L_copyBehind_14 : decode c_L_copyBehind 14 = .ok (.invokevirtual 41, 3) := by decide +kernel
theorem d_L_copyBehind_17 : decode c_L_copyBehind 17 = .ok (.astore 4, 2) := by decide +kernel
theorem d_L_copyBehind_19 : decode c_L_copyBehind 19 = .ok (.aload 4, 2) := by decide +kernel
theorem d_L_copyBehind_21 : decode c_L_copyBehind 21 = .ok (.ifnonnull (5), 3) := by decide +kernel
theorem d_L_copyBehind_24 : decode c_L_copyBehind 24 = .ok (.iload_n 3, 1) := by decide +kernel
theorem d_L_copyBehind_25 : decode c_L_copyBehind 25 = .ok (.ireturn, 1) := by decide +kernel
theorem d_L_copyBehind_26 : decode c_L_copyBehind 26 = .ok (.aload_n 2, 1) := by decide +kernel
theorem d_L_copyBehind_27 : decode c_L_copyBehind 27 = .ok (.iload_n 3, 1) := by decide +kernel
theorem d_L_copyBehind_28 : decode c_L_copyBehind 28 = .ok (.aload 4, 2) := by decide +kernel
theorem d_L_copyBehind_30 : decode c_L_copyBehind 30 = .ok (.aastore, 1) := by decide +kernel
theorem d_L_copyBehind_31 : decode c_L_copyBehind 31 = .ok (.iinc 3 (1), 3) := by decide +kernel
theorem d_L_copyBehind_34 : decode c_L_copyBehind 34 = .ok (.goto (-32), 3) := by decide +kernel
theorem d_L_copyBehind_37 : decode c_L_copyBehind 37 = .ok (.aload_n 2, 1) := by decide +kernel
theorem d_L_copyBehind_38 : decode c_L_copyBehind 38 = .ok (.arraylength, 1) := by decide +kernel
theorem d_L_copyBehind_39 : decode c_L_copyBehind 39 = .ok (.ireturn, 1) := by decide +kernel
theorem d_S_leads_0 : decode c_S_leads 0 = .ok (.aload_n 0, 1) := by decide +kernel
theorem d_S_leads_1 : decode c_S_leads 1 = .ok (.getfield 21, 3) := by decide +kernel
theorem d_S_leads_4 : decode c_S_leads 4 = .ok (.ifCond .eq (15), 3) := by decide +kernel
theorem d_S_leads_7 : decode c_S_leads 7 = .ok (.aload_n 0, 1) := by decide +kernel
theorem d_S_leads_8 : decode c_S_leads 8 = .ok (.getfield 29, 3) := by decide +kernel
theorem d_S_leads_11 : decode c_S_leads 11 = .ok (.iconst 3, 1) := by decide +kernel
theorem d_S_leads_12 : decode c_S_leads 12 = .ok (.if_icmp .ne (7), 3) := by decide +kernel
theorem d_S_leads_15 : decode c_S_leads 15 = .ok (.iconst 1, 1) := by decide +kernel
theorem d_S_leads_16 : decode c_S_leads 16 = .ok (.goto (4), 3) := by decide +kernel
theorem d_S_leads_19 : decode c_S_leads 19 = .ok (.iconst 0, 1) := by decide +kernel
theorem d_S_leads_20 : decode c_S_leads 20 = .ok (.ireturn, 1) := by decide +kernel
theorem d_R_holds_0 : decode c_R_holds 0 = .ok (.iload_n 1, 1) := by decide +kernel
theorem d_R_holds_1 : decode c_R_holds 1 = .ok (.ifCond .lt (15), 3) := by decide +kernel
theorem d_R_holds_4 : decode c_R_holds 4 = .ok (.iload_n 1, 1) := by decide +kernel
theorem d_R_holds_5 : decode c_R_holds 5 = .ok (.aload_n 0, 1) := by decide +kernel
theorem d_R_holds_6 : decode c_R_holds 6 = .ok (.getfield 27, 3) := by decide +kernel
theorem d_R_holds_9 : decode c_R_holds 9 = .ok (.if_icmp .ge (7), 3) := by decide +kernel
theorem d_R_holds_12 : decode c_R_holds 12 = .ok (.iconst 1, 1) := by decide +kernel
theorem d_R_holds_13 : decode c_R_holds 13 = .ok (.goto (4), 3) := by decide +kernel
theorem d_R_holds_16 : decode c_R_holds 16 = .ok (.iconst 0, 1) := by decide +kernel
theorem d_R_holds_17 : decode c_R_holds 17 = .ok (.ireturn, 1) := by decide +kernel
theorem d_L_snapshotAt_0 : decode c_L_snapshotAt 0 = .ok (.iconst 4, 1) := by decide +kernel
theorem d_L_snapshotAt_1 : decode c_L_snapshotAt 1 = .ok (.newarray .int, 2) := by decide +kernel
theorem d_L_snapshotAt_3 : decode c_L_snapshotAt 3 = .ok (.astore_n 2, 1) := by decide +kernel
theorem d_L_snapshotAt_4 : decode c_L_snapshotAt 4 = .ok (.iconst 0, 1) := by decide +kernel
theorem d_L_snapshotAt_5 : decode c_L_snapshotAt 5 = .ok (.istore_n 3, 1) := by decide +kernel
theorem d_L_snapshotAt_6 : decode c_L_snapshotAt 6 = .ok (.iload_n 3, 1) := by decide +kernel
theorem d_L_snapshotAt_7 : decode c_L_snapshotAt 7 = .ok (.iconst 4, 1) := by decide +kernel
theorem d_L_snapshotAt_8 : decode c_L_snapshotAt 8 = .ok (.if_icmp .ge (18), 3) := by decide +kernel
theorem d_L_snapshotAt_11 : decode c_L_snapshotAt 11 = .ok (.aload_n 2, 1) := by decide +kernel
theorem d_L_snapshotAt_12 : decode c_L_snapshotAt 12 = .ok (.iload_n 3, 1) := by decide +kernel
theorem d_L_snapshotAt_13 : decode c_L_snapshotAt 13 = .ok (.aload_n 0, 1) := by decide +kernel
theorem d_L_snapshotAt_14 : decode c_L_snapshotAt 14 = .ok (.iload_n 1, 1) := by decide +kernel
theorem d_L_snapshotAt_15 : decode c_L_snapshotAt 15 = .ok (.iload_n 3, 1) := by decide +kernel
theorem d_L_snapshotAt_16 : decode c_L_snapshotAt 16 = .ok (.invokevirtual 93, 3) := by decide +kernel
theorem d_L_snapshotAt_19 : decode c_L_snapshotAt 19 = .ok (.iastore, 1) := by decide +kernel
theorem d_L_snapshotAt_20 : decode c_L_snapshotAt 20 = .ok (.iinc 3 (1), 3) := by decide +kernel
theorem d_L_snapshotAt_23 : decode c_L_snapshotAt 23 = .ok (.goto (-17), 3) := by decide +kernel
theorem d_L_snapshotAt_26 : decode c_L_snapshotAt 26 = .ok (.new 22, 3) := by decide +kernel
theorem d_L_snapshotAt_29 : decode c_L_snapshotAt 29 = .ok (.dup, 1) := by decide +kernel
theorem d_L_snapshotAt_30 : decode c_L_snapshotAt 30 = .ok (.iload_n 1, 1) := by decide +kernel
theorem d_L_snapshotAt_31 : decode c_L_snapshotAt 31 = .ok (.aload_n 0, 1) := by decide +kernel
theorem d_L_snapshotAt_32 : decode c_L_snapshotAt 32 = .ok (.iload_n 1, 1) := by decide +kernel
theorem d_L_snapshotAt_33 : decode c_L_snapshotAt 33 = .ok (.invokevirtual 34, 3) := by decide +kernel
theorem d_L_snapshotAt_36 : decode c_L_snapshotAt 36 = .ok (.aload_n 0, 1) := by decide +kernel
theorem d_L_snapshotAt_37 : decode c_L_snapshotAt 37 = .ok (.aload_n 0, 1) := by decide +kernel
theorem d_L_snapshotAt_38 : decode c_L_snapshotAt 38 = .ok (.iload_n 1, 1) := by decide +kernel
theorem d_L_snapshotAt_39 : decode c_L_snapshotAt 39 = .ok (.invokevirtual 49, 3) := by decide +kernel
theorem d_L_snapshotAt_42 : decode c_L_snapshotAt 42 = .ok (.invokevirtual 52, 3) := by decide +kernel
theorem d_L_snapshotAt_45 : decode c_L_snapshotAt 45 = .ok (.aload_n 2, 1) := by decide +kernel
theorem d_L_snapshotAt_46 : decode c_L_snapshotAt 46 = .ok (.invokespecial 97, 3) := by decide +kernel
theorem d_L_snapshotAt_49 : decode c_L_snapshotAt 49 = .ok (.areturn, 1) := by decide +kernel
theorem d_L_storedUpTo_0 : decode c_L_storedUpTo 0 = .ok (.iload_n 1, 1) := by decide +kernel
theorem d_L_storedUpTo_1 : decode c_L_storedUpTo 1 = .ok (.istore_n 3, 1) := by decide +kernel
theorem d_L_storedUpTo_2 : decode c_L_storedUpTo 2 = .ok (.iload_n 3, 1) := by decide +kernel
theorem d_L_storedUpTo_3 : decode c_L_storedUpTo 3 = .ok (.aload_n 0, 1) := by decide +kernel
theorem d_L_storedUpTo_4 : decode c_L_storedUpTo 4 = .ok (.getfield 17, 3) := by decide +kernel
theorem d_L_storedUpTo_7 : decode c_L_storedUpTo 7 = .ok (.getfield 21, 3) := by decide +kernel
theorem d_L_storedUpTo_10 : decode c_L_storedUpTo 10 = .ok (.if_icmp .le (45), 3) := by decide +kernel
theorem d_L_storedUpTo_13 : decode c_L_storedUpTo 13 = .ok (.aload_n 0, 1) := by decide +kernel
theorem d_L_storedUpTo_14 : decode c_L_storedUpTo 14 = .ok (.iload_n 3, 1) := by decide +kernel
theorem d_L_storedUpTo_15 : decode c_L_storedUpTo 15 = .ok (.invokevirtual 41, 3) := by decide +kernel
theorem d_L_storedUpTo_18 : decode c_L_storedUpTo 18 = .ok (.astore 4, 2) := by decide +kernel
theorem d_L_storedUpTo_20 : decode c_L_storedUpTo 20 = .ok (.aload 4, 2) := by decide +kernel
theorem d_L_storedUpTo_22 : decode c_L_storedUpTo 22 = .ok (.ifnull (27), 3) := by decide +kernel
theorem d_L_storedUpTo_25 : decode c_L_storedUpTo 25 = .ok (.aload 4, 2) := by decide +kernel
theorem d_L_storedUpTo_27 : decode c_L_storedUpTo 27 = .ok (.getfield 46, 3) := by decide +kernel
theorem d_L_storedUpTo_30 : decode c_L_storedUpTo 30 = .ok (.iconst 1, 1) := by decide +kernel
theorem d_L_storedUpTo_31 : decode c_L_storedUpTo 31 = .ok (.if_icmp .ne (18), 3) := by decide +kernel
theorem d_L_storedUpTo_34 : decode c_L_storedUpTo 34 = .ok (.aload 4, 2) := by decide +kernel
theorem d_L_storedUpTo_36 : decode c_L_storedUpTo 36 = .ok (.getfield 58, 3) := by decide +kernel
theorem d_L_storedUpTo_39 : decode c_L_storedUpTo 39 = .ok (.iload_n 2, 1) := by decide +kernel
theorem d_L_storedUpTo_40 : decode c_L_storedUpTo 40 = .ok (.if_icmp .ne (9), 3) := by decide +kernel
theorem d_L_storedUpTo_43 : decode c_L_storedUpTo 43 = .ok (.aload 4, 2) := by decide +kernel
theorem d_L_storedUpTo_45 : decode c_L_storedUpTo 45 = .ok (.getfield 61, 3) := by decide +kernel
theorem d_L_storedUpTo_48 : decode c_L_storedUpTo 48 = .ok (.ireturn, 1) := by decide +kernel
theorem d_L_storedUpTo_49 : decode c_L_storedUpTo 49 = .ok (.iinc 3 (-1), 3) := by decide +kernel
theorem d_L_storedUpTo_52 : decode c_L_storedUpTo 52 = .ok (.goto (-50), 3) := by decide +kernel
theorem d_L_storedUpTo_55 : decode c_L_storedUpTo 55 = .ok (.aload_n 0, 1) := by decide +kernel
theorem d_L_storedUpTo_56 : decode c_L_storedUpTo 56 = .ok (.getfield 17, 3) := by decide +kernel
theorem d_L_storedUpTo_59 : decode c_L_storedUpTo 59 = .ok (.getfield 64, 3) := by decide +kernel
theorem d_L_storedUpTo_62 : decode c_L_storedUpTo 62 = .ok (.iload_n 2, 1) := by decide +kernel
theorem d_L_storedUpTo_63 : decode c_L_storedUpTo 63 = .ok (.iaload, 1) := by decide +kernel
theorem d_L_storedUpTo_64 : decode c_L_storedUpTo 64 = .ok (.ireturn, 1) := by decide +kernel
theorem d_L_beginBehind_0 : decode c_L_beginBehind 0 = .ok (.aload_n 0, 1) := by decide +kernel
theorem d_L_beginBehind_1 : decode c_L_beginBehind 1 = .ok (.aload_n 1, 1) := by decide +kernel
theorem d_L_beginBehind_2 : decode c_L_beginBehind 2 = .ok (.getfield 21, 3) := by decide +kernel
theorem d_L_beginBehind_5 : decode c_L_beginBehind 5 = .ok (.invokevirtual 34, 3) := by decide +kernel
theorem d_L_beginBehind_8 : decode c_L_beginBehind 8 = .ok (.istore_n 2, 1) := by decide +kernel
theorem d_L_beginBehind_9 : decode c_L_beginBehind 9 = .ok (.iload_n 2, 1) := by decide +kernel
theorem d_L_beginBehind_10 : decode c_L_beginBehind 10 = .ok (.iconst (-1), 1) := by decide +kernel
theorem d_L_beginBehind_11 : decode c_L_beginBehind 11 = .ok (.if_icmp .eq (23), 3) := by decide +kernel
theorem d_L_beginBehind_14 : decode c_L_beginBehind 14 = .ok (.iload_n 2, 1) := by decide +kernel
theorem d_L_beginBehind_15 : decode c_L_beginBehind 15 = .ok (.aload_n 1, 1) := by decide +kernel
theorem d_L_beginBehind_16 : decode c_L_beginBehind 16 = .ok (.getfield 38, 3) := by decide +kernel
theorem d_L_beginBehind_19 : decode c_L_beginBehind 19 = .ok (.if_icmp .ne (15), 3) := by decide +kernel
theorem d_L_beginBehind_22 : decode c_L_beginBehind 22 = .ok (.aload_n 0, 1) := by decide +kernel
theorem d_L_beginBehind_23 : decode c_L_beginBehind 23 = .ok (.invokevirtual 30, 3) := by decide +kernel
theorem d_L_beginBehind_26 : decode c_L_beginBehind 26 = .ok (.aload_n 1, 1) := by decide +kernel
theorem d_L_beginBehind_27 : decode c_L_beginBehind 27 = .ok (.getfield 21, 3) := by decide +kernel
theorem d_L_beginBehind_30 : decode c_L_beginBehind 30 = .ok (.isub, 1) := by decide +kernel
theorem d_L_beginBehind_31 : decode c_L_beginBehind 31 = .ok (.goto (4), 3) := by decide +kernel
theorem d_L_beginBehind_34 : decode c_L_beginBehind 34 = .ok (.iconst 0, 1) := by decide +kernel
theorem d_L_beginBehind_35 : decode c_L_beginBehind 35 = .ok (.istore_n 3, 1) := by decide +kernel
theorem d_L_beginBehind_36 : decode c_L_beginBehind 36 = .ok (.aload_n 0, 1) := by decide +kernel
theorem d_L_beginBehind_37 : decode c_L_beginBehind 37 = .ok (.getfield 27, 3) := by decide +kernel
theorem d_L_beginBehind_40 : decode c_L_beginBehind 40 = .ok (.iload_n 3, 1) := by decide +kernel
theorem d_L_beginBehind_41 : decode c_L_beginBehind 41 = .ok (.isub, 1) := by decide +kernel
theorem d_L_beginBehind_42 : decode c_L_beginBehind 42 = .ok (.istore 4, 2) := by decide +kernel
theorem d_L_beginBehind_44 : decode c_L_beginBehind 44 = .ok (.iconst 0, 1) := by decide +kernel
theorem d_L_beginBehind_45 : decode c_L_beginBehind 45 = .ok (.istore 5, 2) := by decide +kernel
theorem d_L_beginBehind_47 : decode c_L_beginBehind 47 = .ok (.iload 5, 2) := by decide +kernel
theorem d_L_beginBehind_49 : decode c_L_beginBehind 49 = .ok (.iload_n 3, 1) := by decide +kernel
theorem d_L_beginBehind_50 : decode c_L_beginBehind 50 = .ok (.if_icmp .ge (26), 3) := by decide +kernel
theorem d_L_beginBehind_53 : decode c_L_beginBehind 53 = .ok (.aload_n 0, 1) := by decide +kernel
theorem d_L_beginBehind_54 : decode c_L_beginBehind 54 = .ok (.getfield 11, 3) := by decide +kernel
theorem d_L_beginBehind_57 : decode c_L_beginBehind 57 = .ok (.iload 5, 2) := by decide +kernel
theorem d_L_beginBehind_59 : decode c_L_beginBehind 59 = .ok (.aload_n 0, 1) := by decide +kernel
theorem d_L_beginBehind_60 : decode c_L_beginBehind 60 = .ok (.getfield 11, 3) := by decide +kernel
theorem d_L_beginBehind_63 : decode c_L_beginBehind 63 = .ok (.iload 5, 2) := by decide +kernel
theorem d_L_beginBehind_65 : decode c_L_beginBehind 65 = .ok (.iload 4, 2) := by decide +kernel
theorem d_L_beginBehind_67 : decode c_L_beginBehind 67 = .ok (.iadd, 1) := by decide +kernel
theorem d_L_beginBehind_68 : decode c_L_beginBehind 68 = .ok (.aaload, 1) := by decide +kernel
theorem d_L_beginBehind_69 : decode c_L_beginBehind 69 = .ok (.aastore, 1) := by decide +kernel
theorem d_L_beginBehind_70 : decode c_L_beginBehind 70 = .ok (.iinc 5 (1), 3) := by decide +kernel
theorem d_L_beginBehind_73 : decode c_L_beginBehind 73 = .ok (.goto (-26), 3) := by decide +kernel
theorem d_L_beginBehind_76 : decode c_L_beginBehind 76 = .ok (.aload_n 0, 1) := by decide +kernel
theorem d_L_beginBehind_77 : decode c_L_beginBehind 77 = .ok (.iload_n 3, 1) := by decide +kernel
theorem d_L_beginBehind_78 : decode c_L_beginBehind 78 = .ok (.putfield 27, 3) := by decide +kernel
theorem d_L_beginBehind_81 : decode c_L_beginBehind 81 = .ok (.aload_n 0, 1) := by decide +kernel
theorem d_L_beginBehind_82 : decode c_L_beginBehind 82 = .ok (.aload_n 1, 1) := by decide +kernel
theorem d_L_beginBehind_83 : decode c_L_beginBehind 83 = .ok (.putfield 17, 3) := by decide +kernel
theorem d_L_beginBehind_86 : decode c_L_beginBehind 86 = .ok (.return_, 1) := by decide +kernel
theorem d_W_holds_0 : decode c_W_holds 0 = .ok (.iload_n 1, 1) := by decide +kernel
theorem d_W_holds_1 : decode c_W_holds 1 = .ok (.ifCond .lt (15), 3) := by decide +kernel
theorem d_W_holds_4 : decode c_W_holds 4 = .ok (.iload_n 1, 1) := by decide +kernel
theorem d_W_holds_5 : decode c_W_holds 5 = .ok (.aload_n 0, 1) := by decide +kernel
theorem d_W_holds_6 : decode c_W_holds 6 = .ok (.getfield 24, 3) := by decide +kernel
theorem d_W_holds_9 : decode c_W_holds 9 = .ok (.if_icmp .ge (7), 3) := by decide +kernel
theorem d_W_holds_12 : decode c_W_holds 12 = .ok (.iconst 1, 1) := by decide +kernel
theorem d_W_holds_13 : decode c_W_holds 13 = .ok (.goto (4), 3) := by decide +kernel
theorem d_W_holds_16 : decode c_W_holds 16 = .ok (.iconst 0, 1) := by decide +kernel
theorem d_W_holds_17 : decode c_W_holds 17 = .ok (.ireturn, 1) := by decide +kernel
theorem d_W_take_0 : decode c_W_take 0 = .ok (.aload_n 0, 1) := by decide +kernel
theorem d_W_take_1 : decode c_W_take 1 = .ok (.getfield 20, 3) := by decide +kernel
theorem d_W_take_4 : decode c_W_take 4 = .ok (.astore_n 2, 1) := by decide +kernel
theorem d_W_take_5 : decode c_W_take 5 = .ok (.aload_n 0, 1) := by decide +kernel
theorem d_W_take_6 : decode c_W_take 6 = .ok (.aload_n 0, 1) := by decide +kernel
theorem d_W_take_7 : decode c_W_take 7 = .ok (.getfield 11, 3) := by decide +kernel
theorem d_W_take_10 : decode c_W_take 10 = .ok (.iload_n 1, 1) := by decide +kernel
theorem d_W_take_11 : decode c_W_take 11 = .ok (.aaload, 1) := by decide +kernel
theorem d_W_take_12 : decode c_W_take 12 = .ok (.putfield 20, 3) := by decide +kernel
theorem d_W_take_15 : decode c_W_take 15 = .ok (.aload_n 0, 1) := by decide +kernel
theorem d_W_take_16 : decode c_W_take 16 = .ok (.dup, 1) := by decide +kernel
theorem d_W_take_17 : decode c_W_take 17 = .ok (.getfield 24, 3) := by decide +kernel
theorem d_W_take_20 : decode c_W_take 20 = .ok (.iconst 1, 1) := by decide +kernel
theorem d_W_take_21 : decode c_W_take 21 = .ok (.isub, 1) := by decide +kernel
theorem d_W_take_22 : decode c_W_take 22 = .ok (.putfield 24, 3) := by decide +kernel
theorem d_W_take_25 : decode c_W_take 25 = .ok (.iload_n 1, 1) := by decide +kernel
theorem d_W_take_26 : decode c_W_take 26 = .ok (.istore_n 3, 1) := by decide +kernel
theorem d_W_take_27 : decode c_W_take 27 = .ok (.iload_n 3, 1) := by decide +kernel
theorem d_W_take_28 : decode c_W_take 28 = .ok (.aload_n 0, 1) := by decide +kernel
theorem d_W_take_29 : decode c_W_take 29 = .ok (.getfield 24, 3) := by decide +kernel
theorem d_W_take_32 : decode c_W_take 32 = .ok (.if_icmp .ge (23), 3) := by decide +kernel
theorem d_W_take_35 : decode c_W_take 35 = .ok (.aload_n 0, 1) := by decide +kernel
theorem d_W_take_36 : decode c_W_take 36 = .ok (.getfield 11, 3) := by decide +kernel
theorem d_W_take_39 : decode c_W_take 39 = .ok (.iload_n 3, 1) := by decide +kernel
theorem d_W_take_40 : decode c_W_take 40 = .ok (.aload_n 0, 1) := by decide +kernel
theorem d_W_take_41 : decode c_W_take 41 = .ok (.getfield 11, 3) := by decide +kernel
theorem d_W_take_44 : decode c_W_take 44 = .ok (.iload_n 3, 1) := by decide +kernel
theorem d_W_take_45 : decode c_W_take 45 = .ok (.iconst 1, 1) := by decide +kernel
theorem d_W_take_46 : decode c_W_take 46 = .ok (.iadd, 1) := by decide +kernel
theorem d_W_take_47 : decode c_W_take 47 = .ok (.aaload, 1) := by decide +kernel
theorem d_W_take_48 : decode c_W_take 48 = .ok (.aastore, 1) := by decide +kernel
theorem d_W_take_49 : decode c_W_take 49 = .ok (.iinc 3 (1), 3) := by decide +kernel
theorem d_W_take_52 : decode c_W_take 52 = .ok (.goto (-25), 3) := by decide +kernel
theorem d_W_take_55 : decode c_W_take 55 = .ok (.aload_n 0, 1) := by decide +kernel
theorem d_W_take_56 : decode c_W_take 56 = .ok (.getfield 11, 3) := by decide +kernel
theorem d_W_take_59 : decode c_W_take 59 = .ok (.aload_n 0, 1) := by decide +kernel
theorem d_W_take_60 : decode c_W_take 60 = .ok (.getfield 24, 3) := by decide +kernel
theorem d_W_take_63 : decode c_W_take 63 = .ok (.aload_n 2, 1) := by decide +kernel
theorem d_W_take_64 : decode c_W_take 64 = .ok (.aastore, 1) := by decide +kernel
theorem d_W_take_65 : decode c_W_take 65 = .ok (.aload_n 0, 1) := by decide +kernel
theorem d_W_take_66 : decode c_W_take 66 = .ok (.getfield 20, 3) := by decide +kernel
theorem d_W_take_69 : decode c_W_take 69 = .ok (.areturn, 1) := by decide +kernel
theorem d_L_isBehindOf_0 : decode c_L_isBehindOf 0 = .ok (.aload_n 0, 1) := by decide +kernel
theorem d_L_isBehindOf_1 : decode c_L_isBehindOf 1 = .ok (.invokevirtual 68, 3) := by decide +kernel
theorem d_L_isBehindOf_4 : decode c_L_isBehindOf 4 = .ok (.istore_n 2, 1) := by decide +kernel
theorem d_L_isBehindOf_5 : decode c_L_isBehindOf 5 = .ok (.aload_n 1, 1) := by decide +kernel
theorem d_L_isBehindOf_6 : decode c_L_isBehindOf 6 = .ok (.getfield 71, 3) := by decide +kernel
theorem d_L_isBehindOf_9 : decode c_L_isBehindOf 9 = .ok (.iload_n 2, 1) := by decide +kernel
theorem d_L_isBehindOf_10 : decode c_L_isBehindOf 10 = .ok (.if_icmp .lt (22), 3) := by decide +kernel
theorem d_L_isBehindOf_13 : decode c_L_isBehindOf 13 = .ok (.aload_n 1, 1) := by decide +kernel
theorem d_L_isBehindOf_14 : decode c_L_isBehindOf 14 = .ok (.getfield 71, 3) := by decide +kernel
theorem d_L_isBehindOf_17 : decode c_L_isBehindOf 17 = .ok (.iload_n 2, 1) := by decide +kernel
theorem d_L_isBehindOf_18 : decode c_L_isBehindOf 18 = .ok (.if_icmp .ne (18), 3) := by decide +kernel
theorem d_L_isBehindOf_21 : decode c_L_isBehindOf 21 = .ok (.aload_n 1, 1) := by decide +kernel
theorem d_L_isBehindOf_22 : decode c_L_isBehindOf 22 = .ok (.getfield 76, 3) := by decide +kernel
theorem d_L_isBehindOf_25 : decode c_L_isBehindOf 25 = .ok (.aload_n 0, 1) := by decide +kernel
theorem d_L_isBehindOf_26 : decode c_L_isBehindOf 26 = .ok (.invokevirtual 30, 3) := by decide +kernel
theorem d_L_isBehindOf_29 : decode c_L_isBehindOf 29 = .ok (.if_icmp .ge (7), 3) := by decide +kernel
theorem d_L_isBehindOf_32 : decode c_L_isBehindOf 32 = .ok (.iconst 1, 1) := by decide +kernel
theorem d_L_isBehindOf_33 : decode c_L_isBehindOf 33 = .ok (.goto (4), 3) := by decide +kernel
theorem d_L_isBehindOf_36 : decode c_L_isBehindOf 36 = .ok (.iconst 0, 1) := by decide +kernel
theorem d_L_isBehindOf_37 : decode c_L_isBehindOf 37 = .ok (.ireturn, 1) := by decide +kernel
theorem d_L_fitsBehind_0 : decode c_L_fitsBehind 0 = .ok (.iload_n 1, 1) := by decide +kernel
theorem d_L_fitsBehind_1 : decode c_L_fitsBehind 1 = .ok (.aload_n 0, 1) := by decide +kernel
theorem d_L_fitsBehind_2 : decode c_L_fitsBehind 2 = .ok (.invokevirtual 30, 3) := by decide +kernel
theorem d_L_fitsBehind_5 : decode c_L_fitsBehind 5 = .ok (.if_icmp .gt (27), 3) := by decide +kernel
theorem d_L_fitsBehind_8 : decode c_L_fitsBehind 8 = .ok (.iload_n 1, 1) := by decide +kernel
theorem d_L_fitsBehind_9 : decode c_L_fitsBehind 9 = .ok (.aload_n 0, 1) := by decide +kernel
theorem d_L_fitsBehind_10 : decode c_L_fitsBehind 10 = .ok (.getfield 17, 3) := by decide +kernel
theorem d_L_fitsBehind_13 : decode c_L_fitsBehind 13 = .ok (.getfield 21, 3) := by decide +kernel
theorem d_L_fitsBehind_16 : decode c_L_fitsBehind 16 = .ok (.if_icmp .lt (12), 3) := by decide +kernel
theorem d_L_fitsBehind_19 : decode c_L_fitsBehind 19 = .ok (.aload_n 0, 1) := by decide +kernel
theorem d_L_fitsBehind_20 : decode c_L_fitsBehind 20 = .ok (.iload_n 1, 1) := by decide +kernel
theorem d_L_fitsBehind_21 : decode c_L_fitsBehind 21 = .ok (.invokevirtual 34, 3) := by decide +kernel
theorem d_L_fitsBehind_24 : decode c_L_fitsBehind 24 = .ok (.iload_n 2, 1) := by decide +kernel
theorem d_L_fitsBehind_25 : decode c_L_fitsBehind 25 = .ok (.if_icmp .ne (7), 3) := by decide +kernel
theorem d_L_fitsBehind_28 : decode c_L_fitsBehind 28 = .ok (.iconst 1, 1) := by decide +kernel
theorem d_L_fitsBehind_29 : decode c_L_fitsBehind 29 = .ok (.goto (4), 3) := by decide +kernel
theorem d_L_fitsBehind_32 : decode c_L_fitsBehind 32 = .ok (.iconst 0, 1) := by decide +kernel
theorem d_L_fitsBehind_33 : decode c_L_fitsBehind 33 = .ok (.ireturn, 1) := by decide +kernel
theorem d_L_takeOver_0 : decode c_L_takeOver 0 = .ok (.iconst 0, 1) := by decide +kernel
theorem d_L_takeOver_1 : decode c_L_takeOver 1 = .ok (.istore_n 2, 1) := by decide +kernel
theorem d_L_takeOver_2 : decode c_L_takeOver 2 = .ok (.iload_n 2, 1) := by decide +kernel
theorem d_L_takeOver_3 : decode c_L_takeOver 3 = .ok (.aload_n 1, 1) := by decide +kernel
theorem d_L_takeOver_4 : decode c_L_takeOver 4 = .ok (.getfield 77, 3) := by decide +kernel
theorem d_L_takeOver_7 : decode c_L_takeOver 7 = .ok (.if_icmp .ge (47), 3) := by decide +kernel
theorem d_L_takeOver_10 : decode c_L_takeOver 10 = .ok (.aload_n 1, 1) := by decide +kernel
theorem d_L_takeOver_11 : decode c_L_takeOver 11 = .ok (.getfield 76, 3) := by decide +kernel
theorem d_L_takeOver_14 : decode c_L_takeOver 14 = .ok (.iconst 1, 1) := by decide +kernel
theorem d_L_takeOver_15 : decode c_L_takeOver 15 = .ok (.iadd, 1) := by decide +kernel
theorem d_L_takeOver_16 : decode c_L_takeOver 16 = .ok (.iload_n 2, 1) := by decide +kernel
theorem d_L_takeOver_17 : decode c_L_takeOver 17 = .ok (.iadd, 1) := by decide +kernel
theorem d_L_takeOver_18 : decode c_L_takeOver 18 = .ok (.istore_n 3, 1) := by decide +kernel
theorem d_L_takeOver_19 : decode c_L_takeOver 19 = .ok (.iload_n 3, 1) := by decide +kernel
theorem d_L_takeOver_20 : decode c_L_takeOver 20 = .ok (.aload_n 0, 1) := by decide +kernel
theorem d_L_takeOver_21 : decode c_L_takeOver 21 = .ok (.getfield 17, 3) := by decide +kernel
theorem d_L_takeOver_24 : decode c_L_takeOver 24 = .ok (.getfield 21, 3) := by decide +kernel
theorem d_L_takeOver_27 : decode c_L_takeOver 27 = .ok (.if_icmp .le (21), 3) := by decide +kernel
theorem d_L_takeOver_30 : decode c_L_takeOver 30 = .ok (.aload_n 0, 1) := by decide +kernel
theorem d_L_takeOver_31 : decode c_L_takeOver 31 = .ok (.iload_n 3, 1) := by decide +kernel
theorem d_L_takeOver_32 : decode c_L_takeOver 32 = .ok (.aload_n 1, 1) := by decide +kernel
theorem d_L_takeOver_33 : decode c_L_takeOver 33 = .ok (.getfield 80, 3) := by decide +kernel
theorem d_L_takeOver_36 : decode c_L_takeOver 36 = .ok (.iload_n 2, 1) := by decide +kernel
theorem d_L_takeOver_37 : decode c_L_takeOver 37 = .ok (.aaload, 1) := by decide +kernel
theorem d_L_takeOver_38 : decode c_L_takeOver 38 = .ok (.invokevirtual 81, 3) := by decide +kernel
theorem d_L_takeOver_41 : decode c_L_takeOver 41 = .ok (.ifCond .ne (7), 3) := by decide +kernel
theorem d_L_takeOver_44 : decode c_L_takeOver 44 = .ok (.iload_n 3, 1) := by decide +kernel
theorem d_L_takeOver_45 : decode c_L_takeOver 45 = .ok (.iconst 1, 1) := by decide +kernel
theorem d_L_takeOver_46 : decode c_L_takeOver 46 = .ok (.isub, 1) := by decide +kernel
theorem d_L_takeOver_47 : decode c_L_takeOver 47 = .ok (.ireturn, 1) := by decide +kernel
theorem d_L_takeOver_48 : decode c_L_takeOver 48 = .ok (.iinc 2 (1), 3) := by decide +kernel
theorem d_L_takeOver_51 : decode c_L_takeOver 51 = .ok (.goto (-49), 3) := by decide +kernel
theorem d_L_takeOver_54 : decode c_L_takeOver 54 = .ok (.aload_n 1, 1) := by decide +kernel
theorem d_L_takeOver_55 : decode c_L_takeOver 55 = .ok (.getfield 76, 3) := by decide +kernel
theorem d_L_takeOver_58 : decode c_L_takeOver 58 = .ok (.aload_n 1, 1) := by decide +kernel
theorem d_L_takeOver_59 : decode c_L_takeOver 59 = .ok (.getfield 77, 3) := by decide +kernel
theorem d_L_takeOver_62 : decode c_L_takeOver 62 = .ok (.iadd, 1) := by decide +kernel
theorem d_L_takeOver_63 : decode c_L_takeOver 63 = .ok (.ireturn, 1) := by decide +kernel
theorem d_L_hasOrTakes_0 : decode c_L_hasOrTakes 0 = .ok (.aload_n 0, 1) := by decide +kernel
theorem d_L_hasOrTakes_1 : decode c_L_hasOrTakes 1 = .ok (.iload_n 1, 1) := by decide +kernel
theorem d_L_hasOrTakes_2 : decode c_L_hasOrTakes 2 = .ok (.invokevirtual 34, 3) := by decide +kernel
theorem d_L_hasOrTakes_5 : decode c_L_hasOrTakes 5 = .ok (.aload_n 2, 1) := by decide +kernel
theorem d_L_hasOrTakes_6 : decode c_L_hasOrTakes 6 = .ok (.getfield 45, 3) := by decide +kernel
theorem d_L_hasOrTakes_9 : decode c_L_hasOrTakes 9 = .ok (.if_icmp .ne (5), 3) := by decide +kernel
theorem d_L_hasOrTakes_12 : decode c_L_hasOrTakes 12 = .ok (.iconst 1, 1) := by decide +kernel
theorem d_L_hasOrTakes_13 : decode c_L_hasOrTakes 13 = .ok (.ireturn, 1) := by decide +kernel
theorem d_L_hasOrTakes_14 : decode c_L_hasOrTakes 14 = .ok (.aload_n 0, 1) := by decide +kernel
theorem d_L_hasOrTakes_15 : decode c_L_hasOrTakes 15 = .ok (.iload_n 1, 1) := by decide +kernel
theorem d_L_hasOrTakes_16 : decode c_L_hasOrTakes 16 = .ok (.invokevirtual 85, 3) := by decide +kernel
theorem d_L_hasOrTakes_19 : decode c_L_hasOrTakes 19 = .ok (.aload_n 0, 1) := by decide +kernel
theorem d_L_hasOrTakes_20 : decode c_L_hasOrTakes 20 = .ok (.aload_n 2, 1) := by decide +kernel
theorem d_L_hasOrTakes_21 : decode c_L_hasOrTakes 21 = .ok (.invokevirtual 89, 3) := by decide +kernel
theorem d_L_hasOrTakes_24 : decode c_L_hasOrTakes 24 = .ok (.ireturn, 1) := by decide +kernel
theorem d_L_cutFrom_0 : decode c_L_cutFrom 0 = .ok (.iload_n 1, 1) := by decide +kernel
theorem d_L_cutFrom_1 : decode c_L_cutFrom 1 = .ok (.aload_n 0, 1) := by decide +kernel
theorem d_L_cutFrom_2 : decode c_L_cutFrom 2 = .ok (.getfield 17, 3) := by decide +kernel
theorem d_L_cutFrom_5 : decode c_L_cutFrom 5 = .ok (.getfield 21, 3) := by decide +kernel
theorem d_L_cutFrom_8 : decode c_L_cutFrom 8 = .ok (.isub, 1) := by decide +kernel
theorem d_L_cutFrom_9 : decode c_L_cutFrom 9 = .ok (.iconst 1, 1) := by decide +kernel
theorem d_L_cutFrom_10 : decode c_L_cutFrom 10 = .ok (.isub, 1) := by decide +kernel
theorem d_L_cutFrom_11 : decode c_L_cutFrom 11 = .ok (.istore_n 2, 1) := by decide +kernel
theorem d_L_cutFrom_12 : decode c_L_cutFrom 12 = .ok (.iload_n 2, 1) := by decide +kernel
theorem d_L_cutFrom_13 : decode c_L_cutFrom 13 = .ok (.ifCond .lt (16), 3) := by decide +kernel
theorem d_L_cutFrom_16 : decode c_L_cutFrom 16 = .ok (.iload_n 2, 1) := by decide +kernel
theorem d_L_cutFrom_17 : decode c_L_cutFrom 17 = .ok (.aload_n 0, 1) := by decide +kernel
theorem d_L_cutFrom_18 : decode c_L_cutFrom 18 = .ok (.getfield 27, 3) := by decide +kernel
theorem d_L_cutFrom_21 : decode c_L_cutFrom 21 = .ok (.if_icmp .ge (8), 3) := by decide +kernel
theorem d_L_cutFrom_24 : decode c_L_cutFrom 24 = .ok (.aload_n 0, 1) := by decide +kernel
theorem d_L_cutFrom_25 : decode c_L_cutFrom 25 = .ok (.iload_n 2, 1) := by decide +kernel
theorem d_L_cutFrom_26 : decode c_L_cutFrom 26 = .ok (.putfield 27, 3) := by decide +kernel
theorem d_L_cutFrom_29 : decode c_L_cutFrom 29 = .ok (.return_, 1) := by decide +kernel
theorem d_S_confirmersOf_0 : decode c_S_confirmersOf 0 = .ok (.aload_n 0, 1) := by decide +kernel
theorem d_S_confirmersOf_1 : decode c_S_confirmersOf 1 = .ok (.aload_n 0, 1) := by decide +kernel
theorem d_S_confirmersOf_2 : decode c_S_confirmersOf 2 = .ok (.getfield 18, 3) := by decide +kernel
theorem d_S_confirmersOf_5 : decode c_S_confirmersOf 5 = .ok (.iload_n 1, 1) := by decide +kernel
theorem d_S_confirmersOf_6 : decode c_S_confirmersOf 6 = .ok (.invokevirtual 69, 3) := by decide +kernel
theorem d_S_confirmersOf_9 : decode c_S_confirmersOf 9 = .ok (.ireturn, 1) := by decide +kernel
theorem d_S_storedNow_0 : decode c_S_storedNow 0 = .ok (.aload_n 0, 1) := by decide +kernel
theorem d_S_storedNow_1 : decode c_S_storedNow 1 = .ok (.getfield 40, 3) := by decide +kernel
theorem d_S_storedNow_4 : decode c_S_storedNow 4 = .ok (.aload_n 0, 1) := by decide +kernel
theorem d_S_storedNow_5 : decode c_S_storedNow 5 = .ok (.getfield 55, 3) := by decide +kernel
theorem d_S_storedNow_8 : decode c_S_storedNow 8 = .ok (.iload_n 1, 1) := by decide +kernel
theorem d_S_storedNow_9 : decode c_S_storedNow 9 = .ok (.invokevirtual 65, 3) := by decide +kernel
theorem d_S_storedNow_12 : decode c_S_storedNow 12 = .ok (.ireturn, 1) := by decide +kernel
theorem d_S_hasCommitOfItsTerm_0 : decode c_S_hasCommitOfItsTerm 0 = .ok (.aload_n 0, 1) := by decide +kernel
theorem d_S_hasCommitOfItsTerm_1 : decode c_S_hasCommitOfItsTerm 1 = .ok (.getfield 40, 3) := by decide +kernel
theorem d_S_hasCommitOfItsTerm_4 : decode c_S_hasCommitOfItsTerm 4 = .ok (.aload_n 0, 1) := by decide +kernel
theorem d_S_hasCommitOfItsTerm_5 : decode c_S_hasCommitOfItsTerm 5 = .ok (.getfield 55, 3) := by decide +kernel
theorem d_S_hasCommitOfItsTerm_8 : decode c_S_hasCommitOfItsTerm 8 = .ok (.invokevirtual 58, 3) := by decide +kernel
theorem d_S_hasCommitOfItsTerm_11 : decode c_S_hasCommitOfItsTerm 11 = .ok (.aload_n 0, 1) := by decide +kernel
theorem d_S_hasCommitOfItsTerm_12 : decode c_S_hasCommitOfItsTerm 12 = .ok (.getfield 62, 3) := by decide +kernel
theorem d_S_hasCommitOfItsTerm_15 : decode c_S_hasCommitOfItsTerm 15 = .ok (.if_icmp .ne (7), 3) := by decide +kernel
theorem d_S_hasCommitOfItsTerm_18 : decode c_S_hasCommitOfItsTerm 18 = .ok (.iconst 1, 1) := by decide +kernel
theorem d_S_hasCommitOfItsTerm_19 : decode c_S_hasCommitOfItsTerm 19 = .ok (.goto (4), 3) := by decide +kernel
theorem d_S_hasCommitOfItsTerm_22 : decode c_S_hasCommitOfItsTerm 22 = .ok (.iconst 0, 1) := by decide +kernel
theorem d_S_hasCommitOfItsTerm_23 : decode c_S_hasCommitOfItsTerm 23 = .ok (.ireturn, 1) := by decide +kernel
theorem d_R_keptBy_0 : decode c_R_keptBy 0 = .ok (.iconst 0, 1) := by decide +kernel
theorem d_R_keptBy_1 : decode c_R_keptBy 1 = .ok (.istore_n 2, 1) := by decide +kernel
theorem d_R_keptBy_2 : decode c_R_keptBy 2 = .ok (.iconst 0, 1) := by decide +kernel
theorem d_R_keptBy_3 : decode c_R_keptBy 3 = .ok (.istore_n 3, 1) := by decide +kernel
theorem d_R_keptBy_4 : decode c_R_keptBy 4 = .ok (.iload_n 3, 1) := by decide +kernel
theorem d_R_keptBy_5 : decode c_R_keptBy 5 = .ok (.aload_n 0, 1) := by decide +kernel
theorem d_R_keptBy_6 : decode c_R_keptBy 6 = .ok (.getfield 27, 3) := by decide +kernel
theorem d_R_keptBy_9 : decode c_R_keptBy 9 = .ok (.if_icmp .ge (21), 3) := by decide +kernel
theorem d_R_keptBy_12 : decode c_R_keptBy 12 = .ok (.aload_n 0, 1) := by decide +kernel
theorem d_R_keptBy_13 : decode c_R_keptBy 13 = .ok (.iload_n 3, 1) := by decide +kernel
theorem d_R_keptBy_14 : decode c_R_keptBy 14 = .ok (.iload_n 1, 1) := by decide +kernel
theorem d_R_keptBy_15 : decode c_R_keptBy 15 = .ok (.invokevirtual 31, 3) := by decide +kernel
theorem d_R_keptBy_18 : decode c_R_keptBy 18 = .ok (.ifCond .eq (6), 3) := by decide +kernel
theorem d_R_keptBy_21 : decode c_R_keptBy 21 = .ok (.iinc 2 (1), 3) := by decide +kernel
theorem d_R_keptBy_24 : decode c_R_keptBy 24 = .ok (.iinc 3 (1), 3) := by decide +kernel
theorem d_R_keptBy_27 : decode c_R_keptBy 27 = .ok (.goto (-23), 3) := by decide +kernel
theorem d_R_keptBy_30 : decode c_R_keptBy 30 = .ok (.iload_n 2, 1) := by decide +kernel
theorem d_R_keptBy_31 : decode c_R_keptBy 31 = .ok (.ireturn, 1) := by decide +kernel
theorem d_R_keep_0 : decode c_R_keep 0 = .ok (.aload_n 0, 1) := by decide +kernel
theorem d_R_keep_1 : decode c_R_keep 1 = .ok (.getfield 27, 3) := by decide +kernel
theorem d_R_keep_4 : decode c_R_keep 4 = .ok (.istore 4, 2) := by decide +kernel
theorem d_R_keep_6 : decode c_R_keep 6 = .ok (.iload 4, 2) := by decide +kernel
theorem d_R_keep_8 : decode c_R_keep 8 = .ok (.bipush (60), 2) := by decide +kernel
theorem d_R_keep_10 : decode c_R_keep 10 = .ok (.if_icmp .ge (37), 3) := by decide +kernel
theorem d_R_keep_13 : decode c_R_keep 13 = .ok (.aload_n 0, 1) := by decide +kernel
theorem d_R_keep_14 : decode c_R_keep 14 = .ok (.getfield 9, 3) := by decide +kernel
theorem d_R_keep_17 : decode c_R_keep 17 = .ok (.iload 4, 2) := by decide +kernel
theorem d_R_keep_19 : decode c_R_keep 19 = .ok (.iload_n 1, 1) := by decide +kernel
theorem d_R_keep_20 : decode c_R_keep 20 = .ok (.iastore, 1) := by decide +kernel
theorem d_R_keep_21 : decode c_R_keep 21 = .ok (.aload_n 0, 1) := by decide +kernel
theorem d_R_keep_22 : decode c_R_keep 22 = .ok (.getfield 15, 3) := by decide +kernel
theorem d_R_keep_25 : decode c_R_keep 25 = .ok (.iload 4, 2) := by decide +kernel
theorem d_R_keep_27 : decode c_R_keep 27 = .ok (.iload_n 2, 1) := by decide +kernel
theorem d_R_keep_28 : decode c_R_keep 28 = .ok (.iastore, 1) := by decide +kernel
theorem d_R_keep_29 : decode c_R_keep 29 = .ok (.aload_n 0, 1) := by decide +kernel
theorem d_R_keep_30 : decode c_R_keep 30 = .ok (.getfield 18, 3) := by decide +kernel
theorem d_R_keep_33 : decode c_R_keep 33 = .ok (.iload 4, 2) := by decide +kernel
theorem d_R_keep_35 : decode c_R_keep 35 = .ok (.iload_n 3, 1) := by decide +kernel
theorem d_R_keep_36 : decode c_R_keep 36 = .ok (.iastore, 1) := by decide +kernel
theorem d_R_keep_37 : decode c_R_keep 37 = .ok (.aload_n 0, 1) := by decide +kernel
theorem d_R_keep_38 : decode c_R_keep 38 = .ok (.dup, 1) := by decide +kernel
theorem d_R_keep_39 : decode c_R_keep 39 = .ok (.getfield 27, 3) := by decide +kernel
theorem d_R_keep_42 : decode c_R_keep 42 = .ok (.iconst 1, 1) := by decide +kernel
theorem d_R_keep_43 : decode c_R_keep 43 = .ok (.iadd, 1) := by decide +kernel
theorem d_R_keep_44 : decode c_R_keep 44 = .ok (.putfield 27, 3) := by decide +kernel
theorem d_R_keep_47 : decode c_R_keep 47 = .ok (.iload 4, 2) := by decide +kernel
theorem d_R_keep_49 : decode c_R_keep 49 = .ok (.ireturn, 1) := by decide +kernel
theorem d_I_bitCount_0 : decode c_I_bitCount 0 = .ok (.iload_n 0, 1) := by decide +kernel
theorem d_I_bitCount_1 : decode c_I_bitCount 1 = .ok (.iload_n 0, 1) := by decide +kernel
theorem d_I_bitCount_2 : decode c_I_bitCount 2 = .ok (.iconst 1, 1) := by decide +kernel
theorem d_I_bitCount_3 : decode c_I_bitCount 3 = .ok (.iushr, 1) := by decide +kernel
theorem d_I_bitCount_4 : decode c_I_bitCount 4 = .ok (.ldc_w 265, 3) := by decide +kernel
theorem d_I_bitCount_7 : decode c_I_bitCount 7 = .ok (.iand, 1) := by decide +kernel
theorem d_I_bitCount_8 : decode c_I_bitCount 8 = .ok (.isub, 1) := by decide +kernel
theorem d_I_bitCount_9 : decode c_I_bitCount 9 = .ok (.istore_n 0, 1) := by decide +kernel
theorem d_I_bitCount_10 : decode c_I_bitCount 10 = .ok (.iload_n 0, 1) := by decide +kernel
theorem d_I_bitCount_11 : decode c_I_bitCount 11 = .ok (.ldc_w 266, 3) := by decide +kernel
theorem d_I_bitCount_14 : decode c_I_bitCount 14 = .ok (.iand, 1) := by decide +kernel
theorem d_I_bitCount_15 : decode c_I_bitCount 15 = .ok (.iload_n 0, 1) := by decide +kernel
theorem d_I_bitCount_16 : decode c_I_bitCount 16 = .ok (.iconst 2, 1) := by decide +kernel
theorem d_I_bitCount_17 : decode c_I_bitCount 17 = .ok (.iushr, 1) := by decide +kernel
theorem d_I_bitCount_18 : decode c_I_bitCount 18 = .ok (.ldc_w 266, 3) := by decide +kernel
theorem d_I_bitCount_21 : decode c_I_bitCount 21 = .ok (.iand, 1) := by decide +kernel
theorem d_I_bitCount_22 : decode c_I_bitCount 22 = .ok (.iadd, 1) := by decide +kernel
theorem d_I_bitCount_23 : decode c_I_bitCount 23 = .ok (.istore_n 0, 1) := by decide +kernel
theorem d_I_bitCount_24 : decode c_I_bitCount 24 = .ok (.iload_n 0, 1) := by decide +kernel
theorem d_I_bitCount_25 : decode c_I_bitCount 25 = .ok (.iload_n 0, 1) := by decide +kernel
theorem d_I_bitCount_26 : decode c_I_bitCount 26 = .ok (.iconst 4, 1) := by decide +kernel
theorem d_I_bitCount_27 : decode c_I_bitCount 27 = .ok (.iushr, 1) := by decide +kernel
theorem d_I_bitCount_28 : decode c_I_bitCount 28 = .ok (.iadd, 1) := by decide +kernel
theorem d_I_bitCount_29 : decode c_I_bitCount 29 = .ok (.ldc_w 267, 3) := by decide +kernel
theorem d_I_bitCount_32 : decode c_I_bitCount 32 = .ok (.iand, 1) := by decide +kernel
theorem d_I_bitCount_33 : decode c_I_bitCount 33 = .ok (.istore_n 0, 1) := by decide +kernel
theorem d_I_bitCount_34 : decode c_I_bitCount 34 = .ok (.iload_n 0, 1) := by decide +kernel
theorem d_I_bitCount_35 : decode c_I_bitCount 35 = .ok (.iload_n 0, 1) := by decide +kernel
theorem d_I_bitCount_36 : decode c_I_bitCount 36 = .ok (.bipush (8), 2) := by decide +kernel
theorem d_I_bitCount_38 : decode c_I_bitCount 38 = .ok (.iushr, 1) := by decide +kernel
theorem d_I_bitCount_39 : decode c_I_bitCount 39 = .ok (.iadd, 1) := by decide +kernel
theorem d_I_bitCount_40 : decode c_I_bitCount 40 = .ok (.istore_n 0, 1) := by decide +kernel
theorem d_I_bitCount_41 : decode c_I_bitCount 41 = .ok (.iload_n 0, 1) := by decide +kernel
theorem d_I_bitCount_42 : decode c_I_bitCount 42 = .ok (.iload_n 0, 1) := by decide +kernel
theorem d_I_bitCount_43 : decode c_I_bitCount 43 = .ok (.bipush (16), 2) := by decide +kernel
theorem d_I_bitCount_45 : decode c_I_bitCount 45 = .ok (.iushr, 1) := by decide +kernel
theorem d_I_bitCount_46 : decode c_I_bitCount 46 = .ok (.iadd, 1) := by decide +kernel
theorem d_I_bitCount_47 : decode c_I_bitCount 47 = .ok (.istore_n 0, 1) := by decide +kernel
theorem d_I_bitCount_48 : decode c_I_bitCount 48 = .ok (.iload_n 0, 1) := by decide +kernel
theorem d_I_bitCount_49 : decode c_I_bitCount 49 = .ok (.bipush (63), 2) := by decide +kernel
theorem d_I_bitCount_51 : decode c_I_bitCount 51 = .ok (.iand, 1) := by decide +kernel
theorem d_I_bitCount_52 : decode c_I_bitCount 52 = .ok (.ireturn, 1) := by decide +kernel
theorem d_H_min_0 : decode c_H_min 0 = .ok (.iload_n 0, 1) := by decide +kernel
theorem d_H_min_1 : decode c_H_min 1 = .ok (.iload_n 1, 1) := by decide +kernel
theorem d_H_min_2 : decode c_H_min 2 = .ok (.if_icmp .gt (7), 3) := by decide +kernel
theorem d_H_min_5 : decode c_H_min 5 = .ok (.iload_n 0, 1) := by decide +kernel
theorem d_H_min_6 : decode c_H_min 6 = .ok (.goto (4), 3) := by decide +kernel
theorem d_H_min_9 : decode c_H_min 9 = .ok (.iload_n 1, 1) := by decide +kernel
theorem d_H_min_10 : decode c_H_min 10 = .ok (.ireturn, 1) := by decide +kernel
theorem d_H_max_0 : decode c_H_max 0 = .ok (.iload_n 0, 1) := by decide +kernel
theorem d_H_max_1 : decode c_H_max 1 = .ok (.iload_n 1, 1) := by decide +kernel
theorem d_H_max_2 : decode c_H_max 2 = .ok (.if_icmp .lt (7), 3) := by decide +kernel
theorem d_H_max_5 : decode c_H_max 5 = .ok (.iload_n 0, 1) := by decide +kernel
theorem d_H_max_6 : decode c_H_max 6 = .ok (.goto (4), 3) := by decide +kernel
theorem d_H_max_9 : decode c_H_max 9 = .ok (.iload_n 1, 1) := by decide +kernel
theorem d_H_max_10 : decode c_H_max 10 = .ok (.ireturn, 1) := by decide +kernel
theorem oi_R_3 : Cond.methodLink "QuorumLog$Reads" 3 Lib.objectInit ∈ qu_W := qm_33
theorem fp_R_9 : qx_FP "QuorumLog$Reads" 9 4 0 (.array .int) true := ⟨"QuorumLog$Reads", T_R, 6, t_R, rfl, by decide, uw_R, qm_34, k_R, n_R, by decide +kernel, rfl, fun _ => rfl⟩
theorem fp_R_15 : qx_FP "QuorumLog$Reads" 15 4 1 (.array .int) true := ⟨"QuorumLog$Reads", T_R, 6, t_R, rfl, by decide, uw_R, qm_35, k_R, n_R, by decide +kernel, rfl, fun _ => rfl⟩
theorem fp_R_18 : qx_FP "QuorumLog$Reads" 18 4 2 (.array .int) true := ⟨"QuorumLog$Reads", T_R, 6, t_R, rfl, by decide, uw_R, qm_37, k_R, n_R, by decide +kernel, rfl, fun _ => rfl⟩
theorem fp_R_21 : qx_FP "QuorumLog$Reads" 21 4 3 (.array .int) true := ⟨"QuorumLog$Reads", T_R, 6, t_R, rfl, by decide, uw_R, qm_39, k_R, n_R, by decide +kernel, rfl, fun _ => rfl⟩
theorem fp_R_24 : qx_FP "QuorumLog$Reads" 24 4 4 (.array .int) true := ⟨"QuorumLog$Reads", T_R, 6, t_R, rfl, by decide, uw_R, qm_41, k_R, n_R, by decide +kernel, rfl, fun _ => rfl⟩
theorem oi_N_1 : Cond.methodLink "QuorumLog$Snapshot" 1 Lib.objectInit ∈ qu_W := qm_64
theorem fp_N_7 : qx_FP "QuorumLog$Snapshot" 7 7 0 (.int) true := ⟨"QuorumLog$Snapshot", T_N, 4, t_N, rfl, by decide, uw_N, qm_65, k_N, n_N, by decide +kernel, rfl, fun _ => rfl⟩
theorem fp_N_13 : qx_FP "QuorumLog$Snapshot" 13 7 1 (.int) true := ⟨"QuorumLog$Snapshot", T_N, 4, t_N, rfl, by decide, uw_N, qm_68, k_N, n_N, by decide +kernel, rfl, fun _ => rfl⟩
theorem fp_N_16 : qx_FP "QuorumLog$Snapshot" 16 7 2 (.int) true := ⟨"QuorumLog$Snapshot", T_N, 4, t_N, rfl, by decide, uw_N, qm_70, k_N, n_N, by decide +kernel, rfl, fun _ => rfl⟩
theorem fp_N_19 : qx_FP "QuorumLog$Snapshot" 19 7 3 (.array .int) true := ⟨"QuorumLog$Snapshot", T_N, 4, t_N, rfl, by decide, uw_N, qm_72, k_N, n_N, by decide +kernel, rfl, fun _ => rfl⟩
theorem oi_S_3 : Cond.methodLink "QuorumLog$Server" 3 Lib.objectInit ∈ qu_W := qm_87
theorem fp_S_9 : qx_FP "QuorumLog$Server" 9 6 2 (.array .int) true := ⟨"QuorumLog$Server", T_S, 13, t_S, rfl, by decide, uw_S, qm_113, k_S, n_S, by decide +kernel, rfl, fun _ => rfl⟩
theorem fp_S_15 : qx_FP "QuorumLog$Server" 15 6 3 (.array .int) true := ⟨"QuorumLog$Server", T_S, 13, t_S, rfl, by decide, uw_S, qm_115, k_S, n_S, by decide +kernel, rfl, fun _ => rfl⟩
theorem fp_S_18 : qx_FP "QuorumLog$Server" 18 6 4 (.array .int) true := ⟨"QuorumLog$Server", T_S, 13, t_S, rfl, by decide, uw_S, qm_117, k_S, n_S, by decide +kernel, rfl, fun _ => rfl⟩
theorem fp_S_21 : qx_FP "QuorumLog$Server" 21 6 5 (.boolean) false := ⟨"QuorumLog$Server", T_S, 13, t_S, rfl, by decide, uw_S, qm_119, k_S, n_S, by decide +kernel, rfl, fun _ => by contradiction⟩
theorem fp_S_25 : qx_FP "QuorumLog$Server" 25 6 8 (.int) false := ⟨"QuorumLog$Server", T_S, 13, t_S, rfl, by decide, uw_S, qm_124, k_S, n_S, by decide +kernel, rfl, fun _ => by contradiction⟩
theorem fp_S_29 : qx_FP "QuorumLog$Server" 29 6 9 (.int) false := ⟨"QuorumLog$Server", T_S, 13, t_S, rfl, by decide, uw_S, qm_126, k_S, n_S, by decide +kernel, rfl, fun _ => by contradiction⟩
theorem fp_S_32 : qx_FP "QuorumLog$Server" 32 6 0 (.int) true := ⟨"QuorumLog$Server", T_S, 13, t_S, rfl, by decide, uw_S, qm_109, k_S, n_S, by decide +kernel, rfl, fun _ => rfl⟩
theorem nw_S_35 : qx_NW "QuorumLog$Server" 35 2 [.null, .null, .int 0] 3 := ⟨"QuorumLog$Log", T_L, t_L, rfl, uw_L, k_L, fun j hj => by revert j; decide +kernel, qm_88, qm_89, qm_5⟩
theorem s_S_init_51 {l : Launch} {G : qh_G} {h : qh_H} {b0 : Nat} {rest : List Value} {v0 : Value} : qx_Site l G "QuorumLog$Server" c_S_init 51 y_L_init (.ref b0 :: [v0]) rest h := qx_siteI (As := [v0]) d_S_init_51 rfl qm_90 qm_91 w_L_init.1 (by decide) p_L_init
theorem fp_S_40 : qx_FP "QuorumLog$Server" 40 6 1 (.object "QuorumLog$Log") true := ⟨"QuorumLog$Server", T_S, 13, t_S, rfl, by decide, uw_S, qm_111, k_S, n_S, by decide +kernel, rfl, fun _ => rfl⟩
theorem oi_L_3 : Cond.methodLink "QuorumLog$Log" 3 Lib.objectInit ∈ qu_W := qm_93
theorem cl_L_9 : Cond.classLink "QuorumLog$Log" 9 "QuorumLog$Entry" ∈ qu_W := qm_94
theorem fp_L_11 : qx_FP "QuorumLog$Log" 11 2 1 (.array (.object "QuorumLog$Entry")) true := ⟨"QuorumLog$Log", T_L, 3, t_L, rfl, by decide, uw_L, qm_98, k_L, n_L, by decide +kernel, rfl, fun _ => rfl⟩
theorem fp_L_17 : qx_FP "QuorumLog$Log" 17 2 0 (.object "QuorumLog$Snapshot") false := ⟨"QuorumLog$Log", T_L, 3, t_L, rfl, by decide, uw_L, qm_96, k_L, n_L, by decide +kernel, rfl, fun _ => by contradiction⟩
theorem oi_W_3 : Cond.methodLink "QuorumLog$Row" 3 Lib.objectInit ∈ qu_W := qm_164
theorem cl_W_9 : Cond.classLink "QuorumLog$Row" 9 "QuorumLog$Message" ∈ qu_W := qm_165
theorem fp_W_11 : qx_FP "QuorumLog$Row" 11 5 0 (.array (.object "QuorumLog$Message")) true := ⟨"QuorumLog$Row", T_W, 3, t_W, rfl, by decide, uw_W, qm_226, k_W, n_W, by decide +kernel, rfl, fun _ => rfl⟩
theorem fl_W_11 : qx_FL "QuorumLog$Row" 11 5 0 := ⟨"QuorumLog$Row", T_W, 3, rfl, by decide, uw_W, qm_226⟩
theorem nw_W_9 : qx_NW "QuorumLog$Row" 9 3 [.null, .int 0, .int 0, .int 0, .int 0, .int 0, .int 0, .int 0, .int 0, .int 0, .int 0, .null] 12 := ⟨"QuorumLog$Message", T_M, t_M, rfl, uw_M, k_M, fun j hj => by revert j; decide +kernel, qm_165, qm_167, qm_7⟩
theorem s_W_init_34 {l : Launch} {G : qh_G} {h : qh_H} {b0 : Nat} {rest : List Value} {v0 : Value} : qx_Site l G "QuorumLog$Row" c_W_init 34 y_M_init (.ref b0 :: [v0]) rest h := qx_siteI (As := [v0]) d_W_init_34 rfl qm_168 qm_169 w_M_init.1 (by decide) p_M_init
theorem s_W_init_50 {l : Launch} {G : qh_G} {h : qh_H} {b0 : Nat} {rest : List Value} {v0 : Value} : qx_Site l G "QuorumLog$Row" c_W_init 50 y_M_init (.ref b0 :: [v0]) rest h := qx_siteI (As := [v0]) d_W_init_50 rfl qm_168 qm_169 w_M_init.1 (by decide) p_M_init
theorem fp_W_20 : qx_FP "QuorumLog$Row" 20 5 1 (.object "QuorumLog$Message") false := ⟨"QuorumLog$Row", T_W, 3, t_W, rfl, by decide, uw_W, qm_228, k_W, n_W, by decide +kernel, rfl, fun _ => by contradiction⟩
theorem oi_M_3 : Cond.methodLink "QuorumLog$Message" 3 Lib.objectInit ∈ qu_W := qm_171
theorem cl_M_9 : Cond.classLink "QuorumLog$Message" 9 "QuorumLog$Entry" ∈ qu_W := qm_172
theorem fp_M_11 : qx_FP "QuorumLog$Message" 11 3 0 (.array (.object "QuorumLog$Entry")) true := ⟨"QuorumLog$Message", T_M, 12, t_M, rfl, by decide, uw_M, qm_173, k_M, n_M, by decide +kernel, rfl, fun _ => rfl⟩
theorem fp_M_17 : qx_FP "QuorumLog$Message" 17 3 11 (.object "QuorumLog$Snapshot") false := ⟨"QuorumLog$Message", T_M, 12, t_M, rfl, by decide, uw_M, qm_199, k_M, n_M, by decide +kernel, rfl, fun _ => by contradiction⟩
theorem fl_S_21 : qx_FL "QuorumLog$Server" 21 6 5 := ⟨"QuorumLog$Server", T_S, 13, rfl, by decide, uw_S, qm_119⟩
theorem fl_S_29 : qx_FL "QuorumLog$Server" 29 6 9 := ⟨"QuorumLog$Server", T_S, 13, rfl, by decide, uw_S, qm_126⟩
theorem fl_S_40 : qx_FL "QuorumLog$Server" 40 6 1 := ⟨"QuorumLog$Server", T_S, 13, rfl, by decide, uw_S, qm_111⟩
theorem s_S_mayAsk_19 {l : Launch} {G : qh_G} {h : qh_H} {b0 : Nat} {fs rest : List Value} (hb0 : h b0 = some (.inr (2, fs))) : qx_Site l G "QuorumLog$Server" c_S_mayAsk 19 y_L_configuration (.ref b0 :: []) rest h := qx_siteV (As := []) (E := "QuorumLog$Log") (ci := 2) d_S_mayAsk_19 qm_259 qm_260 qm_261 w_L_configuration.1 (by decide) rfl p_L_configuration hb0
theorem fl_S_32 : qx_FL "QuorumLog$Server" 32 6 0 := ⟨"QuorumLog$Server", T_S, 13, rfl, by decide, uw_S, qm_109⟩
theorem s_S_mayAsk_26 {l : Launch} {G : qh_G} {h : qh_H} {rest : List Value} {v0 v1 : Value} : qx_Site l G "QuorumLog$Server" c_S_mayAsk 26 y_Q_isIn [v0, v1] rest h := qx_siteSN (As := [v0, v1]) d_S_mayAsk_26 (List.mem_of_getElem? (i := 1) rfl) qm_280 qm_1 w_Q_isIn.1 (by decide) p_Q_isIn
theorem fl_S_52 : qx_FL "QuorumLog$Server" 52 2 2 := ⟨"QuorumLog$Log", T_L, 3, rfl, by decide, uw_L, qm_100⟩
theorem s_L_configuration_3 {l : Launch} {G : qh_G} {h : qh_H} {b0 : Nat} {fs rest : List Value} (hb0 : h b0 = some (.inr (2, fs))) : qx_Site l G "QuorumLog$Log" c_L_configuration 3 y_L_last (.ref b0 :: []) rest h := qx_siteV (As := []) (E := "QuorumLog$Log") (ci := 2) d_L_configuration_3 qm_263 qm_264 qm_265 w_L_last.1 (by decide) rfl p_L_last hb0
theorem s_L_configuration_6 {l : Launch} {G : qh_G} {h : qh_H} {b0 : Nat} {fs rest : List Value} {v0 : Value} (hb0 : h b0 = some (.inr (2, fs))) : qx_Site l G "QuorumLog$Log" c_L_configuration 6 y_L_latestMembersUpTo (.ref b0 :: [v0]) rest h := qx_siteV (As := [v0]) (E := "QuorumLog$Log") (ci := 2) d_L_configuration_6 qm_267 qm_268 qm_269 w_L_latestMembersUpTo.1 (by decide) rfl p_L_latestMembersUpTo hb0
theorem s_L_configuration_9 {l : Launch} {G : qh_G} {h : qh_H} {b0 : Nat} {fs rest : List Value} {v0 : Value} (hb0 : h b0 = some (.inr (2, fs))) : qx_Site l G "QuorumLog$Log" c_L_configuration 9 y_L_membersAt (.ref b0 :: [v0]) rest h := qx_siteV (As := [v0]) (E := "QuorumLog$Log") (ci := 2) d_L_configuration_9 qm_275 qm_276 qm_277 w_L_membersAt.1 (by decide) rfl p_L_membersAt hb0
theorem fl_L_17 : qx_FL "QuorumLog$Log" 17 2 0 := ⟨"QuorumLog$Log", T_L, 3, rfl, by decide, uw_L, qm_96⟩
theorem fl_L_21 : qx_FL "QuorumLog$Log" 21 7 0 := ⟨"QuorumLog$Snapshot", T_N, 4, rfl, by decide, uw_N, qm_66⟩
theorem fl_L_27 : qx_FL "QuorumLog$Log" 27 2 2 := ⟨"QuorumLog$Log", T_L, 3, rfl, by decide, uw_L, qm_99⟩
theorem s_L_latestMembersUpTo_15 {l : Launch} {G : qh_G} {h : qh_H} {b0 : Nat} {fs rest : List Value} {v0 : Value} (hb0 : h b0 = some (.inr (2, fs))) : qx_Site l G "QuorumLog$Log" c_L_latestMembersUpTo 15 y_L_find (.ref b0 :: [v0]) rest h := qx_siteV (As := [v0]) (E := "QuorumLog$Log") (ci := 2) d_L_latestMembersUpTo_15 qm_271 qm_272 qm_273 w_L_find.1 (by decide) rfl p_L_find hb0
theorem fl_L_46 : qx_FL "QuorumLog$Log" 46 1 1 := ⟨"QuorumLog$Entry", T_E, 4, rfl, by decide, uw_E, qm_332⟩
theorem fl_L_11 : qx_FL "QuorumLog$Log" 11 2 1 := ⟨"QuorumLog$Log", T_L, 3, rfl, by decide, uw_L, qm_98⟩
theorem s_L_membersAt_2 {l : Launch} {G : qh_G} {h : qh_H} {b0 : Nat} {fs rest : List Value} {v0 : Value} (hb0 : h b0 = some (.inr (2, fs))) : qx_Site l G "QuorumLog$Log" c_L_membersAt 2 y_L_find (.ref b0 :: [v0]) rest h := qx_siteV (As := [v0]) (E := "QuorumLog$Log") (ci := 2) d_L_membersAt_2 qm_271 qm_272 qm_273 w_L_find.1 (by decide) rfl p_L_find hb0
theorem fl_L_55 : qx_FL "QuorumLog$Log" 55 7 2 := ⟨"QuorumLog$Snapshot", T_N, 4, rfl, by decide, uw_N, qm_71⟩
theorem fl_L_58 : qx_FL "QuorumLog$Log" 58 1 2 := ⟨"QuorumLog$Entry", T_E, 4, rfl, by decide, uw_E, qm_335⟩
theorem fl_W_24 : qx_FL "QuorumLog$Row" 24 5 2 := ⟨"QuorumLog$Row", T_W, 3, rfl, by decide, uw_W, qm_229⟩
theorem s_W_send_18 {l : Launch} {G : qh_G} {h : qh_H} {b0 : Nat} {fs rest : List Value} {v0 v1 v2 v3 : Value} (hb0 : h b0 = some (.inr (3, fs))) : qx_Site l G "QuorumLog$Row" c_W_send 18 y_M_begin (.ref b0 :: [v0, v1, v2, v3]) rest h := qx_siteV (As := [v0, v1, v2, v3]) (E := "QuorumLog$Message") (ci := 3) d_W_send_18 qm_292 qm_293 qm_294 w_M_begin.1 (by decide) rfl p_M_begin hb0
theorem fp_W_24 : qx_FP "QuorumLog$Row" 24 5 2 (.int) false := ⟨"QuorumLog$Row", T_W, 3, t_W, rfl, by decide, uw_W, qm_229, k_W, n_W, by decide +kernel, rfl, fun _ => by contradiction⟩
theorem fp_M_21 : qx_FP "QuorumLog$Message" 21 3 1 (.int) false := ⟨"QuorumLog$Message", T_M, 12, t_M, rfl, by decide, uw_M, qm_176, k_M, n_M, by decide +kernel, rfl, fun _ => by contradiction⟩
theorem fp_M_25 : qx_FP "QuorumLog$Message" 25 3 2 (.int) false := ⟨"QuorumLog$Message", T_M, 12, t_M, rfl, by decide, uw_M, qm_178, k_M, n_M, by decide +kernel, rfl, fun _ => by contradiction⟩
theorem fp_M_28 : qx_FP "QuorumLog$Message" 28 3 3 (.int) false := ⟨"QuorumLog$Message", T_M, 12, t_M, rfl, by decide, uw_M, qm_180, k_M, n_M, by decide +kernel, rfl, fun _ => by contradiction⟩
theorem fp_M_31 : qx_FP "QuorumLog$Message" 31 3 4 (.int) false := ⟨"QuorumLog$Message", T_M, 12, t_M, rfl, by decide, uw_M, qm_182, k_M, n_M, by decide +kernel, rfl, fun _ => by contradiction⟩
theorem fp_M_34 : qx_FP "QuorumLog$Message" 34 3 5 (.int) false := ⟨"QuorumLog$Message", T_M, 12, t_M, rfl, by decide, uw_M, qm_184, k_M, n_M, by decide +kernel, rfl, fun _ => by contradiction⟩
theorem fp_M_37 : qx_FP "QuorumLog$Message" 37 3 6 (.int) false := ⟨"QuorumLog$Message", T_M, 12, t_M, rfl, by decide, uw_M, qm_187, k_M, n_M, by decide +kernel, rfl, fun _ => by contradiction⟩
theorem fp_M_40 : qx_FP "QuorumLog$Message" 40 3 7 (.int) false := ⟨"QuorumLog$Message", T_M, 12, t_M, rfl, by decide, uw_M, qm_190, k_M, n_M, by decide +kernel, rfl, fun _ => by contradiction⟩
theorem fp_M_43 : qx_FP "QuorumLog$Message" 43 3 8 (.int) false := ⟨"QuorumLog$Message", T_M, 12, t_M, rfl, by decide, uw_M, qm_193, k_M, n_M, by decide +kernel, rfl, fun _ => by contradiction⟩
theorem fp_M_46 : qx_FP "QuorumLog$Message" 46 3 9 (.int) false := ⟨"QuorumLog$Message", T_M, 12, t_M, rfl, by decide, uw_M, qm_195, k_M, n_M, by decide +kernel, rfl, fun _ => by contradiction⟩
theorem fp_M_49 : qx_FP "QuorumLog$Message" 49 3 10 (.boolean) false := ⟨"QuorumLog$Message", T_M, 12, t_M, rfl, by decide, uw_M, qm_197, k_M, n_M, by decide +kernel, rfl, fun _ => by contradiction⟩
theorem s_L_lastTerm_2 {l : Launch} {G : qh_G} {h : qh_H} {b0 : Nat} {fs rest : List Value} (hb0 : h b0 = some (.inr (2, fs))) : qx_Site l G "QuorumLog$Log" c_L_lastTerm 2 y_L_last (.ref b0 :: []) rest h := qx_siteV (As := []) (E := "QuorumLog$Log") (ci := 2) d_L_lastTerm_2 qm_263 qm_264 qm_265 w_L_last.1 (by decide) rfl p_L_last hb0
theorem s_L_lastTerm_5 {l : Launch} {G : qh_G} {h : qh_H} {b0 : Nat} {fs rest : List Value} {v0 : Value} (hb0 : h b0 = some (.inr (2, fs))) : qx_Site l G "QuorumLog$Log" c_L_lastTerm 5 y_L_termAt (.ref b0 :: [v0]) rest h := qx_siteV (As := [v0]) (E := "QuorumLog$Log") (ci := 2) d_L_lastTerm_5 qm_301 qm_302 qm_303 w_L_termAt.1 (by decide) rfl p_L_termAt hb0
theorem fl_L_38 : qx_FL "QuorumLog$Log" 38 7 1 := ⟨"QuorumLog$Snapshot", T_N, 4, rfl, by decide, uw_N, qm_69⟩
theorem s_L_termAt_21 {l : Launch} {G : qh_G} {h : qh_H} {b0 : Nat} {fs rest : List Value} {v0 : Value} (hb0 : h b0 = some (.inr (2, fs))) : qx_Site l G "QuorumLog$Log" c_L_termAt 21 y_L_find (.ref b0 :: [v0]) rest h := qx_siteV (As := [v0]) (E := "QuorumLog$Log") (ci := 2) d_L_termAt_21 qm_271 qm_272 qm_273 w_L_find.1 (by decide) rfl p_L_find hb0
theorem fl_L_45 : qx_FL "QuorumLog$Log" 45 1 0 := ⟨"QuorumLog$Entry", T_E, 4, rfl, by decide, uw_E, qm_329⟩
theorem oi_E_1 : Cond.methodLink "QuorumLog$Entry" 1 Lib.objectInit ∈ qu_W := qm_327
theorem fp_E_7 : qx_FP "QuorumLog$Entry" 7 1 0 (.int) true := ⟨"QuorumLog$Entry", T_E, 4, t_E, rfl, by decide, uw_E, qm_328, k_E, n_E, by decide +kernel, rfl, fun _ => rfl⟩
theorem fp_E_13 : qx_FP "QuorumLog$Entry" 13 1 1 (.int) true := ⟨"QuorumLog$Entry", T_E, 4, t_E, rfl, by decide, uw_E, qm_331, k_E, n_E, by decide +kernel, rfl, fun _ => rfl⟩
theorem fp_E_16 : qx_FP "QuorumLog$Entry" 16 1 2 (.int) true := ⟨"QuorumLog$Entry", T_E, 4, t_E, rfl, by decide, uw_E, qm_334, k_E, n_E, by decide +kernel, rfl, fun _ => rfl⟩
theorem fp_E_19 : qx_FP "QuorumLog$Entry" 19 1 3 (.int) true := ⟨"QuorumLog$Entry", T_E, 4, t_E, rfl, by decide, uw_E, qm_337, k_E, n_E, by decide +kernel, rfl, fun _ => rfl⟩
theorem fp_L_27 : qx_FP "QuorumLog$Log" 27 2 2 (.int) false := ⟨"QuorumLog$Log", T_L, 3, t_L, rfl, by decide, uw_L, qm_99, k_L, n_L, by decide +kernel, rfl, fun _ => by contradiction⟩
theorem fl_S_15 : qx_FL "QuorumLog$Server" 15 6 3 := ⟨"QuorumLog$Server", T_S, 13, rfl, by decide, uw_S, qm_115⟩
theorem s_S_holdersOf_6 {l : Launch} {G : qh_G} {h : qh_H} {b0 : Nat} {fs rest : List Value} {v0 v1 : Value} (hb0 : h b0 = some (.inr (6, fs))) : qx_Site l G "QuorumLog$Server" c_S_holdersOf 6 y_S_reachedBy (.ref b0 :: [v0, v1]) rest h := qx_siteV (As := [v0, v1]) (E := "QuorumLog$Server") (ci := 6) d_S_holdersOf_6 qm_366 qm_368 qs_5 w_S_reachedBy.1 (by decide) rfl p_S_reachedBy hb0
theorem fl_R_27 : qx_FL "QuorumLog$Reads" 27 4 5 := ⟨"QuorumLog$Reads", T_R, 6, rfl, by decide, uw_R, qm_43⟩
theorem s_R_failAllOf_13 {l : Launch} {G : qh_G} {h : qh_H} {b0 : Nat} {fs rest : List Value} {v0 v1 : Value} (hb0 : h b0 = some (.inr (4, fs))) : qx_Site l G "QuorumLog$Reads" c_R_failAllOf 13 y_R_isKeptBy (.ref b0 :: [v0, v1]) rest h := qx_siteV (As := [v0, v1]) (E := "QuorumLog$Reads") (ci := 4) d_R_failAllOf_13 qm_379 qm_380 qm_381 w_R_isKeptBy.1 (by decide) rfl p_R_isKeptBy hb0
theorem fl_R_21 : qx_FL "QuorumLog$Reads" 21 4 3 := ⟨"QuorumLog$Reads", T_R, 6, rfl, by decide, uw_R, qm_39⟩
theorem fl_R_9 : qx_FL "QuorumLog$Reads" 9 4 0 := ⟨"QuorumLog$Reads", T_R, 6, rfl, by decide, uw_R, qm_34⟩
theorem s_L_copyBehind_14 {l : Launch} {G : qh_G} {h : qh_H} {b0 : Nat} {fs rest : List Value} {v0 : Value} (hb0 : h b0 = some (.inr (2, fs))) : qx_Site l G "QuorumLog$Log" c_L_copyBehind 14 y_L_find (.ref b0 :: [v0]) rest h := qx_siteV (As := [v0]) (E := "QuorumLog$Log") (ci := 2) d_L_copyBehind_14 qm_271 qm_272 qm_273 w_L_find.1 (by decide) rfl p_L_find hb0
theorem s_L_snapshotAt_16 {l : Launch} {G : qh_G} {h : qh_H} {b0 : Nat} {fs rest : List Value} {v0 v1 : Value} (hb0 : h b0 = some (.inr (2, fs))) : qx_Site l G "QuorumLog$Log" c_L_snapshotAt 16 y_L_storedUpTo (.ref b0 :: [v0, v1]) rest h := qx_siteV (As := [v0, v1]) (E := "QuorumLog$Log") (ci := 2) d_L_snapshotAt_16 qm_423 qm_424 qm_425 w_L_storedUpTo.1 (by decide) rfl p_L_storedUpTo hb0
theorem nw_L_22 : qx_NW "QuorumLog$Log" 22 7 [.int 0, .int 0, .int 0, .null] 4 := ⟨"QuorumLog$Snapshot", T_N, t_N, rfl, uw_N, k_N, fun j hj => by revert j; decide +kernel, qm_427, qm_60, qm_3⟩
theorem s_L_snapshotAt_33 {l : Launch} {G : qh_G} {h : qh_H} {b0 : Nat} {fs rest : List Value} {v0 : Value} (hb0 : h b0 = some (.inr (2, fs))) : qx_Site l G "QuorumLog$Log" c_L_snapshotAt 33 y_L_termAt (.ref b0 :: [v0]) rest h := qx_siteV (As := [v0]) (E := "QuorumLog$Log") (ci := 2) d_L_snapshotAt_33 qm_301 qm_302 qm_303 w_L_termAt.1 (by decide) rfl p_L_termAt hb0
theorem s_L_snapshotAt_39 {l : Launch} {G : qh_G} {h : qh_H} {b0 : Nat} {fs rest : List Value} {v0 : Value} (hb0 : h b0 = some (.inr (2, fs))) : qx_Site l G "QuorumLog$Log" c_L_snapshotAt 39 y_L_latestMembersUpTo (.ref b0 :: [v0]) rest h := qx_siteV (As := [v0]) (E := "QuorumLog$Log") (ci := 2) d_L_snapshotAt_39 qm_267 qm_268 qm_269 w_L_latestMembersUpTo.1 (by decide) rfl p_L_latestMembersUpTo hb0
theorem s_L_snapshotAt_42 {l : Launch} {G : qh_G} {h : qh_H} {b0 : Nat} {fs rest : List Value} {v0 : Value} (hb0 : h b0 = some (.inr (2, fs))) : qx_Site l G "QuorumLog$Log" c_L_snapshotAt 42 y_L_membersAt (.ref b0 :: [v0]) rest h := qx_siteV (As := [v0]) (E := "QuorumLog$Log") (ci := 2) d_L_snapshotAt_42 qm_275 qm_276 qm_277 w_L_membersAt.1 (by decide) rfl p_L_membersAt hb0
theorem s_L_snapshotAt_46 {l : Launch} {G : qh_G} {h : qh_H} {b0 : Nat} {rest : List Value} {v0 v1 v2 v3 : Value} : qx_Site l G "QuorumLog$Log" c_L_snapshotAt 46 y_N_init (.ref b0 :: [v0, v1, v2, v3]) rest h := qx_siteI (As := [v0, v1, v2, v3]) d_L_snapshotAt_46 rfl qm_428 qm_62 w_N_init.1 (by decide) p_N_init
theorem s_L_storedUpTo_15 {l : Launch} {G : qh_G} {h : qh_H} {b0 : Nat} {fs rest : List Value} {v0 : Value} (hb0 : h b0 = some (.inr (2, fs))) : qx_Site l G "QuorumLog$Log" c_L_storedUpTo 15 y_L_find (.ref b0 :: [v0]) rest h := qx_siteV (As := [v0]) (E := "QuorumLog$Log") (ci := 2) d_L_storedUpTo_15 qm_271 qm_272 qm_273 w_L_find.1 (by decide) rfl p_L_find hb0
theorem fl_L_61 : qx_FL "QuorumLog$Log" 61 1 3 := ⟨"QuorumLog$Entry", T_E, 4, rfl, by decide, uw_E, qm_338⟩
theorem fl_L_64 : qx_FL "QuorumLog$Log" 64 7 3 := ⟨"QuorumLog$Snapshot", T_N, 4, rfl, by decide, uw_N, qm_73⟩
theorem s_L_beginBehind_5 {l : Launch} {G : qh_G} {h : qh_H} {b0 : Nat} {fs rest : List Value} {v0 : Value} (hb0 : h b0 = some (.inr (2, fs))) : qx_Site l G "QuorumLog$Log" c_L_beginBehind 5 y_L_termAt (.ref b0 :: [v0]) rest h := qx_siteV (As := [v0]) (E := "QuorumLog$Log") (ci := 2) d_L_beginBehind_5 qm_301 qm_302 qm_303 w_L_termAt.1 (by decide) rfl p_L_termAt hb0
theorem s_L_beginBehind_23 {l : Launch} {G : qh_G} {h : qh_H} {b0 : Nat} {fs rest : List Value} (hb0 : h b0 = some (.inr (2, fs))) : qx_Site l G "QuorumLog$Log" c_L_beginBehind 23 y_L_last (.ref b0 :: []) rest h := qx_siteV (As := []) (E := "QuorumLog$Log") (ci := 2) d_L_beginBehind_23 qm_263 qm_264 qm_265 w_L_last.1 (by decide) rfl p_L_last hb0
theorem fl_W_20 : qx_FL "QuorumLog$Row" 20 5 1 := ⟨"QuorumLog$Row", T_W, 3, rfl, by decide, uw_W, qm_228⟩
theorem s_L_isBehindOf_1 {l : Launch} {G : qh_G} {h : qh_H} {b0 : Nat} {fs rest : List Value} (hb0 : h b0 = some (.inr (2, fs))) : qx_Site l G "QuorumLog$Log" c_L_isBehindOf 1 y_L_lastTerm (.ref b0 :: []) rest h := qx_siteV (As := []) (E := "QuorumLog$Log") (ci := 2) d_L_isBehindOf_1 qm_469 qm_298 qm_299 w_L_lastTerm.1 (by decide) rfl p_L_lastTerm hb0
theorem fl_L_71 : qx_FL "QuorumLog$Log" 71 3 6 := ⟨"QuorumLog$Message", T_M, 12, rfl, by decide, uw_M, qm_188⟩
theorem fl_L_76 : qx_FL "QuorumLog$Log" 76 3 5 := ⟨"QuorumLog$Message", T_M, 12, rfl, by decide, uw_M, qm_185⟩
theorem s_L_isBehindOf_26 {l : Launch} {G : qh_G} {h : qh_H} {b0 : Nat} {fs rest : List Value} (hb0 : h b0 = some (.inr (2, fs))) : qx_Site l G "QuorumLog$Log" c_L_isBehindOf 26 y_L_last (.ref b0 :: []) rest h := qx_siteV (As := []) (E := "QuorumLog$Log") (ci := 2) d_L_isBehindOf_26 qm_263 qm_264 qm_265 w_L_last.1 (by decide) rfl p_L_last hb0
theorem s_L_fitsBehind_2 {l : Launch} {G : qh_G} {h : qh_H} {b0 : Nat} {fs rest : List Value} (hb0 : h b0 = some (.inr (2, fs))) : qx_Site l G "QuorumLog$Log" c_L_fitsBehind 2 y_L_last (.ref b0 :: []) rest h := qx_siteV (As := []) (E := "QuorumLog$Log") (ci := 2) d_L_fitsBehind_2 qm_263 qm_264 qm_265 w_L_last.1 (by decide) rfl p_L_last hb0
theorem s_L_fitsBehind_21 {l : Launch} {G : qh_G} {h : qh_H} {b0 : Nat} {fs rest : List Value} {v0 : Value} (hb0 : h b0 = some (.inr (2, fs))) : qx_Site l G "QuorumLog$Log" c_L_fitsBehind 21 y_L_termAt (.ref b0 :: [v0]) rest h := qx_siteV (As := [v0]) (E := "QuorumLog$Log") (ci := 2) d_L_fitsBehind_21 qm_301 qm_302 qm_303 w_L_termAt.1 (by decide) rfl p_L_termAt hb0
theorem fl_L_77 : qx_FL "QuorumLog$Log" 77 3 7 := ⟨"QuorumLog$Message", T_M, 12, rfl, by decide, uw_M, qm_191⟩
theorem fl_L_80 : qx_FL "QuorumLog$Log" 80 3 0 := ⟨"QuorumLog$Message", T_M, 12, rfl, by decide, uw_M, qm_174⟩
theorem s_L_takeOver_38 {l : Launch} {G : qh_G} {h : qh_H} {b0 : Nat} {fs rest : List Value} {v0 v1 : Value} (hb0 : h b0 = some (.inr (2, fs))) : qx_Site l G "QuorumLog$Log" c_L_takeOver 38 y_L_hasOrTakes (.ref b0 :: [v0, v1]) rest h := qx_siteV (As := [v0, v1]) (E := "QuorumLog$Log") (ci := 2) d_L_takeOver_38 qm_504 qm_506 qs_17 w_L_hasOrTakes.1 (by decide) rfl p_L_hasOrTakes hb0
theorem s_L_hasOrTakes_2 {l : Launch} {G : qh_G} {h : qh_H} {b0 : Nat} {fs rest : List Value} {v0 : Value} (hb0 : h b0 = some (.inr (2, fs))) : qx_Site l G "QuorumLog$Log" c_L_hasOrTakes 2 y_L_termAt (.ref b0 :: [v0]) rest h := qx_siteV (As := [v0]) (E := "QuorumLog$Log") (ci := 2) d_L_hasOrTakes_2 qm_301 qm_302 qm_303 w_L_termAt.1 (by decide) rfl p_L_termAt hb0
theorem s_L_hasOrTakes_16 {l : Launch} {G : qh_G} {h : qh_H} {b0 : Nat} {fs rest : List Value} {v0 : Value} (hb0 : h b0 = some (.inr (2, fs))) : qx_Site l G "QuorumLog$Log" c_L_hasOrTakes 16 y_L_cutFrom (.ref b0 :: [v0]) rest h := qx_siteV (As := [v0]) (E := "QuorumLog$Log") (ci := 2) d_L_hasOrTakes_16 qm_508 qm_509 qm_510 w_L_cutFrom.1 (by decide) rfl p_L_cutFrom hb0
theorem s_L_hasOrTakes_21 {l : Launch} {G : qh_G} {h : qh_H} {b0 : Nat} {fs rest : List Value} {v0 : Value} (hb0 : h b0 = some (.inr (2, fs))) : qx_Site l G "QuorumLog$Log" c_L_hasOrTakes 21 y_L_add (.ref b0 :: [v0]) rest h := qx_siteV (As := [v0]) (E := "QuorumLog$Log") (ci := 2) d_L_hasOrTakes_21 qm_512 qm_354 qm_355 w_L_add.1 (by decide) rfl p_L_add hb0
theorem fl_S_18 : qx_FL "QuorumLog$Server" 18 6 4 := ⟨"QuorumLog$Server", T_S, 13, rfl, by decide, uw_S, qm_117⟩
theorem s_S_confirmersOf_6 {l : Launch} {G : qh_G} {h : qh_H} {b0 : Nat} {fs rest : List Value} {v0 v1 : Value} (hb0 : h b0 = some (.inr (6, fs))) : qx_Site l G "QuorumLog$Server" c_S_confirmersOf 6 y_S_reachedBy (.ref b0 :: [v0, v1]) rest h := qx_siteV (As := [v0, v1]) (E := "QuorumLog$Server") (ci := 6) d_S_confirmersOf_6 qm_366 qm_368 qs_5 w_S_reachedBy.1 (by decide) rfl p_S_reachedBy hb0
theorem fl_S_55 : qx_FL "QuorumLog$Server" 55 6 10 := ⟨"QuorumLog$Server", T_S, 13, rfl, by decide, uw_S, qm_128⟩
theorem s_S_storedNow_9 {l : Launch} {G : qh_G} {h : qh_H} {b0 : Nat} {fs rest : List Value} {v0 v1 : Value} (hb0 : h b0 = some (.inr (2, fs))) : qx_Site l G "QuorumLog$Server" c_S_storedNow 9 y_L_storedUpTo (.ref b0 :: [v0, v1]) rest h := qx_siteV (As := [v0, v1]) (E := "QuorumLog$Log") (ci := 2) d_S_storedNow_9 qm_530 qm_424 qm_425 w_L_storedUpTo.1 (by decide) rfl p_L_storedUpTo hb0
theorem s_S_hasCommitOfItsTerm_8 {l : Launch} {G : qh_G} {h : qh_H} {b0 : Nat} {fs rest : List Value} {v0 : Value} (hb0 : h b0 = some (.inr (2, fs))) : qx_Site l G "QuorumLog$Server" c_S_hasCommitOfItsTerm 8 y_L_termAt (.ref b0 :: [v0]) rest h := qx_siteV (As := [v0]) (E := "QuorumLog$Log") (ci := 2) d_S_hasCommitOfItsTerm_8 qm_693 qm_302 qm_303 w_L_termAt.1 (by decide) rfl p_L_termAt hb0
theorem fl_S_62 : qx_FL "QuorumLog$Server" 62 6 7 := ⟨"QuorumLog$Server", T_S, 13, rfl, by decide, uw_S, qm_123⟩
theorem s_R_keptBy_15 {l : Launch} {G : qh_G} {h : qh_H} {b0 : Nat} {fs rest : List Value} {v0 v1 : Value} (hb0 : h b0 = some (.inr (4, fs))) : qx_Site l G "QuorumLog$Reads" c_R_keptBy 15 y_R_isKeptBy (.ref b0 :: [v0, v1]) rest h := qx_siteV (As := [v0, v1]) (E := "QuorumLog$Reads") (ci := 4) d_R_keptBy_15 qm_379 qm_380 qm_381 w_R_isKeptBy.1 (by decide) rfl p_R_isKeptBy hb0
theorem fl_R_15 : qx_FL "QuorumLog$Reads" 15 4 1 := ⟨"QuorumLog$Reads", T_R, 6, rfl, by decide, uw_R, qm_35⟩
theorem fl_R_18 : qx_FL "QuorumLog$Reads" 18 4 2 := ⟨"QuorumLog$Reads", T_R, 6, rfl, by decide, uw_R, qm_37⟩
theorem fp_R_27 : qx_FP "QuorumLog$Reads" 27 4 5 (.int) false := ⟨"QuorumLog$Reads", T_R, 6, t_R, rfl, by decide, uw_R, qm_43, k_R, n_R, by decide +kernel, rfl, fun _ => by contradiction⟩
end
section
theorem d_Q_init_0 : decode c_Q_init 0 = .ok (.aload_n 0, 1) := by decide +kernel
theorem d_Q_init_1 : decode c_Q_init 1 = .ok (.invokespecial 1, 3) := by decide +kernel
theorem d_Q_init_4 : decode c_Q_init 4 = .ok (.aload_n 0, 1) := by decide +kernel
theorem d_Q_init_5 : decode c_Q_init 5 = .ok (.iconst 5, 1) := by decide +kernel
theorem d_Q_init_6 : decode c_Q_init 6 = .ok (.anewarray 9, 3) := by decide +kernel
theorem d_Q_init_9 : decode c_Q_init 9 = .ok (.putfield 11, 3) := by decide +kernel
theorem d_Q_init_12 : decode c_Q_init 12 = .ok (.aload_n 0, 1) := by decide +kernel
theorem d_Q_init_13 : decode c_Q_init 13 = .ok (.new 15, 3) := by decide +kernel
theorem d_Q_init_16 : decode c_Q_init 16 = .ok (.dup, 1) := by decide +kernel
theorem d_Q_init_17 : decode c_Q_init 17 = .ok (.invokespecial 17, 3) := by decide +kernel
theorem d_Q_init_20 : decode c_Q_init 20 = .ok (.putfield 18, 3) := by decide +kernel
theorem d_Q_init_23 : decode c_Q_init 23 = .ok (.iload_n 1, 1) := by decide +kernel
theorem d_Q_init_24 : decode c_Q_init 24 = .ok (.bipush (31), 2) := by decide +kernel
theorem d_Q_init_26 : decode c_Q_init 26 = .ok (.iand, 1) := by decide +kernel
theorem d_Q_init_27 : decode c_Q_init 27 = .ok (.istore_n 2, 1) := by decide +kernel
theorem d_Q_init_28 : decode c_Q_init 28 = .ok (.new 22, 3) := by decide +kernel
theorem d_Q_init_31 : decode c_Q_init 31 = .ok (.dup, 1) := by decide +kernel
theorem d_Q_init_32 : decode c_Q_init 32 = .ok (.iconst 0, 1) := by decide +kernel
theorem d_Q_init_33 : decode c_Q_init 33 = .ok (.iconst 0, 1) := by decide +kernel
theorem d_Q_init_34 : decode c_Q_init 34 = .ok (.iload_n 2, 1) := by decide +kernel
theorem d_Q_init_35 : decode c_Q_init 35 = .ok (.ifCond .ne (7), 3) := by decide +kernel
theorem d_Q_init_38 : decode c_Q_init 38 = .ok (.iconst 1, 1) := by decide +kernel
theorem d_Q_init_39 : decode c_Q_init 39 = .ok (.goto (4), 3) := by decide +kernel
theorem d_Q_init_42 : decode c_Q_init 42 = .ok (.iload_n 2, 1) := by decide +kernel
theorem d_Q_init_43 : decode c_Q_init 43 = .ok (.iconst 4, 1) := by decide +kernel
theorem d_Q_init_44 : decode c_Q_init 44 = .ok (.newarray .int, 2) := by decide +kernel
theorem d_Q_init_46 : decode c_Q_init 46 = .ok (.invokespecial 24, 3) := by decide +kernel
theorem d_Q_init_49 : decode c_Q_init 49 = .ok (.astore_n 3, 1) := by decide +kernel
theorem d_Q_init_50 : decode c_Q_init 50 = .ok (.iconst 0, 1) := by decide +kernel
theorem d_Q_init_51 : decode c_Q_init 51 = .ok (.istore 4, 2) := by decide +kernel
theorem d_Q_init_53 : decode c_Q_init 53 = .ok (.iload 4, 2) := by decide +kernel
theorem d_Q_init_55 : decode c_Q_init 55 = .ok (.iconst 5, 1) := by decide +kernel
theorem d_Q_init_56 : decode c_Q_init 56 = .ok (.if_icmp .ge (26), 3) := by decide +kernel
theorem d_Q_init_59 : decode c_Q_init 59 = .ok (.aload_n 0, 1) := by decide +kernel
theorem d_Q_init_60 : decode c_Q_init 60 = .ok (.getfield 11, 3) := by decide +kernel
theorem d_Q_init_63 : decode c_Q_init 63 = .ok (.iload 4, 2) := by decide +kernel
theorem d_Q_init_65 : decode c_Q_init 65 = .ok (.new 9, 3) := by decide +kernel
theorem d_Q_init_68 : decode c_Q_init 68 = .ok (.dup, 1) := by decide +kernel
theorem d_Q_init_69 : decode c_Q_init 69 = .ok (.iload 4, 2) := by decide +kernel
theorem d_Q_init_71 : decode c_Q_init 71 = .ok (.aload_n 3, 1) := by decide +kernel
theorem d_Q_init_72 : decode c_Q_init 72 = .ok (.invokespecial 27, 3) := by decide +kernel
theorem d_Q_init_75 : decode c_Q_init 75 = .ok (.aastore, 1) := by decide +kernel
theorem d_Q_init_76 : decode c_Q_init 76 = .ok (.iinc 4 (1), 3) := by decide +kernel
theorem d_Q_init_79 : decode c_Q_init 79 = .ok (.goto (-26), 3) := by decide +kernel
theorem d_Q_init_82 : decode c_Q_init 82 = .ok (.aload_n 0, 1) := by decide +kernel
theorem d_Q_init_83 : decode c_Q_init 83 = .ok (.new 30, 3) := by decide +kernel
theorem d_Q_init_86 : decode c_Q_init 86 = .ok (.dup, 1) := by decide +kernel
theorem d_Q_init_87 : decode c_Q_init 87 = .ok (.aload_n 3, 1) := by decide +kernel
theorem d_Q_init_88 : decode c_Q_init 88 = .ok (.invokespecial 32, 3) := by decide +kernel
theorem d_Q_init_91 : decode c_Q_init 91 = .ok (.putfield 35, 3) := by decide +kernel
theorem d_Q_init_94 : decode c_Q_init 94 = .ok (.return_, 1) := by decide +kernel
theorem d_Q_timer_0 : decode c_Q_timer 0 = .ok (.iload_n 1, 1) := by decide +kernel
theorem d_Q_timer_1 : decode c_Q_timer 1 = .ok (.invokestatic 39, 3) := by decide +kernel
theorem d_Q_timer_4 : decode c_Q_timer 4 = .ok (.ifCond .eq (15), 3) := by decide +kernel
theorem d_Q_timer_7 : decode c_Q_timer 7 = .ok (.aload_n 0, 1) := by decide +kernel
theorem d_Q_timer_8 : decode c_Q_timer 8 = .ok (.getfield 11, 3) := by decide +kernel
theorem d_Q_timer_11 : decode c_Q_timer 11 = .ok (.iload_n 1, 1) := by decide +kernel
theorem d_Q_timer_12 : decode c_Q_timer 12 = .ok (.aaload, 1) := by decide +kernel
theorem d_Q_timer_13 : decode c_Q_timer 13 = .ok (.invokevirtual 43, 3) := by decide +kernel
theorem d_Q_timer_16 : decode c_Q_timer 16 = .ok (.ifCond .ne (5), 3) := by decide +kernel
theorem d_Q_timer_19 : decode c_Q_timer 19 = .ok (.iconst 0, 1) := by decide +kernel
theorem d_Q_timer_20 : decode c_Q_timer 20 = .ok (.ireturn, 1) := by decide +kernel
theorem d_Q_timer_21 : decode c_Q_timer 21 = .ok (.aload_n 0, 1) := by decide +kernel
theorem d_Q_timer_22 : decode c_Q_timer 22 = .ok (.getfield 11, 3) := by decide +kernel
theorem d_Q_timer_25 : decode c_Q_timer 25 = .ok (.iload_n 1, 1) := by decide +kernel
theorem d_Q_timer_26 : decode c_Q_timer 26 = .ok (.aaload, 1) := by decide +kernel
theorem d_Q_timer_27 : decode c_Q_timer 27 = .ok (.astore_n 2, 1) := by decide +kernel
theorem d_Q_timer_28 : decode c_Q_timer 28 = .ok (.aload_n 2, 1) := by decide +kernel
theorem d_Q_timer_29 : decode c_Q_timer 29 = .ok (.iconst 0, 1) := by decide +kernel
theorem d_Q_timer_30 : decode c_Q_timer 30 = .ok (.putfield 47, 3) := by decide +kernel
theorem d_Q_timer_33 : decode c_Q_timer 33 = .ok (.aload_n 2, 1) := by decide +kernel
theorem d_Q_timer_34 : decode c_Q_timer 34 = .ok (.iconst 1, 1) := by decide +kernel
theorem d_Q_timer_35 : decode c_Q_timer 35 = .ok (.putfield 51, 3) := by decide +kernel
theorem d_Q_timer_38 : decode c_Q_timer 38 = .ok (.aload_n 2, 1) := by decide +kernel
theorem d_Q_timer_39 : decode c_Q_timer 39 = .ok (.iconst 1, 1) := by decide +kernel
theorem d_Q_timer_40 : decode c_Q_timer 40 = .ok (.aload_n 2, 1) := by decide +kernel
theorem d_Q_timer_41 : decode c_Q_timer 41 = .ok (.getfield 55, 3) := by decide +kernel
theorem d_Q_timer_44 : decode c_Q_timer 44 = .ok (.ishl, 1) := by decide +kernel
theorem d_Q_timer_45 : decode c_Q_timer 45 = .ok (.putfield 58, 3) := by decide +kernel
theorem d_Q_timer_48 : decode c_Q_timer 48 = .ok (.aload_n 0, 1) := by decide +kernel
theorem d_Q_timer_49 : decode c_Q_timer 49 = .ok (.aload_n 2, 1) := by decide +kernel
theorem d_Q_timer_50 : decode c_Q_timer 50 = .ok (.iconst 0, 1) := by decide +kernel
theorem d_Q_timer_51 : decode c_Q_timer 51 = .ok (.aload_n 2, 1) := by decide +kernel
theorem d_Q_timer_52 : decode c_Q_timer 52 = .ok (.getfield 61, 3) := by decide +kernel
theorem d_Q_timer_55 : decode c_Q_timer 55 = .ok (.iconst 1, 1) := by decide +kernel
theorem d_Q_timer_56 : decode c_Q_timer 56 = .ok (.iadd, 1) := by decide +kernel
theorem d_Q_timer_57 : decode c_Q_timer 57 = .ok (.invokevirtual 64, 3) := by decide +kernel
theorem d_Q_timer_60 : decode c_Q_timer 60 = .ok (.aload_n 0, 1) := by decide +kernel
theorem d_Q_timer_61 : decode c_Q_timer 61 = .ok (.aload_n 2, 1) := by decide +kernel
theorem d_Q_timer_62 : decode c_Q_timer 62 = .ok (.invokevirtual 68, 3) := by decide +kernel
theorem d_Q_timer_65 : decode c_Q_timer 65 = .ok (.aload_n 0, 1) := by decide +kernel
theorem d_Q_timer_66 : decode c_Q_timer 66 = .ok (.aload_n 2, 1) := by decide +kernel
theorem d_Q_timer_67 : decode c_Q_timer 67 = .ok (.invokevirtual 72, 3) := by decide +kernel
theorem d_Q_timer_70 : decode c_Q_timer 70 = .ok (.iconst 1, 1) := by decide +kernel
theorem d_Q_timer_71 : decode c_Q_timer 71 = .ok (.ireturn, 1) := by decide +kernel
theorem d_Q_isServer_0 : decode c_Q_isServer 0 = .ok (.iload_n 0, 1) := by decide +kernel
theorem d_Q_isServer_1 : decode c_Q_isServer 1 = .ok (.ifCond .lt (12), 3) := by decide +kernel
theorem d_Q_isServer_4 : decode c_Q_isServer 4 = .ok (.iload_n 0, 1) := by decide +kernel
theorem d_Q_isServer_5 : decode c_Q_isServer 5 = .ok (.iconst 5, 1) := by decide +kernel
theorem d_Q_isServer_6 : decode c_Q_isServer 6 = .ok (.if_icmp .ge (7), 3) := by decide +kernel
theorem d_Q_isServer_9 : decode c_Q_isServer 9 = .ok (.iconst 1, 1) := by decide +kernel
theorem d_Q_isServer_10 : decode c_Q_isServer 10 = .ok (.goto (4), 3) := by decide +kernel
theorem d_Q_isServer_13 : decode c_Q_isServer 13 = .ok (.iconst 0, 1) := by decide +kernel
theorem d_Q_isServer_14 : decode c_Q_isServer 14 = .ok (.ireturn, 1) := by decide +kernel
theorem d_Q_isIn_0 : decode c_Q_isIn 0 = .ok (.iload_n 0, 1) := by decide +kernel
theorem d_Q_isIn_1 : decode c_Q_isIn 1 = .ok (.iload_n 1, 1) := by decide +kernel
theorem d_Q_isIn_2 : decode c_Q_isIn 2 = .ok (.ishr, 1) := by decide +kernel
theorem d_Q_isIn_3 : decode c_Q_isIn 3 = .ok (.iconst 1, 1) := by decide +kernel
theorem d_Q_isIn_4 : decode c_Q_isIn 4 = .ok (.iand, 1) := by decide +kernel
theorem d_Q_isIn_5 : decode c_Q_isIn 5 = .ok (.iconst 1, 1) := by decide +kernel
theorem d_Q_isIn_6 : decode c_Q_isIn 6 = .ok (.if_icmp .ne (7), 3) := by decide +kernel
theorem d_Q_isIn_9 : decode c_Q_isIn 9 = .ok (.iconst 1, 1) := by decide +kernel
theorem d_Q_isIn_10 : decode c_Q_isIn 10 = .ok (.goto (4), 3) := by decide +kernel
theorem d_Q_isIn_13 : decode c_Q_isIn 13 = .ok (.iconst 0, 1) := by decide +kernel
theorem d_Q_isIn_14 : decode c_Q_isIn 14 = .ok (.ireturn, 1) := by decide +kernel
theorem d_Q_askAll_0 : decode c_Q_askAll 0 = .ok (.aload_n 1, 1) := by decide +kernel
theorem d_Q_askAll_1 : decode c_Q_askAll 1 = .ok (.getfield 85, 3) := by decide +kernel
theorem d_Q_askAll_4 : decode c_Q_askAll 4 = .ok (.invokevirtual 115, 3) := by decide +kernel
theorem d_Q_askAll_7 : decode c_Q_askAll 7 = .ok (.istore 4, 2) := by decide +kernel
theorem d_Q_askAll_9 : decode c_Q_askAll 9 = .ok (.iconst 0, 1) := by decide +kernel
theorem d_Q_askAll_10 : decode c_Q_askAll 10 = .ok (.istore 5, 2) := by decide +kernel
theorem d_Q_askAll_12 : decode c_Q_askAll 12 = .ok (.iload 5, 2) := by decide +kernel
theorem d_Q_askAll_14 : decode c_Q_askAll 14 = .ok (.iconst 5, 1) := by decide +kernel
theorem d_Q_askAll_15 : decode c_Q_askAll 15 = .ok (.if_icmp .ge (69), 3) := by decide +kernel
theorem d_Q_askAll_18 : decode c_Q_askAll 18 = .ok (.iload 5, 2) := by decide +kernel
theorem d_Q_askAll_20 : decode c_Q_askAll 20 = .ok (.aload_n 1, 1) := by decide +kernel
theorem d_Q_askAll_21 : decode c_Q_askAll 21 = .ok (.getfield 55, 3) := by decide +kernel
theorem d_Q_askAll_24 : decode c_Q_askAll 24 = .ok (.if_icmp .eq (54), 3) := by decide +kernel
theorem d_Q_askAll_27 : decode c_Q_askAll 27 = .ok (.iload 4, 2) := by decide +kernel
theorem d_Q_askAll_29 : decode c_Q_askAll 29 = .ok (.iload 5, 2) := by decide +kernel
theorem d_Q_askAll_31 : decode c_Q_askAll 31 = .ok (.invokestatic 250, 3) := by decide +kernel
theorem d_Q_askAll_34 : decode c_Q_askAll 34 = .ok (.ifCond .eq (44), 3) := by decide +kernel
theorem d_Q_askAll_37 : decode c_Q_askAll 37 = .ok (.aload_n 0, 1) := by decide +kernel
theorem d_Q_askAll_38 : decode c_Q_askAll 38 = .ok (.getfield 35, 3) := by decide +kernel
theorem d_Q_askAll_41 : decode c_Q_askAll 41 = .ok (.iload_n 2, 1) := by decide +kernel
theorem d_Q_askAll_42 : decode c_Q_askAll 42 = .ok (.aload_n 1, 1) := by decide +kernel
theorem d_Q_askAll_43 : decode c_Q_askAll 43 = .ok (.getfield 55, 3) := by decide +kernel
theorem d_Q_askAll_46 : decode c_Q_askAll 46 = .ok (.iload 5, 2) := by decide +kernel
theorem d_Q_askAll_48 : decode c_Q_askAll 48 = .ok (.iload_n 3, 1) := by decide +kernel
theorem d_Q_askAll_49 : decode c_Q_askAll 49 = .ok (.invokevirtual 254, 3) := by decide +kernel
theorem d_Q_askAll_52 : decode c_Q_askAll 52 = .ok (.astore 6, 2) := by decide +kernel
theorem d_Q_askAll_54 : decode c_Q_askAll 54 = .ok (.aload 6, 2) := by decide +kernel
theorem d_Q_askAll_56 : decode c_Q_askAll 56 = .ok (.aload_n 1, 1) := by decide +kernel
theorem d_Q_askAll_57 : decode c_Q_askAll 57 = .ok (.getfield 85, 3) := by decide +kernel
theorem d_Q_askAll_60 : decode c_Q_askAll 60 = .ok (.invokevirtual 126, 3) := by decide +kernel
theorem d_Q_askAll_63 : decode c_Q_askAll 63 = .ok (.putfield 213, 3) := by decide +kernel
theorem d_Q_askAll_66 : decode c_Q_askAll 66 = .ok (.aload 6, 2) := by decide +kernel
theorem d_Q_askAll_68 : decode c_Q_askAll 68 = .ok (.aload_n 1, 1) := by decide +kernel
theorem d_Q_askAll_69 : decode c_Q_askAll 69 = .ok (.getfield 85, 3) := by decide +kernel
theorem d_Q_askAll_72 : decode c_Q_askAll 72 = .ok (.invokevirtual 258, 3) := by decide +kernel
theorem d_Q_askAll_75 : decode c_Q_askAll 75 = .ok (.putfield 261, 3) := by decide +kernel
theorem d_Q_askAll_78 : decode c_Q_askAll 78 = .ok (.iinc 5 (1), 3) := by decide +kernel
theorem d_Q_askAll_81 : decode c_Q_askAll 81 = .ok (.goto (-69), 3) := by decide +kernel
theorem d_Q_askAll_84 : decode c_Q_askAll 84 = .ok (.return_, 1) := by decide +kernel
theorem d_Q_standIfMostSaidYes_0 : decode c_Q_standIfMostSaidYes 0 = .ok (.aload_n 1, 1) := by decide +kernel
theorem d_Q_standIfMostSaidYes_1 : decode c_Q_standIfMostSaidYes 1 = .ok (.getfield 51, 3) := by decide +kernel
theorem d_Q_standIfMostSaidYes_4 : decode c_Q_standIfMostSaidYes 4 = .ok (.iconst 1, 1) := by decide +kernel
theorem d_Q_standIfMostSaidYes_5 : decode c_Q_standIfMostSaidYes 5 = .ok (.if_icmp .ne (20), 3) := by decide +kernel
theorem d_Q_standIfMostSaidYes_8 : decode c_Q_standIfMostSaidYes 8 = .ok (.aload_n 1, 1) := by decide +kernel
theorem d_Q_standIfMostSaidYes_9 : decode c_Q_standIfMostSaidYes 9 = .ok (.getfield 58, 3) := by decide +kernel
theorem d_Q_standIfMostSaidYes_12 : decode c_Q_standIfMostSaidYes 12 = .ok (.aload_n 1, 1) := by decide +kernel
theorem d_Q_standIfMostSaidYes_13 : decode c_Q_standIfMostSaidYes 13 = .ok (.getfield 85, 3) := by decide +kernel
theorem d_Q_standIfMostSaidYes_16 : decode c_Q_standIfMostSaidYes 16 = .ok (.invokevirtual 115, 3) := by decide +kernel
theorem d_Q_standIfMostSaidYes_19 : decode c_Q_standIfMostSaidYes 19 = .ok (.invokestatic 264, 3) := by decide +kernel
theorem d_Q_standIfMostSaidYes_22 : decode c_Q_standIfMostSaidYes 22 = .ok (.ifCond .ne (4), 3) := by decide +kernel
theorem d_Q_standIfMostSaidYes_25 : decode c_Q_standIfMostSaidYes 25 = .ok (.return_, 1) := by decide +kernel
theorem d_Q_standIfMostSaidYes_26 : decode c_Q_standIfMostSaidYes 26 = .ok (.aload_n 1, 1) := by decide +kernel
theorem d_Q_standIfMostSaidYes_27 : decode c_Q_standIfMostSaidYes 27 = .ok (.iconst 2, 1) := by decide +kernel
theorem d_Q_standIfMostSaidYes_28 : decode c_Q_standIfMostSaidYes 28 = .ok (.putfield 51, 3) := by decide +kernel
theorem d_Q_standIfMostSaidYes_31 : decode c_Q_standIfMostSaidYes 31 = .ok (.aload_n 1, 1) := by decide +kernel
theorem d_Q_standIfMostSaidYes_32 : decode c_Q_standIfMostSaidYes 32 = .ok (.dup, 1) := by decide +kernel
theorem d_Q_standIfMostSaidYes_33 : decode c_Q_standIfMostSaidYes 33 = .ok (.getfield 61, 3) := by decide +kernel
theorem d_Q_standIfMostSaidYes_36 : decode c_Q_standIfMostSaidYes 36 = .ok (.iconst 1, 1) := by decide +kernel
theorem d_Q_standIfMostSaidYes_37 : decode c_Q_standIfMostSaidYes 37 = .ok (.iadd, 1) := by decide +kernel
theorem d_Q_standIfMostSaidYes_38 : decode c_Q_standIfMostSaidYes 38 = .ok (.putfield 61, 3) := by decide +kernel
theorem d_Q_standIfMostSaidYes_41 : decode c_Q_standIfMostSaidYes 41 = .ok (.aload_n 1, 1) := by decide +kernel
theorem d_Q_standIfMostSaidYes_42 : decode c_Q_standIfMostSaidYes 42 = .ok (.aload_n 1, 1) := by decide +kernel
theorem d_Q_standIfMostSaidYes_43 : decode c_Q_standIfMostSaidYes 43 = .ok (.getfield 55, 3) := by decide +kernel
theorem d_Q_standIfMostSaidYes_46 : decode c_Q_standIfMostSaidYes 46 = .ok (.putfield 220, 3) := by decide +kernel
theorem d_Q_standIfMostSaidYes_49 : decode c_Q_standIfMostSaidYes 49 = .ok (.aload_n 1, 1) := by decide +kernel
theorem d_Q_standIfMostSaidYes_50 : decode c_Q_standIfMostSaidYes 50 = .ok (.iconst 1, 1) := by decide +kernel
theorem d_Q_standIfMostSaidYes_51 : decode c_Q_standIfMostSaidYes 51 = .ok (.aload_n 1, 1) := by decide +kernel
theorem d_Q_standIfMostSaidYes_52 : decode c_Q_standIfMostSaidYes 52 = .ok (.getfield 55, 3) := by decide +kernel
theorem d_Q_standIfMostSaidYes_55 : decode c_Q_standIfMostSaidYes 55 = .ok (.ishl, 1) := by decide +kernel
theorem d_Q_standIfMostSaidYes_56 : decode c_Q_standIfMostSaidYes 56 = .ok (.putfield 58, 3) := by decide +kernel
theorem d_Q_standIfMostSaidYes_59 : decode c_Q_standIfMostSaidYes 59 = .ok (.aload_n 0, 1) := by decide +kernel
theorem d_Q_standIfMostSaidYes_60 : decode c_Q_standIfMostSaidYes 60 = .ok (.aload_n 1, 1) := by decide +kernel
theorem d_Q_standIfMostSaidYes_61 : decode c_Q_standIfMostSaidYes 61 = .ok (.iconst 2, 1) := by decide +kernel
theorem d_Q_standIfMostSaidYes_62 : decode c_Q_standIfMostSaidYes 62 = .ok (.aload_n 1, 1) := by decide +kernel
theorem d_Q_standIfMostSaidYes_63 : decode c_Q_standIfMostSaidYes 63 = .ok (.getfield 61, 3) := by decide +kernel
theorem d_Q_standIfMostSaidYes_66 : decode c_Q_standIfMostSaidYes 66 = .ok (.invokevirtual 64, 3) := by decide +kernel
theorem d_Q_standIfMostSaidYes_69 : decode c_Q_standIfMostSaidYes 69 = .ok (.return_, 1) := by decide +kernel
theorem d_Q_areMost_0 : decode c_Q_areMost 0 = .ok (.iconst 2, 1) := by decide +kernel
theorem d_Q_areMost_1 : decode c_Q_areMost 1 = .ok (.iload_n 0, 1) := by decide +kernel
theorem d_Q_areMost_2 : decode c_Q_areMost 2 = .ok (.iload_n 1, 1) := by decide +kernel
theorem d_Q_areMost_3 : decode c_Q_areMost 3 = .ok (.iand, 1) := by decide +kernel
theorem d_Q_areMost_4 : decode c_Q_areMost 4 = .ok (.invokestatic 243, 3) := by decide +kernel
theorem d_Q_areMost_7 : decode c_Q_areMost 7 = .ok (.imul, 1) := by decide +kernel
theorem d_Q_areMost_8 : decode c_Q_areMost 8 = .ok (.iload_n 1, 1) := by decide +kernel
theorem d_Q_areMost_9 : decode c_Q_areMost 9 = .ok (.invokestatic 243, 3) := by decide +kernel
theorem d_Q_areMost_12 : decode c_Q_areMost 12 = .ok (.if_icmp .le (7), 3) := by decide +kernel
theorem d_Q_areMost_15 : decode c_Q_areMost 15 = .ok (.iconst 1, 1) := by decide +kernel
theorem d_Q_areMost_16 : decode c_Q_areMost 16 = .ok (.goto (4), 3) := by decide +kernel
theorem d_Q_areMost_19 : decode c_Q_areMost 19 = .ok (.iconst 0, 1) := by decide +kernel
theorem d_Q_areMost_20 : decode c_Q_areMost 20 = .ok (.ireturn, 1) := by decide +kernel
theorem d_Q_leadIfMostSaidYes_0 : decode c_Q_leadIfMostSaidYes 0 = .ok (.aload_n 1, 1) := by decide +kernel
theorem d_Q_leadIfMostSaidYes_1 : decode c_Q_leadIfMostSaidYes 1 = .ok (.getfield 51, 3) := by decide +kernel
theorem d_Q_leadIfMostSaidYes_4 : decode c_Q_leadIfMostSaidYes 4 = .ok (.iconst 2, 1) := by decide +kernel
theorem d_Q_leadIfMostSaidYes_5 : decode c_Q_leadIfMostSaidYes 5 = .ok (.if_icmp .ne (20), 3) := by decide +kernel
theorem d_Q_leadIfMostSaidYes_8 : decode c_Q_leadIfMostSaidYes 8 = .ok (.aload_n 1, 1) := by decide +kernel
theorem d_Q_leadIfMostSaidYes_9 : decode c_Q_leadIfMostSaidYes 9 = .ok (.getfield 58, 3) := by decide +kernel
theorem d_Q_leadIfMostSaidYes_12 : decode c_Q_leadIfMostSaidYes 12 = .ok (.aload_n 1, 1) := by decide +kernel
theorem d_Q_leadIfMostSaidYes_13 : decode c_Q_leadIfMostSaidYes 13 = .ok (.getfield 85, 3) := by decide +kernel
theorem d_Q_leadIfMostSaidYes_16 : decode c_Q_leadIfMostSaidYes 16 = .ok (.invokevirtual 115, 3) := by decide +kernel
theorem d_Q_leadIfMostSaidYes_19 : decode c_Q_leadIfMostSaidYes 19 = .ok (.invokestatic 264, 3) := by decide +kernel
theorem d_Q_leadIfMostSaidYes_22 : decode c_Q_leadIfMostSaidYes 22 = .ok (.ifCond .ne (4), 3) := by decide +kernel
theorem d_Q_leadIfMostSaidYes_25 : decode c_Q_leadIfMostSaidYes 25 = .ok (.return_, 1) := by decide +kernel
theorem d_Q_leadIfMostSaidYes_26 : decode c_Q_leadIfMostSaidYes 26 = .ok (.aload_n 1, 1) := by decide +kernel
theorem d_Q_leadIfMostSaidYes_27 : decode c_Q_leadIfMostSaidYes 27 = .ok (.iconst 3, 1) := by decide +kernel
theorem d_Q_leadIfMostSaidYes_28 : decode c_Q_leadIfMostSaidYes 28 = .ok (.putfield 51, 3) := by decide +kernel
theorem d_Q_leadIfMostSaidYes_31 : decode c_Q_leadIfMostSaidYes 31 = .ok (.aload_n 1, 1) := by decide +kernel
theorem d_Q_leadIfMostSaidYes_32 : decode c_Q_leadIfMostSaidYes 32 = .ok (.iconst 0, 1) := by decide +kernel
theorem d_Q_leadIfMostSaidYes_33 : decode c_Q_leadIfMostSaidYes 33 = .ok (.putfield 147, 3) := by decide +kernel
theorem d_Q_leadIfMostSaidYes_36 : decode c_Q_leadIfMostSaidYes 36 = .ok (.iconst 0, 1) := by decide +kernel
theorem d_Q_leadIfMostSaidYes_37 : decode c_Q_leadIfMostSaidYes 37 = .ok (.istore_n 2, 1) := by decide +kernel
theorem d_Q_leadIfMostSaidYes_38 : decode c_Q_leadIfMostSaidYes 38 = .ok (.iload_n 2, 1) := by decide +kernel
theorem d_Q_leadIfMostSaidYes_39 : decode c_Q_leadIfMostSaidYes 39 = .ok (.iconst 5, 1) := by decide +kernel
theorem d_Q_leadIfMostSaidYes_40 : decode c_Q_leadIfMostSaidYes 40 = .ok (.if_icmp .ge (38), 3) := by decide +kernel
theorem d_Q_leadIfMostSaidYes_43 : decode c_Q_leadIfMostSaidYes 43 = .ok (.aload_n 1, 1) := by decide +kernel
theorem d_Q_leadIfMostSaidYes_44 : decode c_Q_leadIfMostSaidYes 44 = .ok (.getfield 267, 3) := by decide +kernel
theorem d_Q_leadIfMostSaidYes_47 : decode c_Q_leadIfMostSaidYes 47 = .ok (.iload_n 2, 1) := by decide +kernel
theorem d_Q_leadIfMostSaidYes_48 : decode c_Q_leadIfMostSaidYes 48 = .ok (.aload_n 1, 1) := by decide +kernel
theorem d_Q_leadIfMostSaidYes_49 : decode c_Q_leadIfMostSaidYes 49 = .ok (.getfield 85, 3) := by decide +kernel
theorem d_Q_leadIfMostSaidYes_52 : decode c_Q_leadIfMostSaidYes 52 = .ok (.invokevirtual 126, 3) := by decide +kernel
theorem d_Q_leadIfMostSaidYes_55 : decode c_Q_leadIfMostSaidYes 55 = .ok (.iconst 1, 1) := by decide +kernel
theorem d_Q_leadIfMostSaidYes_56 : decode c_Q_leadIfMostSaidYes 56 = .ok (.iadd, 1) := by decide +kernel
theorem d_Q_leadIfMostSaidYes_57 : decode c_Q_leadIfMostSaidYes 57 = .ok (.iastore, 1) := by decide +kernel
theorem d_Q_leadIfMostSaidYes_58 : decode c_Q_leadIfMostSaidYes 58 = .ok (.aload_n 1, 1) := by decide +kernel
theorem d_Q_leadIfMostSaidYes_59 : decode c_Q_leadIfMostSaidYes 59 = .ok (.getfield 270, 3) := by decide +kernel
theorem d_Q_leadIfMostSaidYes_62 : decode c_Q_leadIfMostSaidYes 62 = .ok (.iload_n 2, 1) := by decide +kernel
theorem d_Q_leadIfMostSaidYes_63 : decode c_Q_leadIfMostSaidYes 63 = .ok (.iconst 0, 1) := by decide +kernel
theorem d_Q_leadIfMostSaidYes_64 : decode c_Q_leadIfMostSaidYes 64 = .ok (.iastore, 1) := by decide +kernel
theorem d_Q_leadIfMostSaidYes_65 : decode c_Q_leadIfMostSaidYes 65 = .ok (.aload_n 1, 1) := by decide +kernel
theorem d_Q_leadIfMostSaidYes_66 : decode c_Q_leadIfMostSaidYes 66 = .ok (.getfield 273, 3) := by decide +kernel
theorem d_Q_leadIfMostSaidYes_69 : decode c_Q_leadIfMostSaidYes 69 = .ok (.iload_n 2, 1) := by decide +kernel
theorem d_Q_leadIfMostSaidYes_70 : decode c_Q_leadIfMostSaidYes 70 = .ok (.iconst 0, 1) := by decide +kernel
theorem d_Q_leadIfMostSaidYes_71 : decode c_Q_leadIfMostSaidYes 71 = .ok (.iastore, 1) := by decide +kernel
theorem d_Q_leadIfMostSaidYes_72 : decode c_Q_leadIfMostSaidYes 72 = .ok (.iinc 2 (1), 3) := by decide +kernel
theorem d_Q_leadIfMostSaidYes_75 : decode c_Q_leadIfMostSaidYes 75 = .ok (.goto (-37), 3) := by decide +kernel
theorem d_Q_leadIfMostSaidYes_78 : decode c_Q_leadIfMostSaidYes 78 = .ok (.aload_n 0, 1) := by decide +kernel
theorem d_Q_leadIfMostSaidYes_79 : decode c_Q_leadIfMostSaidYes 79 = .ok (.aload_n 1, 1) := by decide +kernel
theorem d_Q_leadIfMostSaidYes_80 : decode c_Q_leadIfMostSaidYes 80 = .ok (.new 101, 3) := by decide +kernel
theorem d_Q_leadIfMostSaidYes_83 : decode c_Q_leadIfMostSaidYes 83 = .ok (.dup, 1) := by decide +kernel
theorem d_Q_leadIfMostSaidYes_84 : decode c_Q_leadIfMostSaidYes 84 = .ok (.aload_n 1, 1) := by decide +kernel
theorem d_Q_leadIfMostSaidYes_85 : decode c_Q_leadIfMostSaidYes 85 = .ok (.getfield 61, 3) := by decide +kernel
theorem d_Q_leadIfMostSaidYes_88 : decode c_Q_leadIfMostSaidYes 88 = .ok (.iconst 0, 1) := by decide +kernel
theorem d_Q_leadIfMostSaidYes_89 : decode c_Q_leadIfMostSaidYes 89 = .ok (.iconst 0, 1) := by decide +kernel
theorem d_Q_leadIfMostSaidYes_90 : decode c_Q_leadIfMostSaidYes 90 = .ok (.iconst 0, 1) := by decide +kernel
theorem d_Q_leadIfMostSaidYes_91 : decode c_Q_leadIfMostSaidYes 91 = .ok (.invokespecial 103, 3) := by decide +kernel
theorem d_Q_leadIfMostSaidYes_94 : decode c_Q_leadIfMostSaidYes 94 = .ok (.invokevirtual 106, 3) := by decide +kernel
theorem d_Q_leadIfMostSaidYes_97 : decode c_Q_leadIfMostSaidYes 97 = .ok (.pop, 1) := by decide +kernel
theorem d_Q_leadIfMostSaidYes_98 : decode c_Q_leadIfMostSaidYes 98 = .ok (.return_, 1) := by decide +kernel
theorem d_Q_append_0 : decode c_Q_append 0 = .ok (.aload_n 1, 1) := by decide +kernel
theorem d_Q_append_1 : decode c_Q_append 1 = .ok (.getfield 85, 3) := by decide +kernel
theorem d_Q_append_4 : decode c_Q_append 4 = .ok (.aload_n 2, 1) := by decide +kernel
theorem d_Q_append_5 : decode c_Q_append 5 = .ok (.invokevirtual 276, 3) := by decide +kernel
theorem d_Q_append_8 : decode c_Q_append 8 = .ok (.pop, 1) := by decide +kernel
theorem d_Q_append_9 : decode c_Q_append 9 = .ok (.aload_n 0, 1) := by decide +kernel
theorem d_Q_append_10 : decode c_Q_append 10 = .ok (.aload_n 1, 1) := by decide +kernel
theorem d_Q_append_11 : decode c_Q_append 11 = .ok (.invokevirtual 280, 3) := by decide +kernel
theorem d_Q_append_14 : decode c_Q_append 14 = .ok (.aload_n 0, 1) := by decide +kernel
theorem d_Q_append_15 : decode c_Q_append 15 = .ok (.aload_n 1, 1) := by decide +kernel
theorem d_Q_append_16 : decode c_Q_append 16 = .ok (.invokevirtual 78, 3) := by decide +kernel
theorem d_Q_append_19 : decode c_Q_append 19 = .ok (.aload_n 1, 1) := by decide +kernel
theorem d_Q_append_20 : decode c_Q_append 20 = .ok (.getfield 85, 3) := by decide +kernel
theorem d_Q_append_23 : decode c_Q_append 23 = .ok (.invokevirtual 126, 3) := by decide +kernel
theorem d_Q_append_26 : decode c_Q_append 26 = .ok (.ireturn, 1) := by decide +kernel
theorem d_Q_lookAtCommit_0 : decode c_Q_lookAtCommit 0 = .ok (.aload_n 1, 1) := by decide +kernel
theorem d_Q_lookAtCommit_1 : decode c_Q_lookAtCommit 1 = .ok (.getfield 85, 3) := by decide +kernel
theorem d_Q_lookAtCommit_4 : decode c_Q_lookAtCommit 4 = .ok (.invokevirtual 115, 3) := by decide +kernel
theorem d_Q_lookAtCommit_7 : decode c_Q_lookAtCommit 7 = .ok (.istore_n 2, 1) := by decide +kernel
theorem d_Q_lookAtCommit_8 : decode c_Q_lookAtCommit 8 = .ok (.aload_n 1, 1) := by decide +kernel
theorem d_Q_lookAtCommit_9 : decode c_Q_lookAtCommit 9 = .ok (.getfield 85, 3) := by decide +kernel
theorem d_Q_lookAtCommit_12 : decode c_Q_lookAtCommit 12 = .ok (.invokevirtual 126, 3) := by decide +kernel
theorem d_Q_lookAtCommit_15 : decode c_Q_lookAtCommit 15 = .ok (.istore_n 3, 1) := by decide +kernel
theorem d_Q_lookAtCommit_16 : decode c_Q_lookAtCommit 16 = .ok (.iload_n 3, 1) := by decide +kernel
theorem d_Q_lookAtCommit_17 : decode c_Q_lookAtCommit 17 = .ok (.aload_n 1, 1) := by decide +kernel
theorem d_Q_lookAtCommit_18 : decode c_Q_lookAtCommit 18 = .ok (.getfield 133, 3) := by decide +kernel
theorem d_Q_lookAtCommit_21 : decode c_Q_lookAtCommit 21 = .ok (.if_icmp .le (44), 3) := by decide +kernel
theorem d_Q_lookAtCommit_24 : decode c_Q_lookAtCommit 24 = .ok (.aload_n 1, 1) := by decide +kernel
theorem d_Q_lookAtCommit_25 : decode c_Q_lookAtCommit 25 = .ok (.getfield 85, 3) := by decide +kernel
theorem d_Q_lookAtCommit_28 : decode c_Q_lookAtCommit 28 = .ok (.iload_n 3, 1) := by decide +kernel
theorem d_Q_lookAtCommit_29 : decode c_Q_lookAtCommit 29 = .ok (.invokevirtual 283, 3) := by decide +kernel
theorem d_Q_lookAtCommit_32 : decode c_Q_lookAtCommit 32 = .ok (.aload_n 1, 1) := by decide +kernel
theorem d_Q_lookAtCommit_33 : decode c_Q_lookAtCommit 33 = .ok (.getfield 61, 3) := by decide +kernel
theorem d_Q_lookAtCommit_36 : decode c_Q_lookAtCommit 36 = .ok (.if_icmp .ne (23), 3) := by decide +kernel
theorem d_Q_lookAtCommit_39 : decode c_Q_lookAtCommit 39 = .ok (.aload_n 1, 1) := by decide +kernel
theorem d_Q_lookAtCommit_40 : decode c_Q_lookAtCommit 40 = .ok (.iload_n 3, 1) := by decide +kernel
theorem d_Q_lookAtCommit_41 : decode c_Q_lookAtCommit 41 = .ok (.invokevirtual 286, 3) := by decide +kernel
theorem d_Q_lookAtCommit_44 : decode c_Q_lookAtCommit 44 = .ok (.iload_n 2, 1) := by decide +kernel
theorem d_Q_lookAtCommit_45 : decode c_Q_lookAtCommit 45 = .ok (.invokestatic 264, 3) := by decide +kernel
theorem d_Q_lookAtCommit_48 : decode c_Q_lookAtCommit 48 = .ok (.ifCond .eq (11), 3) := by decide +kernel
theorem d_Q_lookAtCommit_51 : decode c_Q_lookAtCommit 51 = .ok (.aload_n 1, 1) := by decide +kernel
theorem d_Q_lookAtCommit_52 : decode c_Q_lookAtCommit 52 = .ok (.iload_n 3, 1) := by decide +kernel
theorem d_Q_lookAtCommit_53 : decode c_Q_lookAtCommit 53 = .ok (.putfield 133, 3) := by decide +kernel
theorem d_Q_lookAtCommit_56 : decode c_Q_lookAtCommit 56 = .ok (.goto (9), 3) := by decide +kernel
theorem d_Q_lookAtCommit_59 : decode c_Q_lookAtCommit 59 = .ok (.iinc 3 (-1), 3) := by decide +kernel
theorem d_Q_lookAtCommit_62 : decode c_Q_lookAtCommit 62 = .ok (.goto (-46), 3) := by decide +kernel
theorem d_Q_lookAtCommit_65 : decode c_Q_lookAtCommit 65 = .ok (.aload_n 1, 1) := by decide +kernel
theorem d_Q_lookAtCommit_66 : decode c_Q_lookAtCommit 66 = .ok (.getfield 85, 3) := by decide +kernel
theorem d_Q_lookAtCommit_69 : decode c_Q_lookAtCommit 69 = .ok (.aload_n 1, 1) := by decide +kernel
theorem d_Q_lookAtCommit_70 : decode c_Q_lookAtCommit 70 = .ok (.getfield 85, 3) := by decide +kernel
theorem d_Q_lookAtCommit_73 : decode c_Q_lookAtCommit 73 = .ok (.invokevirtual 126, 3) := by decide +kernel
theorem d_Q_lookAtCommit_76 : decode c_Q_lookAtCommit 76 = .ok (.invokevirtual 129, 3) := by decide +kernel
theorem d_Q_lookAtCommit_79 : decode c_Q_lookAtCommit 79 = .ok (.istore_n 3, 1) := by decide +kernel
theorem d_Q_lookAtCommit_80 : decode c_Q_lookAtCommit 80 = .ok (.iload_n 3, 1) := by decide +kernel
theorem d_Q_lookAtCommit_81 : decode c_Q_lookAtCommit 81 = .ok (.iconst (-1), 1) := by decide +kernel
theorem d_Q_lookAtCommit_82 : decode c_Q_lookAtCommit 82 = .ok (.if_icmp .eq (27), 3) := by decide +kernel
theorem d_Q_lookAtCommit_85 : decode c_Q_lookAtCommit 85 = .ok (.iload_n 3, 1) := by decide +kernel
theorem d_Q_lookAtCommit_86 : decode c_Q_lookAtCommit 86 = .ok (.aload_n 1, 1) := by decide +kernel
theorem d_Q_lookAtCommit_87 : decode c_Q_lookAtCommit 87 = .ok (.getfield 133, 3) := by decide +kernel
theorem d_Q_lookAtCommit_90 : decode c_Q_lookAtCommit 90 = .ok (.if_icmp .gt (19), 3) := by decide +kernel
theorem d_Q_lookAtCommit_93 : decode c_Q_lookAtCommit 93 = .ok (.iload_n 2, 1) := by decide +kernel
theorem d_Q_lookAtCommit_94 : decode c_Q_lookAtCommit 94 = .ok (.aload_n 1, 1) := by decide +kernel
theorem d_Q_lookAtCommit_95 : decode c_Q_lookAtCommit 95 = .ok (.getfield 55, 3) := by decide +kernel
theorem d_Q_lookAtCommit_98 : decode c_Q_lookAtCommit 98 = .ok (.invokestatic 250, 3) := by decide +kernel
theorem d_Q_lookAtCommit_101 : decode c_Q_lookAtCommit 101 = .ok (.ifCond .ne (8), 3) := by decide +kernel
theorem d_Q_lookAtCommit_104 : decode c_Q_lookAtCommit 104 = .ok (.aload_n 0, 1) := by decide +kernel
theorem d_Q_lookAtCommit_105 : decode c_Q_lookAtCommit 105 = .ok (.aload_n 1, 1) := by decide +kernel
theorem d_Q_lookAtCommit_106 : decode c_Q_lookAtCommit 106 = .ok (.invokevirtual 184, 3) := by decide +kernel
theorem d_Q_lookAtCommit_109 : decode c_Q_lookAtCommit 109 = .ok (.return_, 1) := by decide +kernel
theorem d_Q_follow_0 : decode c_Q_follow 0 = .ok (.aload_n 1, 1) := by decide +kernel
theorem d_Q_follow_1 : decode c_Q_follow 1 = .ok (.getfield 51, 3) := by decide +kernel
theorem d_Q_follow_4 : decode c_Q_follow 4 = .ok (.iconst 3, 1) := by decide +kernel
theorem d_Q_follow_5 : decode c_Q_follow 5 = .ok (.if_icmp .ne (14), 3) := by decide +kernel
theorem d_Q_follow_8 : decode c_Q_follow 8 = .ok (.aload_n 0, 1) := by decide +kernel
theorem d_Q_follow_9 : decode c_Q_follow 9 = .ok (.getfield 18, 3) := by decide +kernel
theorem d_Q_follow_12 : decode c_Q_follow 12 = .ok (.aload_n 1, 1) := by decide +kernel
theorem d_Q_follow_13 : decode c_Q_follow 13 = .ok (.getfield 55, 3) := by decide +kernel
theorem d_Q_follow_16 : decode c_Q_follow 16 = .ok (.invokevirtual 315, 3) := by decide +kernel
theorem d_Q_follow_19 : decode c_Q_follow 19 = .ok (.aload_n 1, 1) := by decide +kernel
theorem d_Q_follow_20 : decode c_Q_follow 20 = .ok (.iconst 0, 1) := by decide +kernel
theorem d_Q_follow_21 : decode c_Q_follow 21 = .ok (.putfield 51, 3) := by decide +kernel
theorem d_Q_follow_24 : decode c_Q_follow 24 = .ok (.return_, 1) := by decide +kernel
theorem d_Q_sendToAll_0 : decode c_Q_sendToAll 0 = .ok (.aload_n 1, 1) := by decide +kernel
theorem d_Q_sendToAll_1 : decode c_Q_sendToAll 1 = .ok (.getfield 85, 3) := by decide +kernel
theorem d_Q_sendToAll_4 : decode c_Q_sendToAll 4 = .ok (.invokevirtual 115, 3) := by decide +kernel
theorem d_Q_sendToAll_7 : decode c_Q_sendToAll 7 = .ok (.istore_n 2, 1) := by decide +kernel
theorem d_Q_sendToAll_8 : decode c_Q_sendToAll 8 = .ok (.iconst 0, 1) := by decide +kernel
theorem d_Q_sendToAll_9 : decode c_Q_sendToAll 9 = .ok (.istore_n 3, 1) := by decide +kernel
theorem d_Q_sendToAll_10 : decode c_Q_sendToAll 10 = .ok (.iload_n 3, 1) := by decide +kernel
theorem d_Q_sendToAll_11 : decode c_Q_sendToAll 11 = .ok (.iconst 5, 1) := by decide +kernel
theorem d_Q_sendToAll_12 : decode c_Q_sendToAll 12 = .ok (.if_icmp .ge (31), 3) := by decide +kernel
theorem d_Q_sendToAll_15 : decode c_Q_sendToAll 15 = .ok (.iload_n 3, 1) := by decide +kernel
theorem d_Q_sendToAll_16 : decode c_Q_sendToAll 16 = .ok (.aload_n 1, 1) := by decide +kernel
theorem d_Q_sendToAll_17 : decode c_Q_sendToAll 17 = .ok (.getfield 55, 3) := by decide +kernel
theorem d_Q_sendToAll_20 : decode c_Q_sendToAll 20 = .ok (.if_icmp .eq (17), 3) := by decide +kernel
theorem d_Q_sendToAll_23 : decode c_Q_sendToAll 23 = .ok (.iload_n 2, 1) := by decide +kernel
theorem d_Q_sendToAll_24 : decode c_Q_sendToAll 24 = .ok (.iload_n 3, 1) := by decide +kernel
theorem d_Q_sendToAll_25 : decode c_Q_sendToAll 25 = .ok (.invokestatic 250, 3) := by decide +kernel
theorem d_Q_sendToAll_28 : decode c_Q_sendToAll 28 = .ok (.ifCond .eq (9), 3) := by decide +kernel
theorem d_Q_sendToAll_31 : decode c_Q_sendToAll 31 = .ok (.aload_n 0, 1) := by decide +kernel
theorem d_Q_sendToAll_32 : decode c_Q_sendToAll 32 = .ok (.aload_n 1, 1) := by decide +kernel
theorem d_Q_sendToAll_33 : decode c_Q_sendToAll 33 = .ok (.iload_n 3, 1) := by decide +kernel
theorem d_Q_sendToAll_34 : decode c_Q_sendToAll 34 = .ok (.invokevirtual 289, 3) := by decide +kernel
theorem d_Q_sendToAll_37 : decode c_Q_sendToAll 37 = .ok (.iinc 3 (1), 3) := by decide +kernel
theorem d_Q_sendToAll_40 : decode c_Q_sendToAll 40 = .ok (.goto (-30), 3) := by decide +kernel
theorem d_Q_sendToAll_43 : decode c_Q_sendToAll 43 = .ok (.return_, 1) := by decide +kernel
theorem d_Q_sendTo_0 : decode c_Q_sendTo 0 = .ok (.aload_n 1, 1) := by decide +kernel
theorem d_Q_sendTo_1 : decode c_Q_sendTo 1 = .ok (.getfield 267, 3) := by decide +kernel
theorem d_Q_sendTo_4 : decode c_Q_sendTo 4 = .ok (.iload_n 2, 1) := by decide +kernel
theorem d_Q_sendTo_5 : decode c_Q_sendTo 5 = .ok (.iaload, 1) := by decide +kernel
theorem d_Q_sendTo_6 : decode c_Q_sendTo 6 = .ok (.iconst 1, 1) := by decide +kernel
theorem d_Q_sendTo_7 : decode c_Q_sendTo 7 = .ok (.isub, 1) := by decide +kernel
theorem d_Q_sendTo_8 : decode c_Q_sendTo 8 = .ok (.istore_n 3, 1) := by decide +kernel
theorem d_Q_sendTo_9 : decode c_Q_sendTo 9 = .ok (.iload_n 3, 1) := by decide +kernel
theorem d_Q_sendTo_10 : decode c_Q_sendTo 10 = .ok (.aload_n 1, 1) := by decide +kernel
theorem d_Q_sendTo_11 : decode c_Q_sendTo 11 = .ok (.getfield 85, 3) := by decide +kernel
theorem d_Q_sendTo_14 : decode c_Q_sendTo 14 = .ok (.getfield 170, 3) := by decide +kernel
theorem d_Q_sendTo_17 : decode c_Q_sendTo 17 = .ok (.getfield 174, 3) := by decide +kernel
theorem d_Q_sendTo_20 : decode c_Q_sendTo 20 = .ok (.if_icmp .ge (7), 3) := by decide +kernel
theorem d_Q_sendTo_23 : decode c_Q_sendTo 23 = .ok (.iconst 1, 1) := by decide +kernel
theorem d_Q_sendTo_24 : decode c_Q_sendTo 24 = .ok (.goto (4), 3) := by decide +kernel
theorem d_Q_sendTo_27 : decode c_Q_sendTo 27 = .ok (.iconst 0, 1) := by decide +kernel
theorem d_Q_sendTo_28 : decode c_Q_sendTo 28 = .ok (.istore 4, 2) := by decide +kernel
theorem d_Q_sendTo_30 : decode c_Q_sendTo 30 = .ok (.aload_n 0, 1) := by decide +kernel
theorem d_Q_sendTo_31 : decode c_Q_sendTo 31 = .ok (.getfield 35, 3) := by decide +kernel
theorem d_Q_sendTo_34 : decode c_Q_sendTo 34 = .ok (.iload 4, 2) := by decide +kernel
theorem d_Q_sendTo_36 : decode c_Q_sendTo 36 = .ok (.ifCond .eq (8), 3) := by decide +kernel
theorem d_Q_sendTo_39 : decode c_Q_sendTo 39 = .ok (.bipush (6), 2) := by decide +kernel
theorem d_Q_sendTo_41 : decode c_Q_sendTo 41 = .ok (.goto (4), 3) := by decide +kernel
theorem d_Q_sendTo_44 : decode c_Q_sendTo 44 = .ok (.iconst 4, 1) := by decide +kernel
theorem d_Q_sendTo_45 : decode c_Q_sendTo 45 = .ok (.aload_n 1, 1) := by decide +kernel
theorem d_Q_sendTo_46 : decode c_Q_sendTo 46 = .ok (.getfield 55, 3) := by decide +kernel
theorem d_Q_sendTo_49 : decode c_Q_sendTo 49 = .ok (.iload_n 2, 1) := by decide +kernel
theorem d_Q_sendTo_50 : decode c_Q_sendTo 50 = .ok (.aload_n 1, 1) := by decide +kernel
theorem d_Q_sendTo_51 : decode c_Q_sendTo 51 = .ok (.getfield 61, 3) := by decide +kernel
theorem d_Q_sendTo_54 : decode c_Q_sendTo 54 = .ok (.invokevirtual 254, 3) := by decide +kernel
theorem d_Q_sendTo_57 : decode c_Q_sendTo 57 = .ok (.astore 5, 2) := by decide +kernel
theorem d_Q_sendTo_59 : decode c_Q_sendTo 59 = .ok (.aload 5, 2) := by decide +kernel
theorem d_Q_sendTo_61 : decode c_Q_sendTo 61 = .ok (.aload_n 1, 1) := by decide +kernel
theorem d_Q_sendTo_62 : decode c_Q_sendTo 62 = .ok (.getfield 147, 3) := by decide +kernel
theorem d_Q_sendTo_65 : decode c_Q_sendTo 65 = .ok (.putfield 219, 3) := by decide +kernel
theorem d_Q_sendTo_68 : decode c_Q_sendTo 68 = .ok (.iload 4, 2) := by decide +kernel
theorem d_Q_sendTo_70 : decode c_Q_sendTo 70 = .ok (.ifCond .eq (33), 3) := by decide +kernel
theorem d_Q_sendTo_73 : decode c_Q_sendTo 73 = .ok (.aload 5, 2) := by decide +kernel
theorem d_Q_sendTo_75 : decode c_Q_sendTo 75 = .ok (.aload_n 1, 1) := by decide +kernel
theorem d_Q_sendTo_76 : decode c_Q_sendTo 76 = .ok (.getfield 85, 3) := by decide +kernel
theorem d_Q_sendTo_79 : decode c_Q_sendTo 79 = .ok (.getfield 170, 3) := by decide +kernel
theorem d_Q_sendTo_82 : decode c_Q_sendTo 82 = .ok (.putfield 293, 3) := by decide +kernel
theorem d_Q_sendTo_85 : decode c_Q_sendTo 85 = .ok (.aload 5, 2) := by decide +kernel
theorem d_Q_sendTo_87 : decode c_Q_sendTo 87 = .ok (.aload_n 1, 1) := by decide +kernel
theorem d_Q_sendTo_88 : decode c_Q_sendTo 88 = .ok (.getfield 85, 3) := by decide +kernel
theorem d_Q_sendTo_91 : decode c_Q_sendTo 91 = .ok (.getfield 170, 3) := by decide +kernel
theorem d_Q_sendTo_94 : decode c_Q_sendTo 94 = .ok (.getfield 174, 3) := by decide +kernel
theorem d_Q_sendTo_97 : decode c_Q_sendTo 97 = .ok (.putfield 213, 3) := by decide +kernel
theorem d_Q_sendTo_100 : decode c_Q_sendTo 100 = .ok (.goto (49), 3) := by decide +kernel
theorem d_Q_sendTo_103 : decode c_Q_sendTo 103 = .ok (.aload 5, 2) := by decide +kernel
theorem d_Q_sendTo_105 : decode c_Q_sendTo 105 = .ok (.iload_n 3, 1) := by decide +kernel
theorem d_Q_sendTo_106 : decode c_Q_sendTo 106 = .ok (.putfield 213, 3) := by decide +kernel
theorem d_Q_sendTo_109 : decode c_Q_sendTo 109 = .ok (.aload 5, 2) := by decide +kernel
theorem d_Q_sendTo_111 : decode c_Q_sendTo 111 = .ok (.aload_n 1, 1) := by decide +kernel
theorem d_Q_sendTo_112 : decode c_Q_sendTo 112 = .ok (.getfield 85, 3) := by decide +kernel
theorem d_Q_sendTo_115 : decode c_Q_sendTo 115 = .ok (.iload_n 3, 1) := by decide +kernel
theorem d_Q_sendTo_116 : decode c_Q_sendTo 116 = .ok (.invokevirtual 283, 3) := by decide +kernel
theorem d_Q_sendTo_119 : decode c_Q_sendTo 119 = .ok (.putfield 261, 3) := by decide +kernel
theorem d_Q_sendTo_122 : decode c_Q_sendTo 122 = .ok (.aload 5, 2) := by decide +kernel
theorem d_Q_sendTo_124 : decode c_Q_sendTo 124 = .ok (.aload_n 1, 1) := by decide +kernel
theorem d_Q_sendTo_125 : decode c_Q_sendTo 125 = .ok (.getfield 133, 3) := by decide +kernel
theorem d_Q_sendTo_128 : decode c_Q_sendTo 128 = .ok (.putfield 294, 3) := by decide +kernel
theorem d_Q_sendTo_131 : decode c_Q_sendTo 131 = .ok (.aload 5, 2) := by decide +kernel
theorem d_Q_sendTo_133 : decode c_Q_sendTo 133 = .ok (.aload_n 1, 1) := by decide +kernel
theorem d_Q_sendTo_134 : decode c_Q_sendTo 134 = .ok (.getfield 85, 3) := by decide +kernel
theorem d_Q_sendTo_137 : decode c_Q_sendTo 137 = .ok (.iload_n 3, 1) := by decide +kernel
theorem d_Q_sendTo_138 : decode c_Q_sendTo 138 = .ok (.aload 5, 2) := by decide +kernel
theorem d_Q_sendTo_140 : decode c_Q_sendTo 140 = .ok (.getfield 295, 3) := by decide +kernel
theorem d_Q_sendTo_143 : decode c_Q_sendTo 143 = .ok (.invokevirtual 299, 3) := by decide +kernel
theorem d_Q_sendTo_146 : decode c_Q_sendTo 146 = .ok (.putfield 214, 3) := by decide +kernel
theorem d_Q_sendTo_149 : decode c_Q_sendTo 149 = .ok (.return_, 1) := by decide +kernel
theorem d_Q_beat_0 : decode c_Q_beat 0 = .ok (.iload_n 1, 1) := by decide +kernel
theorem d_Q_beat_1 : decode c_Q_beat 1 = .ok (.invokestatic 39, 3) := by decide +kernel
theorem d_Q_beat_4 : decode c_Q_beat 4 = .ok (.ifCond .eq (15), 3) := by decide +kernel
theorem d_Q_beat_7 : decode c_Q_beat 7 = .ok (.aload_n 0, 1) := by decide +kernel
theorem d_Q_beat_8 : decode c_Q_beat 8 = .ok (.getfield 11, 3) := by decide +kernel
theorem d_Q_beat_11 : decode c_Q_beat 11 = .ok (.iload_n 1, 1) := by decide +kernel
theorem d_Q_beat_12 : decode c_Q_beat 12 = .ok (.aaload, 1) := by decide +kernel
theorem d_Q_beat_13 : decode c_Q_beat 13 = .ok (.invokevirtual 75, 3) := by decide +kernel
theorem d_Q_beat_16 : decode c_Q_beat 16 = .ok (.ifCond .ne (5), 3) := by decide +kernel
theorem d_Q_beat_19 : decode c_Q_beat 19 = .ok (.iconst 0, 1) := by decide +kernel
theorem d_Q_beat_20 : decode c_Q_beat 20 = .ok (.ireturn, 1) := by decide +kernel
theorem d_Q_beat_21 : decode c_Q_beat 21 = .ok (.aload_n 0, 1) := by decide +kernel
theorem d_Q_beat_22 : decode c_Q_beat 22 = .ok (.aload_n 0, 1) := by decide +kernel
theorem d_Q_beat_23 : decode c_Q_beat 23 = .ok (.getfield 11, 3) := by decide +kernel
theorem d_Q_beat_26 : decode c_Q_beat 26 = .ok (.iload_n 1, 1) := by decide +kernel
theorem d_Q_beat_27 : decode c_Q_beat 27 = .ok (.aaload, 1) := by decide +kernel
theorem d_Q_beat_28 : decode c_Q_beat 28 = .ok (.invokevirtual 78, 3) := by decide +kernel
theorem d_Q_beat_31 : decode c_Q_beat 31 = .ok (.iconst 1, 1) := by decide +kernel
theorem d_Q_beat_32 : decode c_Q_beat 32 = .ok (.ireturn, 1) := by decide +kernel
theorem d_Q_outcome_0 : decode c_Q_outcome 0 = .ok (.aload_n 0, 1) := by decide +kernel
theorem d_Q_outcome_1 : decode c_Q_outcome 1 = .ok (.getfield 18, 3) := by decide +kernel
theorem d_Q_outcome_4 : decode c_Q_outcome 4 = .ok (.iload_n 1, 1) := by decide +kernel
theorem d_Q_outcome_5 : decode c_Q_outcome 5 = .ok (.invokevirtual 157, 3) := by decide +kernel
theorem d_Q_outcome_8 : decode c_Q_outcome 8 = .ok (.ifCond .eq (15), 3) := by decide +kernel
theorem d_Q_outcome_11 : decode c_Q_outcome 11 = .ok (.aload_n 0, 1) := by decide +kernel
theorem d_Q_outcome_12 : decode c_Q_outcome 12 = .ok (.getfield 18, 3) := by decide +kernel
theorem d_Q_outcome_15 : decode c_Q_outcome 15 = .ok (.getfield 160, 3) := by decide +kernel
theorem d_Q_outcome_18 : decode c_Q_outcome 18 = .ok (.iload_n 1, 1) := by decide +kernel
theorem d_Q_outcome_19 : decode c_Q_outcome 19 = .ok (.iaload, 1) := by decide +kernel
theorem d_Q_outcome_20 : decode c_Q_outcome 20 = .ok (.goto (4), 3) := by decide +kernel
theorem d_Q_outcome_23 : decode c_Q_outcome 23 = .ok (.iconst (-1), 1) := by decide +kernel
theorem d_Q_outcome_24 : decode c_Q_outcome 24 = .ok (.ireturn, 1) := by decide +kernel
theorem d_Q_value_0 : decode c_Q_value 0 = .ok (.aload_n 0, 1) := by decide +kernel
theorem d_Q_value_1 : decode c_Q_value 1 = .ok (.getfield 18, 3) := by decide +kernel
theorem d_Q_value_4 : decode c_Q_value 4 = .ok (.iload_n 1, 1) := by decide +kernel
theorem d_Q_value_5 : decode c_Q_value 5 = .ok (.invokevirtual 157, 3) := by decide +kernel
theorem d_Q_value_8 : decode c_Q_value 8 = .ok (.ifCond .eq (15), 3) := by decide +kernel
theorem d_Q_value_11 : decode c_Q_value 11 = .ok (.aload_n 0, 1) := by decide +kernel
theorem d_Q_value_12 : decode c_Q_value 12 = .ok (.getfield 18, 3) := by decide +kernel
theorem d_Q_value_15 : decode c_Q_value 15 = .ok (.getfield 164, 3) := by decide +kernel
theorem d_Q_value_18 : decode c_Q_value 18 = .ok (.iload_n 1, 1) := by decide +kernel
theorem d_Q_value_19 : decode c_Q_value 19 = .ok (.iaload, 1) := by decide +kernel
theorem d_Q_value_20 : decode c_Q_value 20 = .ok (.goto (4), 3) := by decide +kernel
theorem d_Q_value_23 : decode c_Q_value 23 = .ok (.iconst 0, 1) := by decide +kernel
theorem d_Q_value_24 : decode c_Q_value 24 = .ok (.ireturn, 1) := by decide +kernel
theorem d_Q_compact_0 : decode c_Q_compact 0 = .ok (.iload_n 1, 1) := by decide +kernel
theorem d_Q_compact_1 : decode c_Q_compact 1 = .ok (.invokestatic 39, 3) := by decide +kernel
theorem d_Q_compact_4 : decode c_Q_compact 4 = .ok (.ifCond .ne (5), 3) := by decide +kernel
theorem d_Q_compact_7 : decode c_Q_compact 7 = .ok (.iconst 0, 1) := by decide +kernel
theorem d_Q_compact_8 : decode c_Q_compact 8 = .ok (.ireturn, 1) := by decide +kernel
theorem d_Q_compact_9 : decode c_Q_compact 9 = .ok (.aload_n 0, 1) := by decide +kernel
theorem d_Q_compact_10 : decode c_Q_compact 10 = .ok (.getfield 11, 3) := by decide +kernel
theorem d_Q_compact_13 : decode c_Q_compact 13 = .ok (.iload_n 1, 1) := by decide +kernel
theorem d_Q_compact_14 : decode c_Q_compact 14 = .ok (.aaload, 1) := by decide +kernel
theorem d_Q_compact_15 : decode c_Q_compact 15 = .ok (.astore_n 2, 1) := by decide +kernel
theorem d_Q_compact_16 : decode c_Q_compact 16 = .ok (.aload_n 2, 1) := by decide +kernel
theorem d_Q_compact_17 : decode c_Q_compact 17 = .ok (.getfield 167, 3) := by decide +kernel
theorem d_Q_compact_20 : decode c_Q_compact 20 = .ok (.ifCond .eq (20), 3) := by decide +kernel
theorem d_Q_compact_23 : decode c_Q_compact 23 = .ok (.aload_n 2, 1) := by decide +kernel
theorem d_Q_compact_24 : decode c_Q_compact 24 = .ok (.getfield 133, 3) := by decide +kernel
theorem d_Q_compact_27 : decode c_Q_compact 27 = .ok (.aload_n 2, 1) := by decide +kernel
theorem d_Q_compact_28 : decode c_Q_compact 28 = .ok (.getfield 85, 3) := by decide +kernel
theorem d_Q_compact_31 : decode c_Q_compact 31 = .ok (.getfield 170, 3) := by decide +kernel
theorem d_Q_compact_34 : decode c_Q_compact 34 = .ok (.getfield 174, 3) := by decide +kernel
theorem d_Q_compact_37 : decode c_Q_compact 37 = .ok (.if_icmp .ne (5), 3) := by decide +kernel
theorem d_Q_compact_40 : decode c_Q_compact 40 = .ok (.iconst 0, 1) := by decide +kernel
theorem d_Q_compact_41 : decode c_Q_compact 41 = .ok (.ireturn, 1) := by decide +kernel
theorem d_Q_compact_42 : decode c_Q_compact 42 = .ok (.aload_n 2, 1) := by decide +kernel
theorem d_Q_compact_43 : decode c_Q_compact 43 = .ok (.getfield 85, 3) := by decide +kernel
theorem d_Q_compact_46 : decode c_Q_compact 46 = .ok (.aload_n 2, 1) := by decide +kernel
theorem d_Q_compact_47 : decode c_Q_compact 47 = .ok (.getfield 85, 3) := by decide +kernel
theorem d_Q_compact_50 : decode c_Q_compact 50 = .ok (.aload_n 2, 1) := by decide +kernel
theorem d_Q_compact_51 : decode c_Q_compact 51 = .ok (.getfield 133, 3) := by decide +kernel
theorem d_Q_compact_54 : decode c_Q_compact 54 = .ok (.invokevirtual 177, 3) := by decide +kernel
theorem d_Q_compact_57 : decode c_Q_compact 57 = .ok (.invokevirtual 181, 3) := by decide +kernel
theorem d_Q_compact_60 : decode c_Q_compact 60 = .ok (.iconst 1, 1) := by decide +kernel
theorem d_Q_compact_61 : decode c_Q_compact 61 = .ok (.ireturn, 1) := by decide +kernel
theorem d_Q_crash_0 : decode c_Q_crash 0 = .ok (.iload_n 1, 1) := by decide +kernel
theorem d_Q_crash_1 : decode c_Q_crash 1 = .ok (.invokestatic 39, 3) := by decide +kernel
theorem d_Q_crash_4 : decode c_Q_crash 4 = .ok (.ifCond .eq (15), 3) := by decide +kernel
theorem d_Q_crash_7 : decode c_Q_crash 7 = .ok (.aload_n 0, 1) := by decide +kernel
theorem d_Q_crash_8 : decode c_Q_crash 8 = .ok (.getfield 11, 3) := by decide +kernel
theorem d_Q_crash_11 : decode c_Q_crash 11 = .ok (.iload_n 1, 1) := by decide +kernel
theorem d_Q_crash_12 : decode c_Q_crash 12 = .ok (.aaload, 1) := by decide +kernel
theorem d_Q_crash_13 : decode c_Q_crash 13 = .ok (.getfield 167, 3) := by decide +kernel
theorem d_Q_crash_16 : decode c_Q_crash 16 = .ok (.ifCond .ne (5), 3) := by decide +kernel
theorem d_Q_crash_19 : decode c_Q_crash 19 = .ok (.iconst 0, 1) := by decide +kernel
theorem d_Q_crash_20 : decode c_Q_crash 20 = .ok (.ireturn, 1) := by decide +kernel
theorem d_Q_crash_21 : decode c_Q_crash 21 = .ok (.aload_n 0, 1) := by decide +kernel
theorem d_Q_crash_22 : decode c_Q_crash 22 = .ok (.getfield 11, 3) := by decide +kernel
theorem d_Q_crash_25 : decode c_Q_crash 25 = .ok (.iload_n 1, 1) := by decide +kernel
theorem d_Q_crash_26 : decode c_Q_crash 26 = .ok (.aaload, 1) := by decide +kernel
theorem d_Q_crash_27 : decode c_Q_crash 27 = .ok (.astore_n 2, 1) := by decide +kernel
theorem d_Q_crash_28 : decode c_Q_crash 28 = .ok (.aload_n 0, 1) := by decide +kernel
theorem d_Q_crash_29 : decode c_Q_crash 29 = .ok (.aload_n 2, 1) := by decide +kernel
theorem d_Q_crash_30 : decode c_Q_crash 30 = .ok (.invokevirtual 184, 3) := by decide +kernel
theorem d_Q_crash_33 : decode c_Q_crash 33 = .ok (.aload_n 2, 1) := by decide +kernel
theorem d_Q_crash_34 : decode c_Q_crash 34 = .ok (.iconst 0, 1) := by decide +kernel
theorem d_Q_crash_35 : decode c_Q_crash 35 = .ok (.putfield 167, 3) := by decide +kernel
theorem d_Q_crash_38 : decode c_Q_crash 38 = .ok (.aload_n 2, 1) := by decide +kernel
theorem d_Q_crash_39 : decode c_Q_crash 39 = .ok (.iconst 0, 1) := by decide +kernel
theorem d_Q_crash_40 : decode c_Q_crash 40 = .ok (.putfield 47, 3) := by decide +kernel
theorem d_Q_crash_43 : decode c_Q_crash 43 = .ok (.aload_n 2, 1) := by decide +kernel
theorem d_Q_crash_44 : decode c_Q_crash 44 = .ok (.aload_n 2, 1) := by decide +kernel
theorem d_Q_crash_45 : decode c_Q_crash 45 = .ok (.getfield 85, 3) := by decide +kernel
theorem d_Q_crash_48 : decode c_Q_crash 48 = .ok (.getfield 170, 3) := by decide +kernel
theorem d_Q_crash_51 : decode c_Q_crash 51 = .ok (.getfield 174, 3) := by decide +kernel
theorem d_Q_crash_54 : decode c_Q_crash 54 = .ok (.putfield 133, 3) := by decide +kernel
theorem d_Q_crash_57 : decode c_Q_crash 57 = .ok (.iconst 1, 1) := by decide +kernel
theorem d_Q_crash_58 : decode c_Q_crash 58 = .ok (.ireturn, 1) := by decide +kernel
theorem d_Q_restart_0 : decode c_Q_restart 0 = .ok (.iload_n 1, 1) := by decide +kernel
theorem d_Q_restart_1 : decode c_Q_restart 1 = .ok (.invokestatic 39, 3) := by decide +kernel
theorem d_Q_restart_4 : decode c_Q_restart 4 = .ok (.ifCond .eq (15), 3) := by decide +kernel
theorem d_Q_restart_7 : decode c_Q_restart 7 = .ok (.aload_n 0, 1) := by decide +kernel
theorem d_Q_restart_8 : decode c_Q_restart 8 = .ok (.getfield 11, 3) := by decide +kernel
theorem d_Q_restart_11 : decode c_Q_restart 11 = .ok (.iload_n 1, 1) := by decide +kernel
theorem d_Q_restart_12 : decode c_Q_restart 12 = .ok (.aaload, 1) := by decide +kernel
theorem d_Q_restart_13 : decode c_Q_restart 13 = .ok (.getfield 167, 3) := by decide +kernel
theorem d_Q_restart_16 : decode c_Q_restart 16 = .ok (.ifCond .eq (5), 3) := by decide +kernel
theorem d_Q_restart_19 : decode c_Q_restart 19 = .ok (.iconst 0, 1) := by decide +kernel
theorem d_Q_restart_20 : decode c_Q_restart 20 = .ok (.ireturn, 1) := by decide +kernel
theorem d_Q_restart_21 : decode c_Q_restart 21 = .ok (.aload_n 0, 1) := by decide +kernel
theorem d_Q_restart_22 : decode c_Q_restart 22 = .ok (.getfield 11, 3) := by decide +kernel
theorem d_Q_restart_25 : decode c_Q_restart 25 = .ok (.iload_n 1, 1) := by decide +kernel
theorem d_Q_restart_26 : decode c_Q_restart 26 = .ok (.aaload, 1) := by decide +kernel
theorem d_Q_restart_27 : decode c_Q_restart 27 = .ok (.iconst 1, 1) := by decide +kernel
theorem d_Q_restart_28 : decode c_Q_restart 28 = .ok (.putfield 167, 3) := by decide +kernel
theorem d_Q_restart_31 : decode c_Q_restart 31 = .ok (.iconst 1, 1) := by decide +kernel
theorem d_Q_restart_32 : decode c_Q_restart 32 = .ok (.ireturn, 1) := by decide +kernel
theorem d_Q_deliver_0 : decode c_Q_deliver 0 = .ok (.aload_n 0, 1) := by decide +kernel
theorem d_Q_deliver_1 : decode c_Q_deliver 1 = .ok (.getfield 35, 3) := by decide +kernel
theorem d_Q_deliver_4 : decode c_Q_deliver 4 = .ok (.iload_n 1, 1) := by decide +kernel
theorem d_Q_deliver_5 : decode c_Q_deliver 5 = .ok (.invokevirtual 187, 3) := by decide +kernel
theorem d_Q_deliver_8 : decode c_Q_deliver 8 = .ok (.ifCond .ne (5), 3) := by decide +kernel
theorem d_Q_deliver_11 : decode c_Q_deliver 11 = .ok (.iconst (-1), 1) := by decide +kernel
theorem d_Q_deliver_12 : decode c_Q_deliver 12 = .ok (.ireturn, 1) := by decide +kernel
theorem d_Q_deliver_13 : decode c_Q_deliver 13 = .ok (.aload_n 0, 1) := by decide +kernel
theorem d_Q_deliver_14 : decode c_Q_deliver 14 = .ok (.getfield 35, 3) := by decide +kernel
theorem d_Q_deliver_17 : decode c_Q_deliver 17 = .ok (.iload_n 1, 1) := by decide +kernel
theorem d_Q_deliver_18 : decode c_Q_deliver 18 = .ok (.invokevirtual 188, 3) := by decide +kernel
theorem d_Q_deliver_21 : decode c_Q_deliver 21 = .ok (.astore_n 2, 1) := by decide +kernel
theorem d_Q_deliver_22 : decode c_Q_deliver 22 = .ok (.aload_n 0, 1) := by decide +kernel
theorem d_Q_deliver_23 : decode c_Q_deliver 23 = .ok (.getfield 11, 3) := by decide +kernel
theorem d_Q_deliver_26 : decode c_Q_deliver 26 = .ok (.aload_n 2, 1) := by decide +kernel
theorem d_Q_deliver_27 : decode c_Q_deliver 27 = .ok (.getfield 192, 3) := by decide +kernel
theorem d_Q_deliver_30 : decode c_Q_deliver 30 = .ok (.aaload, 1) := by decide +kernel
theorem d_Q_deliver_31 : decode c_Q_deliver 31 = .ok (.astore_n 3, 1) := by decide +kernel
theorem d_Q_deliver_32 : decode c_Q_deliver 32 = .ok (.aload_n 3, 1) := by decide +kernel
theorem d_Q_deliver_33 : decode c_Q_deliver 33 = .ok (.getfield 167, 3) := by decide +kernel
theorem d_Q_deliver_36 : decode c_Q_deliver 36 = .ok (.ifCond .eq (19), 3) := by decide +kernel
theorem d_Q_deliver_39 : decode c_Q_deliver 39 = .ok (.aload_n 0, 1) := by decide +kernel
theorem d_Q_deliver_40 : decode c_Q_deliver 40 = .ok (.aload_n 3, 1) := by decide +kernel
theorem d_Q_deliver_41 : decode c_Q_deliver 41 = .ok (.aload_n 2, 1) := by decide +kernel
theorem d_Q_deliver_42 : decode c_Q_deliver 42 = .ok (.invokevirtual 197, 3) := by decide +kernel
theorem d_Q_deliver_45 : decode c_Q_deliver 45 = .ok (.aload_n 0, 1) := by decide +kernel
theorem d_Q_deliver_46 : decode c_Q_deliver 46 = .ok (.aload_n 3, 1) := by decide +kernel
theorem d_Q_deliver_47 : decode c_Q_deliver 47 = .ok (.invokevirtual 68, 3) := by decide +kernel
theorem d_Q_deliver_50 : decode c_Q_deliver 50 = .ok (.aload_n 0, 1) := by decide +kernel
theorem d_Q_deliver_51 : decode c_Q_deliver 51 = .ok (.aload_n 3, 1) := by decide +kernel
theorem d_Q_deliver_52 : decode c_Q_deliver 52 = .ok (.invokevirtual 72, 3) := by decide +kernel
theorem d_Q_deliver_55 : decode c_Q_deliver 55 = .ok (.aload_n 2, 1) := by decide +kernel
theorem d_Q_deliver_56 : decode c_Q_deliver 56 = .ok (.getfield 201, 3) := by decide +kernel
theorem d_Q_deliver_59 : decode c_Q_deliver 59 = .ok (.ireturn, 1) := by decide +kernel
theorem d_Q_come_0 : decode c_Q_come 0 = .ok (.aload_n 2, 1) := by decide +kernel
theorem d_Q_come_1 : decode c_Q_come 1 = .ok (.getfield 201, 3) := by decide +kernel
theorem d_Q_come_4 : decode c_Q_come 4 = .ok (.ifCond .eq (31), 3) := by decide +kernel
theorem d_Q_come_7 : decode c_Q_come 7 = .ok (.aload_n 2, 1) := by decide +kernel
theorem d_Q_come_8 : decode c_Q_come 8 = .ok (.getfield 201, 3) := by decide +kernel
theorem d_Q_come_11 : decode c_Q_come 11 = .ok (.iconst 1, 1) := by decide +kernel
theorem d_Q_come_12 : decode c_Q_come 12 = .ok (.if_icmp .eq (23), 3) := by decide +kernel
theorem d_Q_come_15 : decode c_Q_come 15 = .ok (.aload_n 2, 1) := by decide +kernel
theorem d_Q_come_16 : decode c_Q_come 16 = .ok (.getfield 212, 3) := by decide +kernel
theorem d_Q_come_19 : decode c_Q_come 19 = .ok (.aload_n 1, 1) := by decide +kernel
theorem d_Q_come_20 : decode c_Q_come 20 = .ok (.getfield 61, 3) := by decide +kernel
theorem d_Q_come_23 : decode c_Q_come 23 = .ok (.if_icmp .le (12), 3) := by decide +kernel
theorem d_Q_come_26 : decode c_Q_come 26 = .ok (.aload_n 0, 1) := by decide +kernel
theorem d_Q_come_27 : decode c_Q_come 27 = .ok (.aload_n 1, 1) := by decide +kernel
theorem d_Q_come_28 : decode c_Q_come 28 = .ok (.aload_n 2, 1) := by decide +kernel
theorem d_Q_come_29 : decode c_Q_come 29 = .ok (.getfield 212, 3) := by decide +kernel
theorem d_Q_come_32 : decode c_Q_come 32 = .ok (.invokevirtual 319, 3) := by decide +kernel
theorem d_Q_come_35 : decode c_Q_come 35 = .ok (.aload_n 2, 1) := by decide +kernel
theorem d_Q_come_36 : decode c_Q_come 36 = .ok (.getfield 201, 3) := by decide +kernel
theorem d_Q_come_39 : decode c_Q_come 39 = .ok (.tableswitch (104) (0) (6) #[41, 50, 59, 68, 77, 86, 95], 41) := by decide +kernel
theorem d_Q_come_80 : decode c_Q_come 80 = .ok (.aload_n 0, 1) := by decide +kernel
theorem d_Q_come_81 : decode c_Q_come 81 = .ok (.aload_n 1, 1) := by decide +kernel
theorem d_Q_come_82 : decode c_Q_come 82 = .ok (.aload_n 2, 1) := by decide +kernel
theorem d_Q_come_83 : decode c_Q_come 83 = .ok (.invokevirtual 322, 3) := by decide +kernel
theorem d_Q_come_86 : decode c_Q_come 86 = .ok (.goto (57), 3) := by decide +kernel
theorem d_Q_come_89 : decode c_Q_come 89 = .ok (.aload_n 0, 1) := by decide +kernel
theorem d_Q_come_90 : decode c_Q_come 90 = .ok (.aload_n 1, 1) := by decide +kernel
theorem d_Q_come_91 : decode c_Q_come 91 = .ok (.aload_n 2, 1) := by decide +kernel
theorem d_Q_come_92 : decode c_Q_come 92 = .ok (.invokevirtual 325, 3) := by decide +kernel
theorem d_Q_come_95 : decode c_Q_come 95 = .ok (.goto (48), 3) := by decide +kernel
theorem d_Q_come_98 : decode c_Q_come 98 = .ok (.aload_n 0, 1) := by decide +kernel
theorem d_Q_come_99 : decode c_Q_come 99 = .ok (.aload_n 1, 1) := by decide +kernel
theorem d_Q_come_100 : decode c_Q_come 100 = .ok (.aload_n 2, 1) := by decide +kernel
theorem d_Q_come_101 : decode c_Q_come 101 = .ok (.invokevirtual 328, 3) := by decide +kernel
theorem d_Q_come_104 : decode c_Q_come 104 = .ok (.goto (39), 3) := by decide +kernel
theorem d_Q_come_107 : decode c_Q_come 107 = .ok (.aload_n 0, 1) := by decide +kernel
theorem d_Q_come_108 : decode c_Q_come 108 = .ok (.aload_n 1, 1) := by decide +kernel
theorem d_Q_come_109 : decode c_Q_come 109 = .ok (.aload_n 2, 1) := by decide +kernel
theorem d_Q_come_110 : decode c_Q_come 110 = .ok (.invokevirtual 331, 3) := by decide +kernel
theorem d_Q_come_113 : decode c_Q_come 113 = .ok (.goto (30), 3) := by decide +kernel
theorem d_Q_come_116 : decode c_Q_come 116 = .ok (.aload_n 0, 1) := by decide +kernel
theorem d_Q_come_117 : decode c_Q_come 117 = .ok (.aload_n 1, 1) := by decide +kernel
theorem d_Q_come_118 : decode c_Q_come 118 = .ok (.aload_n 2, 1) := by decide +kernel
theorem d_Q_come_119 : decode c_Q_come 119 = .ok (.invokevirtual 334, 3) := by decide +kernel
theorem d_Q_come_122 : decode c_Q_come 122 = .ok (.goto (21), 3) := by decide +kernel
theorem d_Q_come_125 : decode c_Q_come 125 = .ok (.aload_n 0, 1) := by decide +kernel
theorem d_Q_come_126 : decode c_Q_come 126 = .ok (.aload_n 1, 1) := by decide +kernel
theorem d_Q_come_127 : decode c_Q_come 127 = .ok (.aload_n 2, 1) := by decide +kernel
theorem d_Q_come_128 : decode c_Q_come 128 = .ok (.invokevirtual 337, 3) := by decide +kernel
theorem d_Q_come_131 : decode c_Q_come 131 = .ok (.goto (12), 3) := by decide +kernel
theorem d_Q_come_134 : decode c_Q_come 134 = .ok (.aload_n 0, 1) := by decide +kernel
theorem d_Q_come_135 : decode c_Q_come 135 = .ok (.aload_n 1, 1) := by decide +kernel
theorem d_Q_come_136 : decode c_Q_come 136 = .ok (.aload_n 2, 1) := by decide +kernel
theorem d_Q_come_137 : decode c_Q_come 137 = .ok (.invokevirtual 340, 3) := by decide +kernel
theorem d_Q_come_140 : decode c_Q_come 140 = .ok (.goto (3), 3) := by decide +kernel
theorem d_Q_come_143 : decode c_Q_come 143 = .ok (.return_, 1) := by decide +kernel
theorem d_Q_enterTerm_0 : decode c_Q_enterTerm 0 = .ok (.aload_n 1, 1) := by decide +kernel
theorem d_Q_enterTerm_1 : decode c_Q_enterTerm 1 = .ok (.iload_n 2, 1) := by decide +kernel
theorem d_Q_enterTerm_2 : decode c_Q_enterTerm 2 = .ok (.putfield 61, 3) := by decide +kernel
theorem d_Q_enterTerm_5 : decode c_Q_enterTerm 5 = .ok (.aload_n 1, 1) := by decide +kernel
theorem d_Q_enterTerm_6 : decode c_Q_enterTerm 6 = .ok (.iconst (-1), 1) := by decide +kernel
theorem d_Q_enterTerm_7 : decode c_Q_enterTerm 7 = .ok (.putfield 220, 3) := by decide +kernel
theorem d_Q_enterTerm_10 : decode c_Q_enterTerm 10 = .ok (.aload_n 0, 1) := by decide +kernel
theorem d_Q_enterTerm_11 : decode c_Q_enterTerm 11 = .ok (.aload_n 1, 1) := by decide +kernel
theorem d_Q_enterTerm_12 : decode c_Q_enterTerm 12 = .ok (.invokevirtual 184, 3) := by decide +kernel
theorem d_Q_enterTerm_15 : decode c_Q_enterTerm 15 = .ok (.return_, 1) := by decide +kernel
theorem d_Q_questionComes_0 : decode c_Q_questionComes 0 = .ok (.aload_n 1, 1) := by decide +kernel
theorem d_Q_questionComes_1 : decode c_Q_questionComes 1 = .ok (.getfield 47, 3) := by decide +kernel
theorem d_Q_questionComes_4 : decode c_Q_questionComes 4 = .ok (.ifCond .ne (29), 3) := by decide +kernel
theorem d_Q_questionComes_7 : decode c_Q_questionComes 7 = .ok (.aload_n 2, 1) := by decide +kernel
theorem d_Q_questionComes_8 : decode c_Q_questionComes 8 = .ok (.getfield 212, 3) := by decide +kernel
theorem d_Q_questionComes_11 : decode c_Q_questionComes 11 = .ok (.aload_n 1, 1) := by decide +kernel
theorem d_Q_questionComes_12 : decode c_Q_questionComes 12 = .ok (.getfield 61, 3) := by decide +kernel
theorem d_Q_questionComes_15 : decode c_Q_questionComes 15 = .ok (.if_icmp .le (18), 3) := by decide +kernel
theorem d_Q_questionComes_18 : decode c_Q_questionComes 18 = .ok (.aload_n 1, 1) := by decide +kernel
theorem d_Q_questionComes_19 : decode c_Q_questionComes 19 = .ok (.getfield 85, 3) := by decide +kernel
theorem d_Q_questionComes_22 : decode c_Q_questionComes 22 = .ok (.aload_n 2, 1) := by decide +kernel
theorem d_Q_questionComes_23 : decode c_Q_questionComes 23 = .ok (.invokevirtual 343, 3) := by decide +kernel
theorem d_Q_questionComes_26 : decode c_Q_questionComes 26 = .ok (.ifCond .ne (7), 3) := by decide +kernel
theorem d_Q_questionComes_29 : decode c_Q_questionComes 29 = .ok (.iconst 1, 1) := by decide +kernel
theorem d_Q_questionComes_30 : decode c_Q_questionComes 30 = .ok (.goto (4), 3) := by decide +kernel
theorem d_Q_questionComes_33 : decode c_Q_questionComes 33 = .ok (.iconst 0, 1) := by decide +kernel
theorem d_Q_questionComes_34 : decode c_Q_questionComes 34 = .ok (.istore_n 3, 1) := by decide +kernel
theorem d_Q_questionComes_35 : decode c_Q_questionComes 35 = .ok (.aload_n 0, 1) := by decide +kernel
theorem d_Q_questionComes_36 : decode c_Q_questionComes 36 = .ok (.getfield 35, 3) := by decide +kernel
theorem d_Q_questionComes_39 : decode c_Q_questionComes 39 = .ok (.iconst 1, 1) := by decide +kernel
theorem d_Q_questionComes_40 : decode c_Q_questionComes 40 = .ok (.aload_n 1, 1) := by decide +kernel
theorem d_Q_questionComes_41 : decode c_Q_questionComes 41 = .ok (.getfield 55, 3) := by decide +kernel
theorem d_Q_questionComes_44 : decode c_Q_questionComes 44 = .ok (.aload_n 2, 1) := by decide +kernel
theorem d_Q_questionComes_45 : decode c_Q_questionComes 45 = .ok (.getfield 209, 3) := by decide +kernel
theorem d_Q_questionComes_48 : decode c_Q_questionComes 48 = .ok (.iload_n 3, 1) := by decide +kernel
theorem d_Q_questionComes_49 : decode c_Q_questionComes 49 = .ok (.ifCond .eq (10), 3) := by decide +kernel
theorem d_Q_questionComes_52 : decode c_Q_questionComes 52 = .ok (.aload_n 2, 1) := by decide +kernel
theorem d_Q_questionComes_53 : decode c_Q_questionComes 53 = .ok (.getfield 212, 3) := by decide +kernel
theorem d_Q_questionComes_56 : decode c_Q_questionComes 56 = .ok (.goto (7), 3) := by decide +kernel
theorem d_Q_questionComes_59 : decode c_Q_questionComes 59 = .ok (.aload_n 1, 1) := by decide +kernel
theorem d_Q_questionComes_60 : decode c_Q_questionComes 60 = .ok (.getfield 61, 3) := by decide +kernel
theorem d_Q_questionComes_63 : decode c_Q_questionComes 63 = .ok (.invokevirtual 254, 3) := by decide +kernel
theorem d_Q_questionComes_66 : decode c_Q_questionComes 66 = .ok (.astore 4, 2) := by decide +kernel
theorem d_Q_questionComes_68 : decode c_Q_questionComes 68 = .ok (.aload 4, 2) := by decide +kernel
theorem d_Q_questionComes_70 : decode c_Q_questionComes 70 = .ok (.iload_n 3, 1) := by decide +kernel
theorem d_Q_questionComes_71 : decode c_Q_questionComes 71 = .ok (.putfield 217, 3) := by decide +kernel
theorem d_Q_questionComes_74 : decode c_Q_questionComes 74 = .ok (.return_, 1) := by decide +kernel
theorem d_Q_answerComes_0 : decode c_Q_answerComes 0 = .ok (.aload_n 2, 1) := by decide +kernel
theorem d_Q_answerComes_1 : decode c_Q_answerComes 1 = .ok (.getfield 217, 3) := by decide +kernel
theorem d_Q_answerComes_4 : decode c_Q_answerComes 4 = .ok (.ifCond .eq (42), 3) := by decide +kernel
theorem d_Q_answerComes_7 : decode c_Q_answerComes 7 = .ok (.aload_n 1, 1) := by decide +kernel
theorem d_Q_answerComes_8 : decode c_Q_answerComes 8 = .ok (.getfield 51, 3) := by decide +kernel
theorem d_Q_answerComes_11 : decode c_Q_answerComes 11 = .ok (.iconst 1, 1) := by decide +kernel
theorem d_Q_answerComes_12 : decode c_Q_answerComes 12 = .ok (.if_icmp .ne (54), 3) := by decide +kernel
theorem d_Q_answerComes_15 : decode c_Q_answerComes 15 = .ok (.aload_n 2, 1) := by decide +kernel
theorem d_Q_answerComes_16 : decode c_Q_answerComes 16 = .ok (.getfield 212, 3) := by decide +kernel
theorem d_Q_answerComes_19 : decode c_Q_answerComes 19 = .ok (.aload_n 1, 1) := by decide +kernel
theorem d_Q_answerComes_20 : decode c_Q_answerComes 20 = .ok (.getfield 61, 3) := by decide +kernel
theorem d_Q_answerComes_23 : decode c_Q_answerComes 23 = .ok (.iconst 1, 1) := by decide +kernel
theorem d_Q_answerComes_24 : decode c_Q_answerComes 24 = .ok (.iadd, 1) := by decide +kernel
theorem d_Q_answerComes_25 : decode c_Q_answerComes 25 = .ok (.if_icmp .ne (41), 3) := by decide +kernel
theorem d_Q_answerComes_28 : decode c_Q_answerComes 28 = .ok (.aload_n 1, 1) := by decide +kernel
theorem d_Q_answerComes_29 : decode c_Q_answerComes 29 = .ok (.dup, 1) := by decide +kernel
theorem d_Q_answerComes_30 : decode c_Q_answerComes 30 = .ok (.getfield 58, 3) := by decide +kernel
theorem d_Q_answerComes_33 : decode c_Q_answerComes 33 = .ok (.iconst 1, 1) := by decide +kernel
theorem d_Q_answerComes_34 : decode c_Q_answerComes 34 = .ok (.aload_n 2, 1) := by decide +kernel
theorem d_Q_answerComes_35 : decode c_Q_answerComes 35 = .ok (.getfield 209, 3) := by decide +kernel
theorem d_Q_answerComes_38 : decode c_Q_answerComes 38 = .ok (.ishl, 1) := by decide +kernel
theorem d_Q_answerComes_39 : decode c_Q_answerComes 39 = .ok (.ior, 1) := by decide +kernel
theorem d_Q_answerComes_40 : decode c_Q_answerComes 40 = .ok (.putfield 58, 3) := by decide +kernel
theorem d_Q_answerComes_43 : decode c_Q_answerComes 43 = .ok (.goto (23), 3) := by decide +kernel
theorem d_Q_answerComes_46 : decode c_Q_answerComes 46 = .ok (.aload_n 2, 1) := by decide +kernel
theorem d_Q_answerComes_47 : decode c_Q_answerComes 47 = .ok (.getfield 212, 3) := by decide +kernel
theorem d_Q_answerComes_50 : decode c_Q_answerComes 50 = .ok (.aload_n 1, 1) := by decide +kernel
theorem d_Q_answerComes_51 : decode c_Q_answerComes 51 = .ok (.getfield 61, 3) := by decide +kernel
theorem d_Q_answerComes_54 : decode c_Q_answerComes 54 = .ok (.if_icmp .le (12), 3) := by decide +kernel
theorem d_Q_answerComes_57 : decode c_Q_answerComes 57 = .ok (.aload_n 0, 1) := by decide +kernel
theorem d_Q_answerComes_58 : decode c_Q_answerComes 58 = .ok (.aload_n 1, 1) := by decide +kernel
theorem d_Q_answerComes_59 : decode c_Q_answerComes 59 = .ok (.aload_n 2, 1) := by decide +kernel
theorem d_Q_answerComes_60 : decode c_Q_answerComes 60 = .ok (.getfield 212, 3) := by decide +kernel
theorem d_Q_answerComes_63 : decode c_Q_answerComes 63 = .ok (.invokevirtual 319, 3) := by decide +kernel
theorem d_Q_answerComes_66 : decode c_Q_answerComes 66 = .ok (.return_, 1) := by decide +kernel
theorem d_Q_callComes_0 : decode c_Q_callComes 0 = .ok (.aload_n 1, 1) := by decide +kernel
theorem d_Q_callComes_1 : decode c_Q_callComes 1 = .ok (.getfield 220, 3) := by decide +kernel
theorem d_Q_callComes_4 : decode c_Q_callComes 4 = .ok (.iconst (-1), 1) := by decide +kernel
theorem d_Q_callComes_5 : decode c_Q_callComes 5 = .ok (.if_icmp .eq (14), 3) := by decide +kernel
theorem d_Q_callComes_8 : decode c_Q_callComes 8 = .ok (.aload_n 1, 1) := by decide +kernel
theorem d_Q_callComes_9 : decode c_Q_callComes 9 = .ok (.getfield 220, 3) := by decide +kernel
theorem d_Q_callComes_12 : decode c_Q_callComes 12 = .ok (.aload_n 2, 1) := by decide +kernel
theorem d_Q_callComes_13 : decode c_Q_callComes 13 = .ok (.getfield 209, 3) := by decide +kernel
theorem d_Q_callComes_16 : decode c_Q_callComes 16 = .ok (.if_icmp .ne (7), 3) := by decide +kernel
theorem d_Q_callComes_19 : decode c_Q_callComes 19 = .ok (.iconst 1, 1) := by decide +kernel
theorem d_Q_callComes_20 : decode c_Q_callComes 20 = .ok (.goto (4), 3) := by decide +kernel
theorem d_Q_callComes_23 : decode c_Q_callComes 23 = .ok (.iconst 0, 1) := by decide +kernel
theorem d_Q_callComes_24 : decode c_Q_callComes 24 = .ok (.istore_n 3, 1) := by decide +kernel
theorem d_Q_callComes_25 : decode c_Q_callComes 25 = .ok (.aload_n 2, 1) := by decide +kernel
theorem d_Q_callComes_26 : decode c_Q_callComes 26 = .ok (.getfield 212, 3) := by decide +kernel
theorem d_Q_callComes_29 : decode c_Q_callComes 29 = .ok (.aload_n 1, 1) := by decide +kernel
theorem d_Q_callComes_30 : decode c_Q_callComes 30 = .ok (.getfield 61, 3) := by decide +kernel
theorem d_Q_callComes_33 : decode c_Q_callComes 33 = .ok (.if_icmp .ne (22), 3) := by decide +kernel
theorem d_Q_callComes_36 : decode c_Q_callComes 36 = .ok (.iload_n 3, 1) := by decide +kernel
theorem d_Q_callComes_37 : decode c_Q_callComes 37 = .ok (.ifCond .eq (18), 3) := by decide +kernel
theorem d_Q_callComes_40 : decode c_Q_callComes 40 = .ok (.aload_n 1, 1) := by decide +kernel
theorem d_Q_callComes_41 : decode c_Q_callComes 41 = .ok (.getfield 85, 3) := by decide +kernel
theorem d_Q_callComes_44 : decode c_Q_callComes 44 = .ok (.aload_n 2, 1) := by decide +kernel
theorem d_Q_callComes_45 : decode c_Q_callComes 45 = .ok (.invokevirtual 343, 3) := by decide +kernel
theorem d_Q_callComes_48 : decode c_Q_callComes 48 = .ok (.ifCond .ne (7), 3) := by decide +kernel
theorem d_Q_callComes_51 : decode c_Q_callComes 51 = .ok (.iconst 1, 1) := by decide +kernel
theorem d_Q_callComes_52 : decode c_Q_callComes 52 = .ok (.goto (4), 3) := by decide +kernel
theorem d_Q_callComes_55 : decode c_Q_callComes 55 = .ok (.iconst 0, 1) := by decide +kernel
theorem d_Q_callComes_56 : decode c_Q_callComes 56 = .ok (.istore 4, 2) := by decide +kernel
theorem d_Q_callComes_58 : decode c_Q_callComes 58 = .ok (.iload 4, 2) := by decide +kernel
theorem d_Q_callComes_60 : decode c_Q_callComes 60 = .ok (.ifCond .eq (11), 3) := by decide +kernel
theorem d_Q_callComes_63 : decode c_Q_callComes 63 = .ok (.aload_n 1, 1) := by decide +kernel
theorem d_Q_callComes_64 : decode c_Q_callComes 64 = .ok (.aload_n 2, 1) := by decide +kernel
theorem d_Q_callComes_65 : decode c_Q_callComes 65 = .ok (.getfield 209, 3) := by decide +kernel
theorem d_Q_callComes_68 : decode c_Q_callComes 68 = .ok (.putfield 220, 3) := by decide +kernel
theorem d_Q_callComes_71 : decode c_Q_callComes 71 = .ok (.aload_n 0, 1) := by decide +kernel
theorem d_Q_callComes_72 : decode c_Q_callComes 72 = .ok (.getfield 35, 3) := by decide +kernel
theorem d_Q_callComes_75 : decode c_Q_callComes 75 = .ok (.iconst 3, 1) := by decide +kernel
theorem d_Q_callComes_76 : decode c_Q_callComes 76 = .ok (.aload_n 1, 1) := by decide +kernel
theorem d_Q_callComes_77 : decode c_Q_callComes 77 = .ok (.getfield 55, 3) := by decide +kernel
theorem d_Q_callComes_80 : decode c_Q_callComes 80 = .ok (.aload_n 2, 1) := by decide +kernel
theorem d_Q_callComes_81 : decode c_Q_callComes 81 = .ok (.getfield 209, 3) := by decide +kernel
theorem d_Q_callComes_84 : decode c_Q_callComes 84 = .ok (.aload_n 1, 1) := by decide +kernel
theorem d_Q_callComes_85 : decode c_Q_callComes 85 = .ok (.getfield 61, 3) := by decide +kernel
theorem d_Q_callComes_88 : decode c_Q_callComes 88 = .ok (.invokevirtual 254, 3) := by decide +kernel
theorem d_Q_callComes_91 : decode c_Q_callComes 91 = .ok (.astore 5, 2) := by decide +kernel
theorem d_Q_callComes_93 : decode c_Q_callComes 93 = .ok (.aload 5, 2) := by decide +kernel
theorem d_Q_callComes_95 : decode c_Q_callComes 95 = .ok (.iload 4, 2) := by decide +kernel
theorem d_Q_callComes_97 : decode c_Q_callComes 97 = .ok (.putfield 217, 3) := by decide +kernel
theorem d_Q_callComes_100 : decode c_Q_callComes 100 = .ok (.return_, 1) := by decide +kernel
theorem d_Q_voteComes_0 : decode c_Q_voteComes 0 = .ok (.aload_n 2, 1) := by decide +kernel
theorem d_Q_voteComes_1 : decode c_Q_voteComes 1 = .ok (.getfield 217, 3) := by decide +kernel
theorem d_Q_voteComes_4 : decode c_Q_voteComes 4 = .ok (.ifCond .eq (37), 3) := by decide +kernel
theorem d_Q_voteComes_7 : decode c_Q_voteComes 7 = .ok (.aload_n 1, 1) := by decide +kernel
theorem d_Q_voteComes_8 : decode c_Q_voteComes 8 = .ok (.getfield 51, 3) := by decide +kernel
theorem d_Q_voteComes_11 : decode c_Q_voteComes 11 = .ok (.iconst 2, 1) := by decide +kernel
theorem d_Q_voteComes_12 : decode c_Q_voteComes 12 = .ok (.if_icmp .ne (29), 3) := by decide +kernel
theorem d_Q_voteComes_15 : decode c_Q_voteComes 15 = .ok (.aload_n 2, 1) := by decide +kernel
theorem d_Q_voteComes_16 : decode c_Q_voteComes 16 = .ok (.getfield 212, 3) := by decide +kernel
theorem d_Q_voteComes_19 : decode c_Q_voteComes 19 = .ok (.aload_n 1, 1) := by decide +kernel
theorem d_Q_voteComes_20 : decode c_Q_voteComes 20 = .ok (.getfield 61, 3) := by decide +kernel
theorem d_Q_voteComes_23 : decode c_Q_voteComes 23 = .ok (.if_icmp .ne (18), 3) := by decide +kernel
theorem d_Q_voteComes_26 : decode c_Q_voteComes 26 = .ok (.aload_n 1, 1) := by decide +kernel
theorem d_Q_voteComes_27 : decode c_Q_voteComes 27 = .ok (.dup, 1) := by decide +kernel
theorem d_Q_voteComes_28 : decode c_Q_voteComes 28 = .ok (.getfield 58, 3) := by decide +kernel
theorem d_Q_voteComes_31 : decode c_Q_voteComes 31 = .ok (.iconst 1, 1) := by decide +kernel
theorem d_Q_voteComes_32 : decode c_Q_voteComes 32 = .ok (.aload_n 2, 1) := by decide +kernel
theorem d_Q_voteComes_33 : decode c_Q_voteComes 33 = .ok (.getfield 209, 3) := by decide +kernel
theorem d_Q_voteComes_36 : decode c_Q_voteComes 36 = .ok (.ishl, 1) := by decide +kernel
theorem d_Q_voteComes_37 : decode c_Q_voteComes 37 = .ok (.ior, 1) := by decide +kernel
theorem d_Q_voteComes_38 : decode c_Q_voteComes 38 = .ok (.putfield 58, 3) := by decide +kernel
theorem d_Q_voteComes_41 : decode c_Q_voteComes 41 = .ok (.return_, 1) := by decide +kernel
theorem d_Q_appendComes_0 : decode c_Q_appendComes 0 = .ok (.aload_n 2, 1) := by decide +kernel
theorem d_Q_appendComes_1 : decode c_Q_appendComes 1 = .ok (.getfield 212, 3) := by decide +kernel
theorem d_Q_appendComes_4 : decode c_Q_appendComes 4 = .ok (.aload_n 1, 1) := by decide +kernel
theorem d_Q_appendComes_5 : decode c_Q_appendComes 5 = .ok (.getfield 61, 3) := by decide +kernel
theorem d_Q_appendComes_8 : decode c_Q_appendComes 8 = .ok (.if_icmp .ge (16), 3) := by decide +kernel
theorem d_Q_appendComes_11 : decode c_Q_appendComes 11 = .ok (.aload_n 0, 1) := by decide +kernel
theorem d_Q_appendComes_12 : decode c_Q_appendComes 12 = .ok (.aload_n 1, 1) := by decide +kernel
theorem d_Q_appendComes_13 : decode c_Q_appendComes 13 = .ok (.aload_n 2, 1) := by decide +kernel
theorem d_Q_appendComes_14 : decode c_Q_appendComes 14 = .ok (.getfield 209, 3) := by decide +kernel
theorem d_Q_appendComes_17 : decode c_Q_appendComes 17 = .ok (.iconst 0, 1) := by decide +kernel
theorem d_Q_appendComes_18 : decode c_Q_appendComes 18 = .ok (.iconst 0, 1) := by decide +kernel
theorem d_Q_appendComes_19 : decode c_Q_appendComes 19 = .ok (.iconst 0, 1) := by decide +kernel
theorem d_Q_appendComes_20 : decode c_Q_appendComes 20 = .ok (.invokevirtual 347, 3) := by decide +kernel
theorem d_Q_appendComes_23 : decode c_Q_appendComes 23 = .ok (.return_, 1) := by decide +kernel
theorem d_Q_appendComes_24 : decode c_Q_appendComes 24 = .ok (.aload_n 0, 1) := by decide +kernel
theorem d_Q_appendComes_25 : decode c_Q_appendComes 25 = .ok (.aload_n 1, 1) := by decide +kernel
theorem d_Q_appendComes_26 : decode c_Q_appendComes 26 = .ok (.invokevirtual 184, 3) := by decide +kernel
theorem d_Q_appendComes_29 : decode c_Q_appendComes 29 = .ok (.aload_n 1, 1) := by decide +kernel
theorem d_Q_appendComes_30 : decode c_Q_appendComes 30 = .ok (.iconst 1, 1) := by decide +kernel
theorem d_Q_appendComes_31 : decode c_Q_appendComes 31 = .ok (.putfield 47, 3) := by decide +kernel
theorem d_Q_appendComes_34 : decode c_Q_appendComes 34 = .ok (.aload_n 1, 1) := by decide +kernel
theorem d_Q_appendComes_35 : decode c_Q_appendComes 35 = .ok (.getfield 85, 3) := by decide +kernel
theorem d_Q_appendComes_38 : decode c_Q_appendComes 38 = .ok (.aload_n 2, 1) := by decide +kernel
theorem d_Q_appendComes_39 : decode c_Q_appendComes 39 = .ok (.getfield 213, 3) := by decide +kernel
theorem d_Q_appendComes_42 : decode c_Q_appendComes 42 = .ok (.aload_n 2, 1) := by decide +kernel
theorem d_Q_appendComes_43 : decode c_Q_appendComes 43 = .ok (.getfield 261, 3) := by decide +kernel
theorem d_Q_appendComes_46 : decode c_Q_appendComes 46 = .ok (.invokevirtual 351, 3) := by decide +kernel
theorem d_Q_appendComes_49 : decode c_Q_appendComes 49 = .ok (.ifCond .ne (40), 3) := by decide +kernel
theorem d_Q_appendComes_52 : decode c_Q_appendComes 52 = .ok (.iconst 0, 1) := by decide +kernel
theorem d_Q_appendComes_53 : decode c_Q_appendComes 53 = .ok (.aload_n 1, 1) := by decide +kernel
theorem d_Q_appendComes_54 : decode c_Q_appendComes 54 = .ok (.getfield 85, 3) := by decide +kernel
theorem d_Q_appendComes_57 : decode c_Q_appendComes 57 = .ok (.invokevirtual 126, 3) := by decide +kernel
theorem d_Q_appendComes_60 : decode c_Q_appendComes 60 = .ok (.aload_n 2, 1) := by decide +kernel
theorem d_Q_appendComes_61 : decode c_Q_appendComes 61 = .ok (.getfield 213, 3) := by decide +kernel
theorem d_Q_appendComes_64 : decode c_Q_appendComes 64 = .ok (.iconst 1, 1) := by decide +kernel
theorem d_Q_appendComes_65 : decode c_Q_appendComes 65 = .ok (.isub, 1) := by decide +kernel
theorem d_Q_appendComes_66 : decode c_Q_appendComes 66 = .ok (.invokestatic 354, 3) := by decide +kernel
theorem d_Q_appendComes_69 : decode c_Q_appendComes 69 = .ok (.invokestatic 360, 3) := by decide +kernel
theorem d_Q_appendComes_72 : decode c_Q_appendComes 72 = .ok (.istore_n 3, 1) := by decide +kernel
theorem d_Q_appendComes_73 : decode c_Q_appendComes 73 = .ok (.aload_n 0, 1) := by decide +kernel
theorem d_Q_appendComes_74 : decode c_Q_appendComes 74 = .ok (.aload_n 1, 1) := by decide +kernel
theorem d_Q_appendComes_75 : decode c_Q_appendComes 75 = .ok (.aload_n 2, 1) := by decide +kernel
theorem d_Q_appendComes_76 : decode c_Q_appendComes 76 = .ok (.getfield 209, 3) := by decide +kernel
theorem d_Q_appendComes_79 : decode c_Q_appendComes 79 = .ok (.iconst 0, 1) := by decide +kernel
theorem d_Q_appendComes_80 : decode c_Q_appendComes 80 = .ok (.iload_n 3, 1) := by decide +kernel
theorem d_Q_appendComes_81 : decode c_Q_appendComes 81 = .ok (.aload_n 2, 1) := by decide +kernel
theorem d_Q_appendComes_82 : decode c_Q_appendComes 82 = .ok (.getfield 219, 3) := by decide +kernel
theorem d_Q_appendComes_85 : decode c_Q_appendComes 85 = .ok (.invokevirtual 347, 3) := by decide +kernel
theorem d_Q_appendComes_88 : decode c_Q_appendComes 88 = .ok (.return_, 1) := by decide +kernel
theorem d_Q_appendComes_89 : decode c_Q_appendComes 89 = .ok (.aload_n 1, 1) := by decide +kernel
theorem d_Q_appendComes_90 : decode c_Q_appendComes 90 = .ok (.getfield 85, 3) := by decide +kernel
theorem d_Q_appendComes_93 : decode c_Q_appendComes 93 = .ok (.aload_n 2, 1) := by decide +kernel
theorem d_Q_appendComes_94 : decode c_Q_appendComes 94 = .ok (.invokevirtual 363, 3) := by decide +kernel
theorem d_Q_appendComes_97 : decode c_Q_appendComes 97 = .ok (.istore_n 3, 1) := by decide +kernel
theorem d_Q_appendComes_98 : decode c_Q_appendComes 98 = .ok (.aload_n 1, 1) := by decide +kernel
theorem d_Q_appendComes_99 : decode c_Q_appendComes 99 = .ok (.aload_n 1, 1) := by decide +kernel
theorem d_Q_appendComes_100 : decode c_Q_appendComes 100 = .ok (.getfield 133, 3) := by decide +kernel
theorem d_Q_appendComes_103 : decode c_Q_appendComes 103 = .ok (.aload_n 2, 1) := by decide +kernel
theorem d_Q_appendComes_104 : decode c_Q_appendComes 104 = .ok (.getfield 294, 3) := by decide +kernel
theorem d_Q_appendComes_107 : decode c_Q_appendComes 107 = .ok (.iload_n 3, 1) := by decide +kernel
theorem d_Q_appendComes_108 : decode c_Q_appendComes 108 = .ok (.invokestatic 354, 3) := by decide +kernel
theorem d_Q_appendComes_111 : decode c_Q_appendComes 111 = .ok (.invokestatic 360, 3) := by decide +kernel
theorem d_Q_appendComes_114 : decode c_Q_appendComes 114 = .ok (.putfield 133, 3) := by decide +kernel
theorem d_Q_appendComes_117 : decode c_Q_appendComes 117 = .ok (.aload_n 0, 1) := by decide +kernel
theorem d_Q_appendComes_118 : decode c_Q_appendComes 118 = .ok (.aload_n 1, 1) := by decide +kernel
theorem d_Q_appendComes_119 : decode c_Q_appendComes 119 = .ok (.aload_n 2, 1) := by decide +kernel
theorem d_Q_appendComes_120 : decode c_Q_appendComes 120 = .ok (.getfield 209, 3) := by decide +kernel
theorem d_Q_appendComes_123 : decode c_Q_appendComes 123 = .ok (.iconst 1, 1) := by decide +kernel
theorem d_Q_appendComes_124 : decode c_Q_appendComes 124 = .ok (.iload_n 3, 1) := by decide +kernel
theorem d_Q_appendComes_125 : decode c_Q_appendComes 125 = .ok (.aload_n 2, 1) := by decide +kernel
theorem d_Q_appendComes_126 : decode c_Q_appendComes 126 = .ok (.getfield 219, 3) := by decide +kernel
theorem d_Q_appendComes_129 : decode c_Q_appendComes 129 = .ok (.invokevirtual 347, 3) := by decide +kernel
theorem d_Q_appendComes_132 : decode c_Q_appendComes 132 = .ok (.return_, 1) := by decide +kernel
theorem d_Q_sendResult_0 : decode c_Q_sendResult 0 = .ok (.aload_n 0, 1) := by decide +kernel
theorem d_Q_sendResult_1 : decode c_Q_sendResult 1 = .ok (.getfield 35, 3) := by decide +kernel
theorem d_Q_sendResult_4 : decode c_Q_sendResult 4 = .ok (.iconst 5, 1) := by decide +kernel
theorem d_Q_sendResult_5 : decode c_Q_sendResult 5 = .ok (.aload_n 1, 1) := by decide +kernel
theorem d_Q_sendResult_6 : decode c_Q_sendResult 6 = .ok (.getfield 55, 3) := by decide +kernel
theorem d_Q_sendResult_9 : decode c_Q_sendResult 9 = .ok (.iload_n 2, 1) := by decide +kernel
theorem d_Q_sendResult_10 : decode c_Q_sendResult 10 = .ok (.aload_n 1, 1) := by decide +kernel
theorem d_Q_sendResult_11 : decode c_Q_sendResult 11 = .ok (.getfield 61, 3) := by decide +kernel
theorem d_Q_sendResult_14 : decode c_Q_sendResult 14 = .ok (.invokevirtual 254, 3) := by decide +kernel
theorem d_Q_sendResult_17 : decode c_Q_sendResult 17 = .ok (.astore 6, 2) := by decide +kernel
theorem d_Q_sendResult_19 : decode c_Q_sendResult 19 = .ok (.aload 6, 2) := by decide +kernel
theorem d_Q_sendResult_21 : decode c_Q_sendResult 21 = .ok (.iload_n 3, 1) := by decide +kernel
theorem d_Q_sendResult_22 : decode c_Q_sendResult 22 = .ok (.putfield 217, 3) := by decide +kernel
theorem d_Q_sendResult_25 : decode c_Q_sendResult 25 = .ok (.aload 6, 2) := by decide +kernel
theorem d_Q_sendResult_27 : decode c_Q_sendResult 27 = .ok (.iload 4, 2) := by decide +kernel
theorem d_Q_sendResult_29 : decode c_Q_sendResult 29 = .ok (.putfield 213, 3) := by decide +kernel
theorem d_Q_sendResult_32 : decode c_Q_sendResult 32 = .ok (.aload 6, 2) := by decide +kernel
theorem d_Q_sendResult_34 : decode c_Q_sendResult 34 = .ok (.iload 5, 2) := by decide +kernel
theorem d_Q_sendResult_36 : decode c_Q_sendResult 36 = .ok (.putfield 219, 3) := by decide +kernel
theorem d_Q_sendResult_39 : decode c_Q_sendResult 39 = .ok (.return_, 1) := by decide +kernel
theorem d_Q_resultComes_0 : decode c_Q_resultComes 0 = .ok (.aload_n 1, 1) := by decide +kernel
theorem d_Q_resultComes_1 : decode c_Q_resultComes 1 = .ok (.getfield 51, 3) := by decide +kernel
theorem d_Q_resultComes_4 : decode c_Q_resultComes 4 = .ok (.iconst 3, 1) := by decide +kernel
theorem d_Q_resultComes_5 : decode c_Q_resultComes 5 = .ok (.if_icmp .ne (14), 3) := by decide +kernel
theorem d_Q_resultComes_8 : decode c_Q_resultComes 8 = .ok (.aload_n 2, 1) := by decide +kernel
theorem d_Q_resultComes_9 : decode c_Q_resultComes 9 = .ok (.getfield 212, 3) := by decide +kernel
theorem d_Q_resultComes_12 : decode c_Q_resultComes 12 = .ok (.aload_n 1, 1) := by decide +kernel
theorem d_Q_resultComes_13 : decode c_Q_resultComes 13 = .ok (.getfield 61, 3) := by decide +kernel
theorem d_Q_resultComes_16 : decode c_Q_resultComes 16 = .ok (.if_icmp .eq (4), 3) := by decide +kernel
theorem d_Q_resultComes_19 : decode c_Q_resultComes 19 = .ok (.return_, 1) := by decide +kernel
theorem d_Q_resultComes_20 : decode c_Q_resultComes 20 = .ok (.aload_n 2, 1) := by decide +kernel
theorem d_Q_resultComes_21 : decode c_Q_resultComes 21 = .ok (.getfield 209, 3) := by decide +kernel
theorem d_Q_resultComes_24 : decode c_Q_resultComes 24 = .ok (.istore_n 3, 1) := by decide +kernel
theorem d_Q_resultComes_25 : decode c_Q_resultComes 25 = .ok (.aload_n 1, 1) := by decide +kernel
theorem d_Q_resultComes_26 : decode c_Q_resultComes 26 = .ok (.getfield 273, 3) := by decide +kernel
theorem d_Q_resultComes_29 : decode c_Q_resultComes 29 = .ok (.iload_n 3, 1) := by decide +kernel
theorem d_Q_resultComes_30 : decode c_Q_resultComes 30 = .ok (.aload_n 1, 1) := by decide +kernel
theorem d_Q_resultComes_31 : decode c_Q_resultComes 31 = .ok (.getfield 273, 3) := by decide +kernel
theorem d_Q_resultComes_34 : decode c_Q_resultComes 34 = .ok (.iload_n 3, 1) := by decide +kernel
theorem d_Q_resultComes_35 : decode c_Q_resultComes 35 = .ok (.iaload, 1) := by decide +kernel
theorem d_Q_resultComes_36 : decode c_Q_resultComes 36 = .ok (.aload_n 2, 1) := by decide +kernel
theorem d_Q_resultComes_37 : decode c_Q_resultComes 37 = .ok (.getfield 219, 3) := by decide +kernel
theorem d_Q_resultComes_40 : decode c_Q_resultComes 40 = .ok (.invokestatic 360, 3) := by decide +kernel
theorem d_Q_resultComes_43 : decode c_Q_resultComes 43 = .ok (.iastore, 1) := by decide +kernel
theorem d_Q_resultComes_44 : decode c_Q_resultComes 44 = .ok (.aload_n 2, 1) := by decide +kernel
theorem d_Q_resultComes_45 : decode c_Q_resultComes 45 = .ok (.getfield 217, 3) := by decide +kernel
theorem d_Q_resultComes_48 : decode c_Q_resultComes 48 = .ok (.ifCond .eq (44), 3) := by decide +kernel
theorem d_Q_resultComes_51 : decode c_Q_resultComes 51 = .ok (.aload_n 1, 1) := by decide +kernel
theorem d_Q_resultComes_52 : decode c_Q_resultComes 52 = .ok (.getfield 270, 3) := by decide +kernel
theorem d_Q_resultComes_55 : decode c_Q_resultComes 55 = .ok (.iload_n 3, 1) := by decide +kernel
theorem d_Q_resultComes_56 : decode c_Q_resultComes 56 = .ok (.aload_n 1, 1) := by decide +kernel
theorem d_Q_resultComes_57 : decode c_Q_resultComes 57 = .ok (.getfield 270, 3) := by decide +kernel
theorem d_Q_resultComes_60 : decode c_Q_resultComes 60 = .ok (.iload_n 3, 1) := by decide +kernel
theorem d_Q_resultComes_61 : decode c_Q_resultComes 61 = .ok (.iaload, 1) := by decide +kernel
theorem d_Q_resultComes_62 : decode c_Q_resultComes 62 = .ok (.aload_n 2, 1) := by decide +kernel
theorem d_Q_resultComes_63 : decode c_Q_resultComes 63 = .ok (.getfield 213, 3) := by decide +kernel
theorem d_Q_resultComes_66 : decode c_Q_resultComes 66 = .ok (.invokestatic 360, 3) := by decide +kernel
theorem d_Q_resultComes_69 : decode c_Q_resultComes 69 = .ok (.iastore, 1) := by decide +kernel
theorem d_Q_resultComes_70 : decode c_Q_resultComes 70 = .ok (.aload_n 1, 1) := by decide +kernel
theorem d_Q_resultComes_71 : decode c_Q_resultComes 71 = .ok (.getfield 267, 3) := by decide +kernel
theorem d_Q_resultComes_74 : decode c_Q_resultComes 74 = .ok (.iload_n 3, 1) := by decide +kernel
theorem d_Q_resultComes_75 : decode c_Q_resultComes 75 = .ok (.aload_n 1, 1) := by decide +kernel
theorem d_Q_resultComes_76 : decode c_Q_resultComes 76 = .ok (.getfield 270, 3) := by decide +kernel
theorem d_Q_resultComes_79 : decode c_Q_resultComes 79 = .ok (.iload_n 3, 1) := by decide +kernel
theorem d_Q_resultComes_80 : decode c_Q_resultComes 80 = .ok (.iaload, 1) := by decide +kernel
theorem d_Q_resultComes_81 : decode c_Q_resultComes 81 = .ok (.iconst 1, 1) := by decide +kernel
theorem d_Q_resultComes_82 : decode c_Q_resultComes 82 = .ok (.iadd, 1) := by decide +kernel
theorem d_Q_resultComes_83 : decode c_Q_resultComes 83 = .ok (.iastore, 1) := by decide +kernel
theorem d_Q_resultComes_84 : decode c_Q_resultComes 84 = .ok (.aload_n 0, 1) := by decide +kernel
theorem d_Q_resultComes_85 : decode c_Q_resultComes 85 = .ok (.aload_n 1, 1) := by decide +kernel
theorem d_Q_resultComes_86 : decode c_Q_resultComes 86 = .ok (.invokevirtual 280, 3) := by decide +kernel
theorem d_Q_resultComes_89 : decode c_Q_resultComes 89 = .ok (.goto (30), 3) := by decide +kernel
theorem d_Q_resultComes_92 : decode c_Q_resultComes 92 = .ok (.aload_n 1, 1) := by decide +kernel
theorem d_Q_resultComes_93 : decode c_Q_resultComes 93 = .ok (.getfield 267, 3) := by decide +kernel
theorem d_Q_resultComes_96 : decode c_Q_resultComes 96 = .ok (.iload_n 3, 1) := by decide +kernel
theorem d_Q_resultComes_97 : decode c_Q_resultComes 97 = .ok (.iconst 1, 1) := by decide +kernel
theorem d_Q_resultComes_98 : decode c_Q_resultComes 98 = .ok (.aload_n 1, 1) := by decide +kernel
theorem d_Q_resultComes_99 : decode c_Q_resultComes 99 = .ok (.getfield 267, 3) := by decide +kernel
theorem d_Q_resultComes_102 : decode c_Q_resultComes 102 = .ok (.iload_n 3, 1) := by decide +kernel
theorem d_Q_resultComes_103 : decode c_Q_resultComes 103 = .ok (.iaload, 1) := by decide +kernel
theorem d_Q_resultComes_104 : decode c_Q_resultComes 104 = .ok (.iconst 1, 1) := by decide +kernel
theorem d_Q_resultComes_105 : decode c_Q_resultComes 105 = .ok (.isub, 1) := by decide +kernel
theorem d_Q_resultComes_106 : decode c_Q_resultComes 106 = .ok (.aload_n 2, 1) := by decide +kernel
theorem d_Q_resultComes_107 : decode c_Q_resultComes 107 = .ok (.getfield 213, 3) := by decide +kernel
theorem d_Q_resultComes_110 : decode c_Q_resultComes 110 = .ok (.iconst 1, 1) := by decide +kernel
theorem d_Q_resultComes_111 : decode c_Q_resultComes 111 = .ok (.iadd, 1) := by decide +kernel
theorem d_Q_resultComes_112 : decode c_Q_resultComes 112 = .ok (.invokestatic 354, 3) := by decide +kernel
theorem d_Q_resultComes_115 : decode c_Q_resultComes 115 = .ok (.invokestatic 360, 3) := by decide +kernel
theorem d_Q_resultComes_118 : decode c_Q_resultComes 118 = .ok (.iastore, 1) := by decide +kernel
theorem d_Q_resultComes_119 : decode c_Q_resultComes 119 = .ok (.aload_n 2, 1) := by decide +kernel
theorem d_Q_resultComes_120 : decode c_Q_resultComes 120 = .ok (.getfield 217, 3) := by decide +kernel
theorem d_Q_resultComes_123 : decode c_Q_resultComes 123 = .ok (.ifCond .eq (19), 3) := by decide +kernel
theorem d_Q_resultComes_126 : decode c_Q_resultComes 126 = .ok (.aload_n 1, 1) := by decide +kernel
theorem d_Q_resultComes_127 : decode c_Q_resultComes 127 = .ok (.getfield 267, 3) := by decide +kernel
theorem d_Q_resultComes_130 : decode c_Q_resultComes 130 = .ok (.iload_n 3, 1) := by decide +kernel
theorem d_Q_resultComes_131 : decode c_Q_resultComes 131 = .ok (.iaload, 1) := by decide +kernel
theorem d_Q_resultComes_132 : decode c_Q_resultComes 132 = .ok (.aload_n 1, 1) := by decide +kernel
theorem d_Q_resultComes_133 : decode c_Q_resultComes 133 = .ok (.getfield 85, 3) := by decide +kernel
theorem d_Q_resultComes_136 : decode c_Q_resultComes 136 = .ok (.invokevirtual 126, 3) := by decide +kernel
theorem d_Q_resultComes_139 : decode c_Q_resultComes 139 = .ok (.if_icmp .gt (7), 3) := by decide +kernel
theorem d_Q_resultComes_142 : decode c_Q_resultComes 142 = .ok (.iconst 1, 1) := by decide +kernel
theorem d_Q_resultComes_143 : decode c_Q_resultComes 143 = .ok (.goto (4), 3) := by decide +kernel
theorem d_Q_resultComes_146 : decode c_Q_resultComes 146 = .ok (.iconst 0, 1) := by decide +kernel
theorem d_Q_resultComes_147 : decode c_Q_resultComes 147 = .ok (.istore 4, 2) := by decide +kernel
theorem d_Q_resultComes_149 : decode c_Q_resultComes 149 = .ok (.aload_n 1, 1) := by decide +kernel
theorem d_Q_resultComes_150 : decode c_Q_resultComes 150 = .ok (.getfield 51, 3) := by decide +kernel
theorem d_Q_resultComes_153 : decode c_Q_resultComes 153 = .ok (.iconst 3, 1) := by decide +kernel
theorem d_Q_resultComes_154 : decode c_Q_resultComes 154 = .ok (.if_icmp .ne (28), 3) := by decide +kernel
theorem d_Q_resultComes_157 : decode c_Q_resultComes 157 = .ok (.iload 4, 2) := by decide +kernel
theorem d_Q_resultComes_159 : decode c_Q_resultComes 159 = .ok (.ifCond .eq (23), 3) := by decide +kernel
theorem d_Q_resultComes_162 : decode c_Q_resultComes 162 = .ok (.aload_n 1, 1) := by decide +kernel
theorem d_Q_resultComes_163 : decode c_Q_resultComes 163 = .ok (.getfield 85, 3) := by decide +kernel
theorem d_Q_resultComes_166 : decode c_Q_resultComes 166 = .ok (.invokevirtual 115, 3) := by decide +kernel
theorem d_Q_resultComes_169 : decode c_Q_resultComes 169 = .ok (.iload_n 3, 1) := by decide +kernel
theorem d_Q_resultComes_170 : decode c_Q_resultComes 170 = .ok (.invokestatic 250, 3) := by decide +kernel
theorem d_Q_resultComes_173 : decode c_Q_resultComes 173 = .ok (.ifCond .eq (9), 3) := by decide +kernel
theorem d_Q_resultComes_176 : decode c_Q_resultComes 176 = .ok (.aload_n 0, 1) := by decide +kernel
theorem d_Q_resultComes_177 : decode c_Q_resultComes 177 = .ok (.aload_n 1, 1) := by decide +kernel
theorem d_Q_resultComes_178 : decode c_Q_resultComes 178 = .ok (.iload_n 3, 1) := by decide +kernel
theorem d_Q_resultComes_179 : decode c_Q_resultComes 179 = .ok (.invokevirtual 289, 3) := by decide +kernel
theorem d_Q_resultComes_182 : decode c_Q_resultComes 182 = .ok (.aload_n 0, 1) := by decide +kernel
theorem d_Q_resultComes_183 : decode c_Q_resultComes 183 = .ok (.aload_n 1, 1) := by decide +kernel
theorem d_Q_resultComes_184 : decode c_Q_resultComes 184 = .ok (.invokevirtual 154, 3) := by decide +kernel
theorem d_Q_resultComes_187 : decode c_Q_resultComes 187 = .ok (.return_, 1) := by decide +kernel
theorem d_Q_lookAtReads_0 : decode c_Q_lookAtReads 0 = .ok (.aload_n 1, 1) := by decide +kernel
theorem d_Q_lookAtReads_1 : decode c_Q_lookAtReads 1 = .ok (.getfield 85, 3) := by decide +kernel
theorem d_Q_lookAtReads_4 : decode c_Q_lookAtReads 4 = .ok (.invokevirtual 115, 3) := by decide +kernel
theorem d_Q_lookAtReads_7 : decode c_Q_lookAtReads 7 = .ok (.istore_n 2, 1) := by decide +kernel
theorem d_Q_lookAtReads_8 : decode c_Q_lookAtReads 8 = .ok (.iconst 0, 1) := by decide +kernel
theorem d_Q_lookAtReads_9 : decode c_Q_lookAtReads 9 = .ok (.istore_n 3, 1) := by decide +kernel
theorem d_Q_lookAtReads_10 : decode c_Q_lookAtReads 10 = .ok (.iload_n 3, 1) := by decide +kernel
theorem d_Q_lookAtReads_11 : decode c_Q_lookAtReads 11 = .ok (.aload_n 0, 1) := by decide +kernel
theorem d_Q_lookAtReads_12 : decode c_Q_lookAtReads 12 = .ok (.getfield 18, 3) := by decide +kernel
theorem d_Q_lookAtReads_15 : decode c_Q_lookAtReads 15 = .ok (.getfield 144, 3) := by decide +kernel
theorem d_Q_lookAtReads_18 : decode c_Q_lookAtReads 18 = .ok (.if_icmp .ge (76), 3) := by decide +kernel
theorem d_Q_lookAtReads_21 : decode c_Q_lookAtReads 21 = .ok (.aload_n 0, 1) := by decide +kernel
theorem d_Q_lookAtReads_22 : decode c_Q_lookAtReads 22 = .ok (.getfield 18, 3) := by decide +kernel
theorem d_Q_lookAtReads_25 : decode c_Q_lookAtReads 25 = .ok (.iload_n 3, 1) := by decide +kernel
theorem d_Q_lookAtReads_26 : decode c_Q_lookAtReads 26 = .ok (.aload_n 1, 1) := by decide +kernel
theorem d_Q_lookAtReads_27 : decode c_Q_lookAtReads 27 = .ok (.getfield 55, 3) := by decide +kernel
theorem d_Q_lookAtReads_30 : decode c_Q_lookAtReads 30 = .ok (.invokevirtual 303, 3) := by decide +kernel
theorem d_Q_lookAtReads_33 : decode c_Q_lookAtReads 33 = .ok (.ifCond .eq (55), 3) := by decide +kernel
theorem d_Q_lookAtReads_36 : decode c_Q_lookAtReads 36 = .ok (.aload_n 1, 1) := by decide +kernel
theorem d_Q_lookAtReads_37 : decode c_Q_lookAtReads 37 = .ok (.aload_n 0, 1) := by decide +kernel
theorem d_Q_lookAtReads_38 : decode c_Q_lookAtReads 38 = .ok (.getfield 18, 3) := by decide +kernel
theorem d_Q_lookAtReads_41 : decode c_Q_lookAtReads 41 = .ok (.getfield 306, 3) := by decide +kernel
theorem d_Q_lookAtReads_44 : decode c_Q_lookAtReads 44 = .ok (.iload_n 3, 1) := by decide +kernel
theorem d_Q_lookAtReads_45 : decode c_Q_lookAtReads 45 = .ok (.iaload, 1) := by decide +kernel
theorem d_Q_lookAtReads_46 : decode c_Q_lookAtReads 46 = .ok (.invokevirtual 309, 3) := by decide +kernel
theorem d_Q_lookAtReads_49 : decode c_Q_lookAtReads 49 = .ok (.iload_n 2, 1) := by decide +kernel
theorem d_Q_lookAtReads_50 : decode c_Q_lookAtReads 50 = .ok (.invokestatic 264, 3) := by decide +kernel
theorem d_Q_lookAtReads_53 : decode c_Q_lookAtReads 53 = .ok (.ifCond .eq (35), 3) := by decide +kernel
theorem d_Q_lookAtReads_56 : decode c_Q_lookAtReads 56 = .ok (.aload_n 0, 1) := by decide +kernel
theorem d_Q_lookAtReads_57 : decode c_Q_lookAtReads 57 = .ok (.getfield 18, 3) := by decide +kernel
theorem d_Q_lookAtReads_60 : decode c_Q_lookAtReads 60 = .ok (.getfield 160, 3) := by decide +kernel
theorem d_Q_lookAtReads_63 : decode c_Q_lookAtReads 63 = .ok (.iload_n 3, 1) := by decide +kernel
theorem d_Q_lookAtReads_64 : decode c_Q_lookAtReads 64 = .ok (.iconst 1, 1) := by decide +kernel
theorem d_Q_lookAtReads_65 : decode c_Q_lookAtReads 65 = .ok (.iastore, 1) := by decide +kernel
theorem d_Q_lookAtReads_66 : decode c_Q_lookAtReads 66 = .ok (.aload_n 0, 1) := by decide +kernel
theorem d_Q_lookAtReads_67 : decode c_Q_lookAtReads 67 = .ok (.getfield 18, 3) := by decide +kernel
theorem d_Q_lookAtReads_70 : decode c_Q_lookAtReads 70 = .ok (.getfield 164, 3) := by decide +kernel
theorem d_Q_lookAtReads_73 : decode c_Q_lookAtReads 73 = .ok (.iload_n 3, 1) := by decide +kernel
theorem d_Q_lookAtReads_74 : decode c_Q_lookAtReads 74 = .ok (.aload_n 1, 1) := by decide +kernel
theorem d_Q_lookAtReads_75 : decode c_Q_lookAtReads 75 = .ok (.aload_n 0, 1) := by decide +kernel
theorem d_Q_lookAtReads_76 : decode c_Q_lookAtReads 76 = .ok (.getfield 18, 3) := by decide +kernel
theorem d_Q_lookAtReads_79 : decode c_Q_lookAtReads 79 = .ok (.getfield 312, 3) := by decide +kernel
theorem d_Q_lookAtReads_82 : decode c_Q_lookAtReads 82 = .ok (.iload_n 3, 1) := by decide +kernel
theorem d_Q_lookAtReads_83 : decode c_Q_lookAtReads 83 = .ok (.iaload, 1) := by decide +kernel
theorem d_Q_lookAtReads_84 : decode c_Q_lookAtReads 84 = .ok (.invokevirtual 240, 3) := by decide +kernel
theorem d_Q_lookAtReads_87 : decode c_Q_lookAtReads 87 = .ok (.iastore, 1) := by decide +kernel
theorem d_Q_lookAtReads_88 : decode c_Q_lookAtReads 88 = .ok (.iinc 3 (1), 3) := by decide +kernel
theorem d_Q_lookAtReads_91 : decode c_Q_lookAtReads 91 = .ok (.goto (-81), 3) := by decide +kernel
theorem d_Q_lookAtReads_94 : decode c_Q_lookAtReads 94 = .ok (.return_, 1) := by decide +kernel
theorem d_Q_installComes_0 : decode c_Q_installComes 0 = .ok (.aload_n 2, 1) := by decide +kernel
theorem d_Q_installComes_1 : decode c_Q_installComes 1 = .ok (.getfield 212, 3) := by decide +kernel
theorem d_Q_installComes_4 : decode c_Q_installComes 4 = .ok (.aload_n 1, 1) := by decide +kernel
theorem d_Q_installComes_5 : decode c_Q_installComes 5 = .ok (.getfield 61, 3) := by decide +kernel
theorem d_Q_installComes_8 : decode c_Q_installComes 8 = .ok (.if_icmp .ge (16), 3) := by decide +kernel
theorem d_Q_installComes_11 : decode c_Q_installComes 11 = .ok (.aload_n 0, 1) := by decide +kernel
theorem d_Q_installComes_12 : decode c_Q_installComes 12 = .ok (.aload_n 1, 1) := by decide +kernel
theorem d_Q_installComes_13 : decode c_Q_installComes 13 = .ok (.aload_n 2, 1) := by decide +kernel
theorem d_Q_installComes_14 : decode c_Q_installComes 14 = .ok (.getfield 209, 3) := by decide +kernel
theorem d_Q_installComes_17 : decode c_Q_installComes 17 = .ok (.iconst 0, 1) := by decide +kernel
theorem d_Q_installComes_18 : decode c_Q_installComes 18 = .ok (.iconst 0, 1) := by decide +kernel
theorem d_Q_installComes_19 : decode c_Q_installComes 19 = .ok (.iconst 0, 1) := by decide +kernel
theorem d_Q_installComes_20 : decode c_Q_installComes 20 = .ok (.invokevirtual 347, 3) := by decide +kernel
theorem d_Q_installComes_23 : decode c_Q_installComes 23 = .ok (.return_, 1) := by decide +kernel
theorem d_Q_installComes_24 : decode c_Q_installComes 24 = .ok (.aload_n 0, 1) := by decide +kernel
theorem d_Q_installComes_25 : decode c_Q_installComes 25 = .ok (.aload_n 1, 1) := by decide +kernel
theorem d_Q_installComes_26 : decode c_Q_installComes 26 = .ok (.invokevirtual 184, 3) := by decide +kernel
theorem d_Q_installComes_29 : decode c_Q_installComes 29 = .ok (.aload_n 1, 1) := by decide +kernel
theorem d_Q_installComes_30 : decode c_Q_installComes 30 = .ok (.iconst 1, 1) := by decide +kernel
theorem d_Q_installComes_31 : decode c_Q_installComes 31 = .ok (.putfield 47, 3) := by decide +kernel
theorem d_Q_installComes_34 : decode c_Q_installComes 34 = .ok (.aload_n 2, 1) := by decide +kernel
theorem d_Q_installComes_35 : decode c_Q_installComes 35 = .ok (.getfield 213, 3) := by decide +kernel
theorem d_Q_installComes_38 : decode c_Q_installComes 38 = .ok (.aload_n 1, 1) := by decide +kernel
theorem d_Q_installComes_39 : decode c_Q_installComes 39 = .ok (.getfield 133, 3) := by decide +kernel
theorem d_Q_installComes_42 : decode c_Q_installComes 42 = .ok (.if_icmp .le (22), 3) := by decide +kernel
theorem d_Q_installComes_45 : decode c_Q_installComes 45 = .ok (.aload_n 1, 1) := by decide +kernel
theorem d_Q_installComes_46 : decode c_Q_installComes 46 = .ok (.getfield 85, 3) := by decide +kernel
theorem d_Q_installComes_49 : decode c_Q_installComes 49 = .ok (.aload_n 2, 1) := by decide +kernel
theorem d_Q_installComes_50 : decode c_Q_installComes 50 = .ok (.getfield 293, 3) := by decide +kernel
theorem d_Q_installComes_53 : decode c_Q_installComes 53 = .ok (.invokevirtual 181, 3) := by decide +kernel
theorem d_Q_installComes_56 : decode c_Q_installComes 56 = .ok (.aload_n 1, 1) := by decide +kernel
theorem d_Q_installComes_57 : decode c_Q_installComes 57 = .ok (.aload_n 2, 1) := by decide +kernel
theorem d_Q_installComes_58 : decode c_Q_installComes 58 = .ok (.getfield 213, 3) := by decide +kernel
theorem d_Q_installComes_61 : decode c_Q_installComes 61 = .ok (.putfield 133, 3) := by decide +kernel
theorem d_Q_installComes_64 : decode c_Q_installComes 64 = .ok (.aload_n 0, 1) := by decide +kernel
theorem d_Q_installComes_65 : decode c_Q_installComes 65 = .ok (.aload_n 1, 1) := by decide +kernel
theorem d_Q_installComes_66 : decode c_Q_installComes 66 = .ok (.aload_n 2, 1) := by decide +kernel
theorem d_Q_installComes_67 : decode c_Q_installComes 67 = .ok (.getfield 209, 3) := by decide +kernel
theorem d_Q_installComes_70 : decode c_Q_installComes 70 = .ok (.iconst 1, 1) := by decide +kernel
theorem d_Q_installComes_71 : decode c_Q_installComes 71 = .ok (.aload_n 2, 1) := by decide +kernel
theorem d_Q_installComes_72 : decode c_Q_installComes 72 = .ok (.getfield 213, 3) := by decide +kernel
theorem d_Q_installComes_75 : decode c_Q_installComes 75 = .ok (.aload_n 2, 1) := by decide +kernel
theorem d_Q_installComes_76 : decode c_Q_installComes 76 = .ok (.getfield 219, 3) := by decide +kernel
theorem d_Q_installComes_79 : decode c_Q_installComes 79 = .ok (.invokevirtual 347, 3) := by decide +kernel
theorem d_Q_installComes_82 : decode c_Q_installComes 82 = .ok (.return_, 1) := by decide +kernel
theorem d_Q_lose_0 : decode c_Q_lose 0 = .ok (.aload_n 0, 1) := by decide +kernel
theorem d_Q_lose_1 : decode c_Q_lose 1 = .ok (.getfield 35, 3) := by decide +kernel
theorem d_Q_lose_4 : decode c_Q_lose 4 = .ok (.iload_n 1, 1) := by decide +kernel
theorem d_Q_lose_5 : decode c_Q_lose 5 = .ok (.invokevirtual 187, 3) := by decide +kernel
theorem d_Q_lose_8 : decode c_Q_lose 8 = .ok (.ifCond .ne (5), 3) := by decide +kernel
theorem d_Q_lose_11 : decode c_Q_lose 11 = .ok (.iconst 0, 1) := by decide +kernel
theorem d_Q_lose_12 : decode c_Q_lose 12 = .ok (.ireturn, 1) := by decide +kernel
theorem d_Q_lose_13 : decode c_Q_lose 13 = .ok (.aload_n 0, 1) := by decide +kernel
theorem d_Q_lose_14 : decode c_Q_lose 14 = .ok (.getfield 35, 3) := by decide +kernel
theorem d_Q_lose_17 : decode c_Q_lose 17 = .ok (.iload_n 1, 1) := by decide +kernel
theorem d_Q_lose_18 : decode c_Q_lose 18 = .ok (.invokevirtual 188, 3) := by decide +kernel
theorem d_Q_lose_21 : decode c_Q_lose 21 = .ok (.pop, 1) := by decide +kernel
theorem d_Q_lose_22 : decode c_Q_lose 22 = .ok (.iconst 1, 1) := by decide +kernel
theorem d_Q_lose_23 : decode c_Q_lose 23 = .ok (.ireturn, 1) := by decide +kernel
theorem d_Q_waiting_0 : decode c_Q_waiting 0 = .ok (.aload_n 0, 1) := by decide +kernel
theorem d_Q_waiting_1 : decode c_Q_waiting 1 = .ok (.getfield 35, 3) := by decide +kernel
theorem d_Q_waiting_4 : decode c_Q_waiting 4 = .ok (.getfield 204, 3) := by decide +kernel
theorem d_Q_waiting_7 : decode c_Q_waiting 7 = .ok (.ireturn, 1) := by decide +kernel
theorem d_Q_message_0 : decode c_Q_message 0 = .ok (.aload_n 0, 1) := by decide +kernel
theorem d_Q_message_1 : decode c_Q_message 1 = .ok (.getfield 35, 3) := by decide +kernel
theorem d_Q_message_4 : decode c_Q_message 4 = .ok (.iload_n 1, 1) := by decide +kernel
theorem d_Q_message_5 : decode c_Q_message 5 = .ok (.invokevirtual 187, 3) := by decide +kernel
theorem d_Q_message_8 : decode c_Q_message 8 = .ok (.ifCond .ne (5), 3) := by decide +kernel
theorem d_Q_message_11 : decode c_Q_message 11 = .ok (.iconst (-1), 1) := by decide +kernel
theorem d_Q_message_12 : decode c_Q_message 12 = .ok (.ireturn, 1) := by decide +kernel
theorem d_Q_message_13 : decode c_Q_message 13 = .ok (.aload_n 0, 1) := by decide +kernel
theorem d_Q_message_14 : decode c_Q_message 14 = .ok (.getfield 35, 3) := by decide +kernel
theorem d_Q_message_17 : decode c_Q_message 17 = .ok (.getfield 205, 3) := by decide +kernel
theorem d_Q_message_20 : decode c_Q_message 20 = .ok (.iload_n 1, 1) := by decide +kernel
theorem d_Q_message_21 : decode c_Q_message 21 = .ok (.aaload, 1) := by decide +kernel
theorem d_Q_message_22 : decode c_Q_message 22 = .ok (.astore_n 3, 1) := by decide +kernel
theorem d_Q_message_23 : decode c_Q_message 23 = .ok (.iload_n 2, 1) := by decide +kernel
theorem d_Q_message_24 : decode c_Q_message 24 = .ok (.tableswitch (102) (0) (6) #[44, 49, 54, 59, 64, 69, 97], 44) := by decide +kernel
theorem d_Q_message_68 : decode c_Q_message 68 = .ok (.aload_n 3, 1) := by decide +kernel
theorem d_Q_message_69 : decode c_Q_message 69 = .ok (.getfield 201, 3) := by decide +kernel
theorem d_Q_message_72 : decode c_Q_message 72 = .ok (.ireturn, 1) := by decide +kernel
theorem d_Q_message_73 : decode c_Q_message 73 = .ok (.aload_n 3, 1) := by decide +kernel
theorem d_Q_message_74 : decode c_Q_message 74 = .ok (.getfield 209, 3) := by decide +kernel
theorem d_Q_message_77 : decode c_Q_message 77 = .ok (.ireturn, 1) := by decide +kernel
theorem d_Q_message_78 : decode c_Q_message 78 = .ok (.aload_n 3, 1) := by decide +kernel
theorem d_Q_message_79 : decode c_Q_message 79 = .ok (.getfield 192, 3) := by decide +kernel
theorem d_Q_message_82 : decode c_Q_message 82 = .ok (.ireturn, 1) := by decide +kernel
theorem d_Q_message_83 : decode c_Q_message 83 = .ok (.aload_n 3, 1) := by decide +kernel
theorem d_Q_message_84 : decode c_Q_message 84 = .ok (.getfield 212, 3) := by decide +kernel
theorem d_Q_message_87 : decode c_Q_message 87 = .ok (.ireturn, 1) := by decide +kernel
theorem d_Q_message_88 : decode c_Q_message 88 = .ok (.aload_n 3, 1) := by decide +kernel
theorem d_Q_message_89 : decode c_Q_message 89 = .ok (.getfield 213, 3) := by decide +kernel
theorem d_Q_message_92 : decode c_Q_message 92 = .ok (.ireturn, 1) := by decide +kernel
theorem d_Q_message_93 : decode c_Q_message 93 = .ok (.aload_n 3, 1) := by decide +kernel
theorem d_Q_message_94 : decode c_Q_message 94 = .ok (.getfield 201, 3) := by decide +kernel
theorem d_Q_message_97 : decode c_Q_message 97 = .ok (.iconst 4, 1) := by decide +kernel
theorem d_Q_message_98 : decode c_Q_message 98 = .ok (.if_icmp .ne (10), 3) := by decide +kernel
theorem d_Q_message_101 : decode c_Q_message 101 = .ok (.aload_n 3, 1) := by decide +kernel
theorem d_Q_message_102 : decode c_Q_message 102 = .ok (.getfield 214, 3) := by decide +kernel
theorem d_Q_message_105 : decode c_Q_message 105 = .ok (.goto (15), 3) := by decide +kernel
theorem d_Q_message_108 : decode c_Q_message 108 = .ok (.aload_n 3, 1) := by decide +kernel
theorem d_Q_message_109 : decode c_Q_message 109 = .ok (.getfield 217, 3) := by decide +kernel
theorem d_Q_message_112 : decode c_Q_message 112 = .ok (.ifCond .eq (7), 3) := by decide +kernel
theorem d_Q_message_115 : decode c_Q_message 115 = .ok (.iconst 1, 1) := by decide +kernel
theorem d_Q_message_116 : decode c_Q_message 116 = .ok (.goto (4), 3) := by decide +kernel
theorem d_Q_message_119 : decode c_Q_message 119 = .ok (.iconst 0, 1) := by decide +kernel
theorem d_Q_message_120 : decode c_Q_message 120 = .ok (.ireturn, 1) := by decide +kernel
theorem d_Q_message_121 : decode c_Q_message 121 = .ok (.aload_n 3, 1) := by decide +kernel
theorem d_Q_message_122 : decode c_Q_message 122 = .ok (.getfield 219, 3) := by decide +kernel
theorem d_Q_message_125 : decode c_Q_message 125 = .ok (.ireturn, 1) := by decide +kernel
theorem d_Q_message_126 : decode c_Q_message 126 = .ok (.iconst (-1), 1) := by decide +kernel
theorem d_Q_message_127 : decode c_Q_message 127 = .ok (.ireturn, 1) := by decide +kernel
theorem d_Q_state_0 : decode c_Q_state 0 = .ok (.iload_n 1, 1) := by decide +kernel
theorem d_Q_state_1 : decode c_Q_state 1 = .ok (.invokestatic 39, 3) := by decide +kernel
theorem d_Q_state_4 : decode c_Q_state 4 = .ok (.ifCond .ne (5), 3) := by decide +kernel
theorem d_Q_state_7 : decode c_Q_state 7 = .ok (.iconst (-1), 1) := by decide +kernel
theorem d_Q_state_8 : decode c_Q_state 8 = .ok (.ireturn, 1) := by decide +kernel
theorem d_Q_state_9 : decode c_Q_state 9 = .ok (.aload_n 0, 1) := by decide +kernel
theorem d_Q_state_10 : decode c_Q_state 10 = .ok (.getfield 11, 3) := by decide +kernel
theorem d_Q_state_13 : decode c_Q_state 13 = .ok (.iload_n 1, 1) := by decide +kernel
theorem d_Q_state_14 : decode c_Q_state 14 = .ok (.aaload, 1) := by decide +kernel
theorem d_Q_state_15 : decode c_Q_state 15 = .ok (.astore_n 3, 1) := by decide +kernel
theorem d_Q_state_16 : decode c_Q_state 16 = .ok (.iload_n 2, 1) := by decide +kernel
theorem d_Q_state_17 : decode c_Q_state 17 = .ok (.tableswitch (124) (0) (8) #[51, 56, 61, 66, 71, 82, 90, 98, 111], 51) := by decide +kernel
theorem d_Q_state_68 : decode c_Q_state 68 = .ok (.aload_n 3, 1) := by decide +kernel
theorem d_Q_state_69 : decode c_Q_state 69 = .ok (.getfield 51, 3) := by decide +kernel
theorem d_Q_state_72 : decode c_Q_state 72 = .ok (.ireturn, 1) := by decide +kernel
theorem d_Q_state_73 : decode c_Q_state 73 = .ok (.aload_n 3, 1) := by decide +kernel
theorem d_Q_state_74 : decode c_Q_state 74 = .ok (.getfield 61, 3) := by decide +kernel
theorem d_Q_state_77 : decode c_Q_state 77 = .ok (.ireturn, 1) := by decide +kernel
theorem d_Q_state_78 : decode c_Q_state 78 = .ok (.aload_n 3, 1) := by decide +kernel
theorem d_Q_state_79 : decode c_Q_state 79 = .ok (.getfield 220, 3) := by decide +kernel
theorem d_Q_state_82 : decode c_Q_state 82 = .ok (.ireturn, 1) := by decide +kernel
theorem d_Q_state_83 : decode c_Q_state 83 = .ok (.aload_n 3, 1) := by decide +kernel
theorem d_Q_state_84 : decode c_Q_state 84 = .ok (.getfield 133, 3) := by decide +kernel
theorem d_Q_state_87 : decode c_Q_state 87 = .ok (.ireturn, 1) := by decide +kernel
theorem d_Q_state_88 : decode c_Q_state 88 = .ok (.aload_n 3, 1) := by decide +kernel
theorem d_Q_state_89 : decode c_Q_state 89 = .ok (.getfield 85, 3) := by decide +kernel
theorem d_Q_state_92 : decode c_Q_state 92 = .ok (.getfield 170, 3) := by decide +kernel
theorem d_Q_state_95 : decode c_Q_state 95 = .ok (.getfield 174, 3) := by decide +kernel
theorem d_Q_state_98 : decode c_Q_state 98 = .ok (.ireturn, 1) := by decide +kernel
theorem d_Q_state_99 : decode c_Q_state 99 = .ok (.aload_n 3, 1) := by decide +kernel
theorem d_Q_state_100 : decode c_Q_state 100 = .ok (.getfield 85, 3) := by decide +kernel
theorem d_Q_state_103 : decode c_Q_state 103 = .ok (.invokevirtual 126, 3) := by decide +kernel
theorem d_Q_state_106 : decode c_Q_state 106 = .ok (.ireturn, 1) := by decide +kernel
theorem d_Q_state_107 : decode c_Q_state 107 = .ok (.aload_n 3, 1) := by decide +kernel
theorem d_Q_state_108 : decode c_Q_state 108 = .ok (.getfield 85, 3) := by decide +kernel
theorem d_Q_state_111 : decode c_Q_state 111 = .ok (.invokevirtual 115, 3) := by decide +kernel
theorem d_Q_state_114 : decode c_Q_state 114 = .ok (.ireturn, 1) := by decide +kernel
theorem d_Q_state_115 : decode c_Q_state 115 = .ok (.aload_n 3, 1) := by decide +kernel
theorem d_Q_state_116 : decode c_Q_state 116 = .ok (.getfield 47, 3) := by decide +kernel
theorem d_Q_state_119 : decode c_Q_state 119 = .ok (.ifCond .eq (7), 3) := by decide +kernel
theorem d_Q_state_122 : decode c_Q_state 122 = .ok (.iconst 1, 1) := by decide +kernel
theorem d_Q_state_123 : decode c_Q_state 123 = .ok (.goto (4), 3) := by decide +kernel
theorem d_Q_state_126 : decode c_Q_state 126 = .ok (.iconst 0, 1) := by decide +kernel
theorem d_Q_state_127 : decode c_Q_state 127 = .ok (.ireturn, 1) := by decide +kernel
theorem d_Q_state_128 : decode c_Q_state 128 = .ok (.aload_n 3, 1) := by decide +kernel
theorem d_Q_state_129 : decode c_Q_state 129 = .ok (.getfield 167, 3) := by decide +kernel
theorem d_Q_state_132 : decode c_Q_state 132 = .ok (.ifCond .eq (7), 3) := by decide +kernel
theorem d_Q_state_135 : decode c_Q_state 135 = .ok (.iconst 1, 1) := by decide +kernel
theorem d_Q_state_136 : decode c_Q_state 136 = .ok (.goto (4), 3) := by decide +kernel
theorem d_Q_state_139 : decode c_Q_state 139 = .ok (.iconst 0, 1) := by decide +kernel
theorem d_Q_state_140 : decode c_Q_state 140 = .ok (.ireturn, 1) := by decide +kernel
theorem d_Q_state_141 : decode c_Q_state 141 = .ok (.iconst (-1), 1) := by decide +kernel
theorem d_Q_state_142 : decode c_Q_state 142 = .ok (.ireturn, 1) := by decide +kernel
theorem d_Q_entry_0 : decode c_Q_entry 0 = .ok (.iload_n 1, 1) := by decide +kernel
theorem d_Q_entry_1 : decode c_Q_entry 1 = .ok (.invokestatic 39, 3) := by decide +kernel
theorem d_Q_entry_4 : decode c_Q_entry 4 = .ok (.ifCond .eq (19), 3) := by decide +kernel
theorem d_Q_entry_7 : decode c_Q_entry 7 = .ok (.aload_n 0, 1) := by decide +kernel
theorem d_Q_entry_8 : decode c_Q_entry 8 = .ok (.getfield 11, 3) := by decide +kernel
theorem d_Q_entry_11 : decode c_Q_entry 11 = .ok (.iload_n 1, 1) := by decide +kernel
theorem d_Q_entry_12 : decode c_Q_entry 12 = .ok (.aaload, 1) := by decide +kernel
theorem d_Q_entry_13 : decode c_Q_entry 13 = .ok (.getfield 85, 3) := by decide +kernel
theorem d_Q_entry_16 : decode c_Q_entry 16 = .ok (.iload_n 2, 1) := by decide +kernel
theorem d_Q_entry_17 : decode c_Q_entry 17 = .ok (.invokevirtual 223, 3) := by decide +kernel
theorem d_Q_entry_20 : decode c_Q_entry 20 = .ok (.goto (4), 3) := by decide +kernel
theorem d_Q_entry_23 : decode c_Q_entry 23 = .ok (.aconst_null, 1) := by decide +kernel
theorem d_Q_entry_24 : decode c_Q_entry 24 = .ok (.astore 4, 2) := by decide +kernel
theorem d_Q_entry_26 : decode c_Q_entry 26 = .ok (.aload 4, 2) := by decide +kernel
theorem d_Q_entry_28 : decode c_Q_entry 28 = .ok (.ifnonnull (5), 3) := by decide +kernel
theorem d_Q_entry_31 : decode c_Q_entry 31 = .ok (.iconst (-1), 1) := by decide +kernel
theorem d_Q_entry_32 : decode c_Q_entry 32 = .ok (.ireturn, 1) := by decide +kernel
theorem d_Q_entry_33 : decode c_Q_entry 33 = .ok (.iload_n 3, 1) := by decide +kernel
theorem d_Q_entry_34 : decode c_Q_entry 34 = .ok (.tableswitch (54) (0) (3) #[30, 36, 42, 48], 30) := by decide +kernel
theorem d_Q_entry_64 : decode c_Q_entry 64 = .ok (.aload 4, 2) := by decide +kernel
theorem d_Q_entry_66 : decode c_Q_entry 66 = .ok (.getfield 227, 3) := by decide +kernel
theorem d_Q_entry_69 : decode c_Q_entry 69 = .ok (.ireturn, 1) := by decide +kernel
theorem d_Q_entry_70 : decode c_Q_entry 70 = .ok (.aload 4, 2) := by decide +kernel
theorem d_Q_entry_72 : decode c_Q_entry 72 = .ok (.getfield 228, 3) := by decide +kernel
theorem d_Q_entry_75 : decode c_Q_entry 75 = .ok (.ireturn, 1) := by decide +kernel
theorem d_Q_entry_76 : decode c_Q_entry 76 = .ok (.aload 4, 2) := by decide +kernel
theorem d_Q_entry_78 : decode c_Q_entry 78 = .ok (.getfield 231, 3) := by decide +kernel
theorem d_Q_entry_81 : decode c_Q_entry 81 = .ok (.ireturn, 1) := by decide +kernel
theorem d_Q_entry_82 : decode c_Q_entry 82 = .ok (.aload 4, 2) := by decide +kernel
theorem d_Q_entry_84 : decode c_Q_entry 84 = .ok (.getfield 234, 3) := by decide +kernel
theorem d_Q_entry_87 : decode c_Q_entry 87 = .ok (.ireturn, 1) := by decide +kernel
theorem d_Q_entry_88 : decode c_Q_entry 88 = .ok (.iconst (-1), 1) := by decide +kernel
theorem d_Q_entry_89 : decode c_Q_entry 89 = .ok (.ireturn, 1) := by decide +kernel
theorem d_Q_stored_0 : decode c_Q_stored 0 = .ok (.iload_n 1, 1) := by decide +kernel
theorem d_Q_stored_1 : decode c_Q_stored 1 = .ok (.invokestatic 39, 3) := by decide +kernel
theorem d_Q_stored_4 : decode c_Q_stored 4 = .ok (.ifCond .eq (10), 3) := by decide +kernel
theorem d_Q_stored_7 : decode c_Q_stored 7 = .ok (.iload_n 2, 1) := by decide +kernel
theorem d_Q_stored_8 : decode c_Q_stored 8 = .ok (.invokestatic 237, 3) := by decide +kernel
theorem d_Q_stored_11 : decode c_Q_stored 11 = .ok (.ifCond .ne (5), 3) := by decide +kernel
theorem d_Q_stored_14 : decode c_Q_stored 14 = .ok (.iconst 0, 1) := by decide +kernel
theorem d_Q_stored_15 : decode c_Q_stored 15 = .ok (.ireturn, 1) := by decide +kernel
theorem d_Q_stored_16 : decode c_Q_stored 16 = .ok (.aload_n 0, 1) := by decide +kernel
theorem d_Q_stored_17 : decode c_Q_stored 17 = .ok (.getfield 11, 3) := by decide +kernel
theorem d_Q_stored_20 : decode c_Q_stored 20 = .ok (.iload_n 1, 1) := by decide +kernel
theorem d_Q_stored_21 : decode c_Q_stored 21 = .ok (.aaload, 1) := by decide +kernel
theorem d_Q_stored_22 : decode c_Q_stored 22 = .ok (.iload_n 2, 1) := by decide +kernel
theorem d_Q_stored_23 : decode c_Q_stored 23 = .ok (.invokevirtual 240, 3) := by decide +kernel
theorem d_Q_stored_26 : decode c_Q_stored 26 = .ok (.ireturn, 1) := by decide +kernel
theorem d_Q_isKey_0 : decode c_Q_isKey 0 = .ok (.iload_n 0, 1) := by decide +kernel
theorem d_Q_isKey_1 : decode c_Q_isKey 1 = .ok (.ifCond .lt (12), 3) := by decide +kernel
theorem d_Q_isKey_4 : decode c_Q_isKey 4 = .ok (.iload_n 0, 1) := by decide +kernel
theorem d_Q_isKey_5 : decode c_Q_isKey 5 = .ok (.iconst 4, 1) := by decide +kernel
theorem d_Q_isKey_6 : decode c_Q_isKey 6 = .ok (.if_icmp .ge (7), 3) := by decide +kernel
theorem d_Q_isKey_9 : decode c_Q_isKey 9 = .ok (.iconst 1, 1) := by decide +kernel
theorem d_Q_isKey_10 : decode c_Q_isKey 10 = .ok (.goto (4), 3) := by decide +kernel
theorem d_Q_isKey_13 : decode c_Q_isKey 13 = .ok (.iconst 0, 1) := by decide +kernel
theorem d_Q_isKey_14 : decode c_Q_isKey 14 = .ok (.ireturn, 1) := by decide +kernel
theorem d_Q_put_0 : decode c_Q_put 0 = .ok (.aload_n 0, 1) := by decide +kernel
theorem d_Q_put_1 : decode c_Q_put 1 = .ok (.iload_n 1, 1) := by decide +kernel
theorem d_Q_put_2 : decode c_Q_put 2 = .ok (.iload_n 2, 1) := by decide +kernel
theorem d_Q_put_3 : decode c_Q_put 3 = .ok (.invokevirtual 81, 3) := by decide +kernel
theorem d_Q_put_6 : decode c_Q_put 6 = .ok (.astore 4, 2) := by decide +kernel
theorem d_Q_put_8 : decode c_Q_put 8 = .ok (.aload 4, 2) := by decide +kernel
theorem d_Q_put_10 : decode c_Q_put 10 = .ok (.getfield 85, 3) := by decide +kernel
theorem d_Q_put_13 : decode c_Q_put 13 = .ok (.getfield 89, 3) := by decide +kernel
theorem d_Q_put_16 : decode c_Q_put 16 = .ok (.bipush (24), 2) := by decide +kernel
theorem d_Q_put_18 : decode c_Q_put 18 = .ok (.if_icmp .lt (13), 3) := by decide +kernel
theorem d_Q_put_21 : decode c_Q_put 21 = .ok (.new 94, 3) := by decide +kernel
theorem d_Q_put_24 : decode c_Q_put 24 = .ok (.dup, 1) := by decide +kernel
theorem d_Q_put_25 : decode c_Q_put 25 = .ok (.ldc 96, 2) := by decide +kernel
theorem d_Q_put_27 : decode c_Q_put 27 = .ok (.invokespecial 98, 3) := by decide +kernel
theorem d_Q_put_30 : decode c_Q_put 30 = .ok (.athrow, 1) := by decide +kernel
theorem d_Q_put_31 : decode c_Q_put 31 = .ok (.aload_n 0, 1) := by decide +kernel
theorem d_Q_put_32 : decode c_Q_put 32 = .ok (.aload 4, 2) := by decide +kernel
theorem d_Q_put_34 : decode c_Q_put 34 = .ok (.new 101, 3) := by decide +kernel
theorem d_Q_put_37 : decode c_Q_put 37 = .ok (.dup, 1) := by decide +kernel
theorem d_Q_put_38 : decode c_Q_put 38 = .ok (.aload 4, 2) := by decide +kernel
theorem d_Q_put_40 : decode c_Q_put 40 = .ok (.getfield 61, 3) := by decide +kernel
theorem d_Q_put_43 : decode c_Q_put 43 = .ok (.iconst 1, 1) := by decide +kernel
theorem d_Q_put_44 : decode c_Q_put 44 = .ok (.iload_n 2, 1) := by decide +kernel
theorem d_Q_put_45 : decode c_Q_put 45 = .ok (.iload_n 3, 1) := by decide +kernel
theorem d_Q_put_46 : decode c_Q_put 46 = .ok (.invokespecial 103, 3) := by decide +kernel
theorem d_Q_put_49 : decode c_Q_put 49 = .ok (.invokevirtual 106, 3) := by decide +kernel
theorem d_Q_put_52 : decode c_Q_put 52 = .ok (.ireturn, 1) := by decide +kernel
theorem d_Q_leaderFor_0 : decode c_Q_leaderFor 0 = .ok (.iload_n 1, 1) := by decide +kernel
theorem d_Q_leaderFor_1 : decode c_Q_leaderFor 1 = .ok (.invokestatic 39, 3) := by decide +kernel
theorem d_Q_leaderFor_4 : decode c_Q_leaderFor 4 = .ok (.ifCond .eq (10), 3) := by decide +kernel
theorem d_Q_leaderFor_7 : decode c_Q_leaderFor 7 = .ok (.iload_n 2, 1) := by decide +kernel
theorem d_Q_leaderFor_8 : decode c_Q_leaderFor 8 = .ok (.invokestatic 237, 3) := by decide +kernel
theorem d_Q_leaderFor_11 : decode c_Q_leaderFor 11 = .ok (.ifCond .ne (13), 3) := by decide +kernel
theorem d_Q_leaderFor_14 : decode c_Q_leaderFor 14 = .ok (.new 110, 3) := by decide +kernel
theorem d_Q_leaderFor_17 : decode c_Q_leaderFor 17 = .ok (.dup, 1) := by decide +kernel
theorem d_Q_leaderFor_18 : decode c_Q_leaderFor 18 = .ok (.ldc 248, 2) := by decide +kernel
theorem d_Q_leaderFor_20 : decode c_Q_leaderFor 20 = .ok (.invokespecial 114, 3) := by decide +kernel
theorem d_Q_leaderFor_23 : decode c_Q_leaderFor 23 = .ok (.athrow, 1) := by decide +kernel
theorem d_Q_leaderFor_24 : decode c_Q_leaderFor 24 = .ok (.aload_n 0, 1) := by decide +kernel
theorem d_Q_leaderFor_25 : decode c_Q_leaderFor 25 = .ok (.getfield 11, 3) := by decide +kernel
theorem d_Q_leaderFor_28 : decode c_Q_leaderFor 28 = .ok (.iload_n 1, 1) := by decide +kernel
theorem d_Q_leaderFor_29 : decode c_Q_leaderFor 29 = .ok (.aaload, 1) := by decide +kernel
theorem d_Q_leaderFor_30 : decode c_Q_leaderFor 30 = .ok (.invokevirtual 75, 3) := by decide +kernel
theorem d_Q_leaderFor_33 : decode c_Q_leaderFor 33 = .ok (.ifCond .ne (13), 3) := by decide +kernel
theorem d_Q_leaderFor_36 : decode c_Q_leaderFor 36 = .ok (.new 121, 3) := by decide +kernel
theorem d_Q_leaderFor_39 : decode c_Q_leaderFor 39 = .ok (.dup, 1) := by decide +kernel
theorem d_Q_leaderFor_40 : decode c_Q_leaderFor 40 = .ok (.ldc 123, 2) := by decide +kernel
theorem d_Q_leaderFor_42 : decode c_Q_leaderFor 42 = .ok (.invokespecial 125, 3) := by decide +kernel
theorem d_Q_leaderFor_45 : decode c_Q_leaderFor 45 = .ok (.athrow, 1) := by decide +kernel
theorem d_Q_leaderFor_46 : decode c_Q_leaderFor 46 = .ok (.aload_n 0, 1) := by decide +kernel
theorem d_Q_leaderFor_47 : decode c_Q_leaderFor 47 = .ok (.getfield 11, 3) := by decide +kernel
theorem d_Q_leaderFor_50 : decode c_Q_leaderFor 50 = .ok (.iload_n 1, 1) := by decide +kernel
theorem d_Q_leaderFor_51 : decode c_Q_leaderFor 51 = .ok (.aaload, 1) := by decide +kernel
theorem d_Q_leaderFor_52 : decode c_Q_leaderFor 52 = .ok (.areturn, 1) := by decide +kernel
theorem d_Q_change_0 : decode c_Q_change 0 = .ok (.iload_n 1, 1) := by decide +kernel
theorem d_Q_change_1 : decode c_Q_change 1 = .ok (.invokestatic 39, 3) := by decide +kernel
theorem d_Q_change_4 : decode c_Q_change 4 = .ok (.ifCond .eq (10), 3) := by decide +kernel
theorem d_Q_change_7 : decode c_Q_change 7 = .ok (.iload_n 2, 1) := by decide +kernel
theorem d_Q_change_8 : decode c_Q_change 8 = .ok (.invokestatic 39, 3) := by decide +kernel
theorem d_Q_change_11 : decode c_Q_change 11 = .ok (.ifCond .ne (13), 3) := by decide +kernel
theorem d_Q_change_14 : decode c_Q_change 14 = .ok (.new 110, 3) := by decide +kernel
theorem d_Q_change_17 : decode c_Q_change 17 = .ok (.dup, 1) := by decide +kernel
theorem d_Q_change_18 : decode c_Q_change 18 = .ok (.ldc 112, 2) := by decide +kernel
theorem d_Q_change_20 : decode c_Q_change 20 = .ok (.invokespecial 114, 3) := by decide +kernel
theorem d_Q_change_23 : decode c_Q_change 23 = .ok (.athrow, 1) := by decide +kernel
theorem d_Q_change_24 : decode c_Q_change 24 = .ok (.aload_n 0, 1) := by decide +kernel
theorem d_Q_change_25 : decode c_Q_change 25 = .ok (.getfield 11, 3) := by decide +kernel
theorem d_Q_change_28 : decode c_Q_change 28 = .ok (.iload_n 1, 1) := by decide +kernel
theorem d_Q_change_29 : decode c_Q_change 29 = .ok (.aaload, 1) := by decide +kernel
theorem d_Q_change_30 : decode c_Q_change 30 = .ok (.astore 4, 2) := by decide +kernel
theorem d_Q_change_32 : decode c_Q_change 32 = .ok (.aload 4, 2) := by decide +kernel
theorem d_Q_change_34 : decode c_Q_change 34 = .ok (.getfield 85, 3) := by decide +kernel
theorem d_Q_change_37 : decode c_Q_change 37 = .ok (.astore 5, 2) := by decide +kernel
theorem d_Q_change_39 : decode c_Q_change 39 = .ok (.aload 5, 2) := by decide +kernel
theorem d_Q_change_41 : decode c_Q_change 41 = .ok (.invokevirtual 115, 3) := by decide +kernel
theorem d_Q_change_44 : decode c_Q_change 44 = .ok (.istore 6, 2) := by decide +kernel
theorem d_Q_change_46 : decode c_Q_change 46 = .ok (.iload_n 3, 1) := by decide +kernel
theorem d_Q_change_47 : decode c_Q_change 47 = .ok (.ifCond .eq (12), 3) := by decide +kernel
theorem d_Q_change_50 : decode c_Q_change 50 = .ok (.iload 6, 2) := by decide +kernel
theorem d_Q_change_52 : decode c_Q_change 52 = .ok (.iconst 1, 1) := by decide +kernel
theorem d_Q_change_53 : decode c_Q_change 53 = .ok (.iload_n 2, 1) := by decide +kernel
theorem d_Q_change_54 : decode c_Q_change 54 = .ok (.ishl, 1) := by decide +kernel
theorem d_Q_change_55 : decode c_Q_change 55 = .ok (.ior, 1) := by decide +kernel
theorem d_Q_change_56 : decode c_Q_change 56 = .ok (.goto (11), 3) := by decide +kernel
theorem d_Q_change_59 : decode c_Q_change 59 = .ok (.iload 6, 2) := by decide +kernel
theorem d_Q_change_61 : decode c_Q_change 61 = .ok (.iconst 1, 1) := by decide +kernel
theorem d_Q_change_62 : decode c_Q_change 62 = .ok (.iload_n 2, 1) := by decide +kernel
theorem d_Q_change_63 : decode c_Q_change 63 = .ok (.ishl, 1) := by decide +kernel
theorem d_Q_change_64 : decode c_Q_change 64 = .ok (.iconst (-1), 1) := by decide +kernel
theorem d_Q_change_65 : decode c_Q_change 65 = .ok (.ixor, 1) := by decide +kernel
theorem d_Q_change_66 : decode c_Q_change 66 = .ok (.iand, 1) := by decide +kernel
theorem d_Q_change_67 : decode c_Q_change 67 = .ok (.istore 7, 2) := by decide +kernel
theorem d_Q_change_69 : decode c_Q_change 69 = .ok (.iload 7, 2) := by decide +kernel
theorem d_Q_change_71 : decode c_Q_change 71 = .ok (.iload 6, 2) := by decide +kernel
theorem d_Q_change_73 : decode c_Q_change 73 = .ok (.if_icmp .eq (8), 3) := by decide +kernel
theorem d_Q_change_76 : decode c_Q_change 76 = .ok (.iload 7, 2) := by decide +kernel
theorem d_Q_change_78 : decode c_Q_change 78 = .ok (.ifCond .ne (13), 3) := by decide +kernel
theorem d_Q_change_81 : decode c_Q_change 81 = .ok (.new 110, 3) := by decide +kernel
theorem d_Q_change_84 : decode c_Q_change 84 = .ok (.dup, 1) := by decide +kernel
theorem d_Q_change_85 : decode c_Q_change 85 = .ok (.ldc 119, 2) := by decide +kernel
theorem d_Q_change_87 : decode c_Q_change 87 = .ok (.invokespecial 114, 3) := by decide +kernel
theorem d_Q_change_90 : decode c_Q_change 90 = .ok (.athrow, 1) := by decide +kernel
theorem d_Q_change_91 : decode c_Q_change 91 = .ok (.aload 4, 2) := by decide +kernel
theorem d_Q_change_93 : decode c_Q_change 93 = .ok (.invokevirtual 75, 3) := by decide +kernel
theorem d_Q_change_96 : decode c_Q_change 96 = .ok (.ifCond .ne (13), 3) := by decide +kernel
theorem d_Q_change_99 : decode c_Q_change 99 = .ok (.new 121, 3) := by decide +kernel
theorem d_Q_change_102 : decode c_Q_change 102 = .ok (.dup, 1) := by decide +kernel
theorem d_Q_change_103 : decode c_Q_change 103 = .ok (.ldc 123, 2) := by decide +kernel
theorem d_Q_change_105 : decode c_Q_change 105 = .ok (.invokespecial 125, 3) := by decide +kernel
theorem d_Q_change_108 : decode c_Q_change 108 = .ok (.athrow, 1) := by decide +kernel
theorem d_Q_change_109 : decode c_Q_change 109 = .ok (.aload 5, 2) := by decide +kernel
theorem d_Q_change_111 : decode c_Q_change 111 = .ok (.getfield 89, 3) := by decide +kernel
theorem d_Q_change_114 : decode c_Q_change 114 = .ok (.bipush (24), 2) := by decide +kernel
theorem d_Q_change_116 : decode c_Q_change 116 = .ok (.if_icmp .ge (29), 3) := by decide +kernel
theorem d_Q_change_119 : decode c_Q_change 119 = .ok (.aload 5, 2) := by decide +kernel
theorem d_Q_change_121 : decode c_Q_change 121 = .ok (.aload 5, 2) := by decide +kernel
theorem d_Q_change_123 : decode c_Q_change 123 = .ok (.invokevirtual 126, 3) := by decide +kernel
theorem d_Q_change_126 : decode c_Q_change 126 = .ok (.invokevirtual 129, 3) := by decide +kernel
theorem d_Q_change_129 : decode c_Q_change 129 = .ok (.aload 4, 2) := by decide +kernel
theorem d_Q_change_131 : decode c_Q_change 131 = .ok (.getfield 133, 3) := by decide +kernel
theorem d_Q_change_134 : decode c_Q_change 134 = .ok (.if_icmp .gt (11), 3) := by decide +kernel
theorem d_Q_change_137 : decode c_Q_change 137 = .ok (.aload 4, 2) := by decide +kernel
theorem d_Q_change_139 : decode c_Q_change 139 = .ok (.invokevirtual 136, 3) := by decide +kernel
theorem d_Q_change_142 : decode c_Q_change 142 = .ok (.ifCond .ne (13), 3) := by decide +kernel
theorem d_Q_change_145 : decode c_Q_change 145 = .ok (.new 94, 3) := by decide +kernel
theorem d_Q_change_148 : decode c_Q_change 148 = .ok (.dup, 1) := by decide +kernel
theorem d_Q_change_149 : decode c_Q_change 149 = .ok (.ldc 139, 2) := by decide +kernel
theorem d_Q_change_151 : decode c_Q_change 151 = .ok (.invokespecial 98, 3) := by decide +kernel
theorem d_Q_change_154 : decode c_Q_change 154 = .ok (.athrow, 1) := by decide +kernel
theorem d_Q_change_155 : decode c_Q_change 155 = .ok (.aload_n 0, 1) := by decide +kernel
theorem d_Q_change_156 : decode c_Q_change 156 = .ok (.aload 4, 2) := by decide +kernel
theorem d_Q_change_158 : decode c_Q_change 158 = .ok (.new 101, 3) := by decide +kernel
theorem d_Q_change_161 : decode c_Q_change 161 = .ok (.dup, 1) := by decide +kernel
theorem d_Q_change_162 : decode c_Q_change 162 = .ok (.aload 4, 2) := by decide +kernel
theorem d_Q_change_164 : decode c_Q_change 164 = .ok (.getfield 61, 3) := by decide +kernel
theorem d_Q_change_167 : decode c_Q_change 167 = .ok (.iconst 2, 1) := by decide +kernel
theorem d_Q_change_168 : decode c_Q_change 168 = .ok (.iload 7, 2) := by decide +kernel
theorem d_Q_change_170 : decode c_Q_change 170 = .ok (.iconst 0, 1) := by decide +kernel
theorem d_Q_change_171 : decode c_Q_change 171 = .ok (.invokespecial 103, 3) := by decide +kernel
theorem d_Q_change_174 : decode c_Q_change 174 = .ok (.invokevirtual 106, 3) := by decide +kernel
theorem d_Q_change_177 : decode c_Q_change 177 = .ok (.ireturn, 1) := by decide +kernel
theorem d_Q_read_0 : decode c_Q_read 0 = .ok (.aload_n 0, 1) := by decide +kernel
theorem d_Q_read_1 : decode c_Q_read 1 = .ok (.iload_n 1, 1) := by decide +kernel
theorem d_Q_read_2 : decode c_Q_read 2 = .ok (.iload_n 2, 1) := by decide +kernel
theorem d_Q_read_3 : decode c_Q_read 3 = .ok (.invokevirtual 81, 3) := by decide +kernel
theorem d_Q_read_6 : decode c_Q_read 6 = .ok (.astore_n 3, 1) := by decide +kernel
theorem d_Q_read_7 : decode c_Q_read 7 = .ok (.aload_n 0, 1) := by decide +kernel
theorem d_Q_read_8 : decode c_Q_read 8 = .ok (.getfield 18, 3) := by decide +kernel
theorem d_Q_read_11 : decode c_Q_read 11 = .ok (.iload_n 1, 1) := by decide +kernel
theorem d_Q_read_12 : decode c_Q_read 12 = .ok (.invokevirtual 141, 3) := by decide +kernel
theorem d_Q_read_15 : decode c_Q_read 15 = .ok (.iconst 4, 1) := by decide +kernel
theorem d_Q_read_16 : decode c_Q_read 16 = .ok (.if_icmp .ge (22), 3) := by decide +kernel
theorem d_Q_read_19 : decode c_Q_read 19 = .ok (.aload_n 0, 1) := by decide +kernel
theorem d_Q_read_20 : decode c_Q_read 20 = .ok (.getfield 18, 3) := by decide +kernel
theorem d_Q_read_23 : decode c_Q_read 23 = .ok (.getfield 144, 3) := by decide +kernel
theorem d_Q_read_26 : decode c_Q_read 26 = .ok (.bipush (60), 2) := by decide +kernel
theorem d_Q_read_28 : decode c_Q_read 28 = .ok (.if_icmp .ge (10), 3) := by decide +kernel
theorem d_Q_read_31 : decode c_Q_read 31 = .ok (.aload_n 3, 1) := by decide +kernel
theorem d_Q_read_32 : decode c_Q_read 32 = .ok (.invokevirtual 136, 3) := by decide +kernel
theorem d_Q_read_35 : decode c_Q_read 35 = .ok (.ifCond .ne (13), 3) := by decide +kernel
theorem d_Q_read_38 : decode c_Q_read 38 = .ok (.new 94, 3) := by decide +kernel
theorem d_Q_read_41 : decode c_Q_read 41 = .ok (.dup, 1) := by decide +kernel
theorem d_Q_read_42 : decode c_Q_read 42 = .ok (.ldc 145, 2) := by decide +kernel
theorem d_Q_read_44 : decode c_Q_read 44 = .ok (.invokespecial 98, 3) := by decide +kernel
theorem d_Q_read_47 : decode c_Q_read 47 = .ok (.athrow, 1) := by decide +kernel
theorem d_Q_read_48 : decode c_Q_read 48 = .ok (.aload_n 3, 1) := by decide +kernel
theorem d_Q_read_49 : decode c_Q_read 49 = .ok (.dup, 1) := by decide +kernel
theorem d_Q_read_50 : decode c_Q_read 50 = .ok (.getfield 147, 3) := by decide +kernel
theorem d_Q_read_53 : decode c_Q_read 53 = .ok (.iconst 1, 1) := by decide +kernel
theorem d_Q_read_54 : decode c_Q_read 54 = .ok (.iadd, 1) := by decide +kernel
theorem d_Q_read_55 : decode c_Q_read 55 = .ok (.putfield 147, 3) := by decide +kernel
theorem d_Q_read_58 : decode c_Q_read 58 = .ok (.aload_n 0, 1) := by decide +kernel
theorem d_Q_read_59 : decode c_Q_read 59 = .ok (.getfield 18, 3) := by decide +kernel
theorem d_Q_read_62 : decode c_Q_read 62 = .ok (.iload_n 1, 1) := by decide +kernel
theorem d_Q_read_63 : decode c_Q_read 63 = .ok (.iload_n 2, 1) := by decide +kernel
theorem d_Q_read_64 : decode c_Q_read 64 = .ok (.aload_n 3, 1) := by decide +kernel
theorem d_Q_read_65 : decode c_Q_read 65 = .ok (.getfield 147, 3) := by decide +kernel
theorem d_Q_read_68 : decode c_Q_read 68 = .ok (.invokevirtual 150, 3) := by decide +kernel
theorem d_Q_read_71 : decode c_Q_read 71 = .ok (.istore 4, 2) := by decide +kernel
theorem d_Q_read_73 : decode c_Q_read 73 = .ok (.aload_n 0, 1) := by decide +kernel
theorem d_Q_read_74 : decode c_Q_read 74 = .ok (.aload_n 3, 1) := by decide +kernel
theorem d_Q_read_75 : decode c_Q_read 75 = .ok (.invokevirtual 78, 3) := by decide +kernel
theorem d_Q_read_78 : decode c_Q_read 78 = .ok (.aload_n 0, 1) := by decide +kernel
theorem d_Q_read_79 : decode c_Q_read 79 = .ok (.aload_n 3, 1) := by decide +kernel
theorem d_Q_read_80 : decode c_Q_read 80 = .ok (.invokevirtual 154, 3) := by decide +kernel
theorem d_Q_read_83 : decode c_Q_read 83 = .ok (.iload 4, 2) := by decide +kernel
theorem d_Q_read_85 : decode c_Q_read 85 = .ok (.ireturn, 1) := by decide +kernel
theorem oi_Q_1 : Cond.methodLink "QuorumLog" 1 Lib.objectInit ∈ qu_W := qm_23
theorem cl_Q_9 : Cond.classLink "QuorumLog" 9 "QuorumLog$Server" ∈ qu_W := qm_26
theorem fp_Q_11 : qx_FP "QuorumLog" 11 0 0 (.array (.object "QuorumLog$Server")) true := ⟨"QuorumLog", T_Q, 3, t_Q, rfl, by decide, uw_Q, qm_238, k_Q, n_Q, by decide +kernel, rfl, fun _ => rfl⟩
theorem nw_Q_15 : qx_NW "QuorumLog" 15 4 [.null, .null, .null, .null, .null, .int 0] 6 := ⟨"QuorumLog$Reads", T_R, t_R, rfl, uw_R, k_R, fun j hj => by revert j; decide +kernel, qm_28, qm_29, qm_2⟩
theorem s_Q_init_17 {l : Launch} {G : qh_G} {h : qh_H} {b0 : Nat} {rest : List Value} : qx_Site l G "QuorumLog" c_Q_init 17 y_R_init (.ref b0 :: []) rest h := qx_siteIN (As := []) d_Q_init_17 rfl (List.mem_of_getElem? (i := 0) rfl) qm_31 w_R_init.1 (by decide) p_R_init
theorem fp_Q_18 : qx_FP "QuorumLog" 18 0 2 (.object "QuorumLog$Reads") true := ⟨"QuorumLog", T_Q, 3, t_Q, rfl, by decide, uw_Q, qm_240, k_Q, n_Q, by decide +kernel, rfl, fun _ => rfl⟩
theorem nw_Q_22 : qx_NW "QuorumLog" 22 7 [.int 0, .int 0, .int 0, .null] 4 := ⟨"QuorumLog$Snapshot", T_N, t_N, rfl, uw_N, k_N, fun j hj => by revert j; decide +kernel, qm_59, qm_60, qm_3⟩
theorem s_Q_init_46 {l : Launch} {G : qh_G} {h : qh_H} {b0 : Nat} {rest : List Value} {v0 v1 v2 v3 : Value} : qx_Site l G "QuorumLog" c_Q_init 46 y_N_init (.ref b0 :: [v0, v1, v2, v3]) rest h := qx_siteI (As := [v0, v1, v2, v3]) d_Q_init_46 rfl qm_61 qm_62 w_N_init.1 (by decide) p_N_init
theorem fl_Q_11 : qx_FL "QuorumLog" 11 0 0 := ⟨"QuorumLog", T_Q, 3, rfl, by decide, uw_Q, qm_238⟩
theorem nw_Q_9 : qx_NW "QuorumLog" 9 6 [.int 0, .null, .null, .null, .null, .int 0, .int 0, .int 0, .int 0, .int 0, .int 0, .int 0, .int 0] 13 := ⟨"QuorumLog$Server", T_S, t_S, rfl, uw_S, k_S, fun j hj => by revert j; decide +kernel, qm_26, qm_83, qm_4⟩
theorem s_Q_init_72 {l : Launch} {G : qh_G} {h : qh_H} {b0 : Nat} {rest : List Value} {v0 v1 : Value} : qx_Site l G "QuorumLog" c_Q_init 72 y_S_init (.ref b0 :: [v0, v1]) rest h := qx_siteI (As := [v0, v1]) d_Q_init_72 rfl qm_84 qm_85 w_S_init.1 (by decide) p_S_init
theorem nw_Q_30 : qx_NW "QuorumLog" 30 5 [.null, .null, .int 0] 3 := ⟨"QuorumLog$Row", T_W, t_W, rfl, uw_W, k_W, fun j hj => by revert j; decide +kernel, qm_159, qm_160, qm_6⟩
theorem s_Q_init_88 {l : Launch} {G : qh_G} {h : qh_H} {b0 : Nat} {rest : List Value} {v0 : Value} : qx_Site l G "QuorumLog" c_Q_init 88 y_W_init (.ref b0 :: [v0]) rest h := qx_siteI (As := [v0]) d_Q_init_88 rfl qm_161 qm_162 w_W_init.1 (by decide) p_W_init
theorem fp_Q_35 : qx_FP "QuorumLog" 35 0 1 (.object "QuorumLog$Row") true := ⟨"QuorumLog", T_Q, 3, t_Q, rfl, by decide, uw_Q, qm_239, k_Q, n_Q, by decide +kernel, rfl, fun _ => rfl⟩
theorem s_Q_timer_1 {l : Launch} {G : qh_G} {h : qh_H} {rest : List Value} {v0 : Value} : qx_Site l G "QuorumLog" c_Q_timer 1 y_Q_isServer [v0] rest h := qx_siteS (As := [v0]) d_Q_timer_1 qm_252 qm_253 qm_1 w_Q_isServer.1 (by decide) p_Q_isServer
theorem s_Q_timer_13 {l : Launch} {G : qh_G} {h : qh_H} {b0 : Nat} {fs rest : List Value} (hb0 : h b0 = some (.inr (6, fs))) : qx_Site l G "QuorumLog" c_Q_timer 13 y_S_mayAsk (.ref b0 :: []) rest h := qx_siteV (As := []) (E := "QuorumLog$Server") (ci := 6) d_Q_timer_13 qm_255 qm_256 qm_257 w_S_mayAsk.1 (by decide) rfl p_S_mayAsk hb0
theorem fp_Q_47 : qx_FP "QuorumLog" 47 6 6 (.boolean) false := ⟨"QuorumLog$Server", T_S, 13, t_S, rfl, by decide, uw_S, qm_121, k_S, n_S, by decide +kernel, rfl, fun _ => by contradiction⟩
theorem fp_Q_51 : qx_FP "QuorumLog" 51 6 9 (.int) false := ⟨"QuorumLog$Server", T_S, 13, t_S, rfl, by decide, uw_S, qm_127, k_S, n_S, by decide +kernel, rfl, fun _ => by contradiction⟩
theorem fl_Q_55 : qx_FL "QuorumLog" 55 6 0 := ⟨"QuorumLog$Server", T_S, 13, rfl, by decide, uw_S, qm_110⟩
theorem fp_Q_58 : qx_FP "QuorumLog" 58 6 12 (.int) false := ⟨"QuorumLog$Server", T_S, 13, t_S, rfl, by decide, uw_S, qm_131, k_S, n_S, by decide +kernel, rfl, fun _ => by contradiction⟩
theorem fl_Q_61 : qx_FL "QuorumLog" 61 6 7 := ⟨"QuorumLog$Server", T_S, 13, rfl, by decide, uw_S, qm_122⟩
theorem s_Q_timer_57 {l : Launch} {G : qh_G} {h : qh_H} {b0 : Nat} {fs rest : List Value} {v0 v1 v2 : Value} (hb0 : h b0 = some (.inr (0, fs))) : qx_Site l G "QuorumLog" c_Q_timer 57 y_Q_askAll (.ref b0 :: [v0, v1, v2]) rest h := qx_siteV (As := [v0, v1, v2]) (E := "QuorumLog") (ci := 0) d_Q_timer_57 qm_282 qm_284 qs_0 w_Q_askAll.1 (by decide) rfl p_Q_askAll hb0
theorem s_Q_timer_62 {l : Launch} {G : qh_G} {h : qh_H} {b0 : Nat} {fs rest : List Value} {v0 : Value} (hb0 : h b0 = some (.inr (0, fs))) : qx_Site l G "QuorumLog" c_Q_timer 62 y_Q_standIfMostSaidYes (.ref b0 :: [v0]) rest h := qx_siteV (As := [v0]) (E := "QuorumLog") (ci := 0) d_Q_timer_62 qm_305 qm_307 qs_1 w_Q_standIfMostSaidYes.1 (by decide) rfl p_Q_standIfMostSaidYes hb0
theorem s_Q_timer_67 {l : Launch} {G : qh_G} {h : qh_H} {b0 : Nat} {fs rest : List Value} {v0 : Value} (hb0 : h b0 = some (.inr (0, fs))) : qx_Site l G "QuorumLog" c_Q_timer 67 y_Q_leadIfMostSaidYes (.ref b0 :: [v0]) rest h := qx_siteV (As := [v0]) (E := "QuorumLog") (ci := 0) d_Q_timer_67 qm_318 qm_320 qs_2 w_Q_leadIfMostSaidYes.1 (by decide) rfl p_Q_leadIfMostSaidYes hb0
theorem fl_Q_85 : qx_FL "QuorumLog" 85 6 1 := ⟨"QuorumLog$Server", T_S, 13, rfl, by decide, uw_S, qm_112⟩
theorem s_Q_askAll_4 {l : Launch} {G : qh_G} {h : qh_H} {b0 : Nat} {fs rest : List Value} (hb0 : h b0 = some (.inr (2, fs))) : qx_Site l G "QuorumLog" c_Q_askAll 4 y_L_configuration (.ref b0 :: []) rest h := qx_siteV (As := []) (E := "QuorumLog$Log") (ci := 2) d_Q_askAll_4 qm_286 qm_260 qm_261 w_L_configuration.1 (by decide) rfl p_L_configuration hb0
theorem s_Q_askAll_31 {l : Launch} {G : qh_G} {h : qh_H} {rest : List Value} {v0 v1 : Value} : qx_Site l G "QuorumLog" c_Q_askAll 31 y_Q_isIn [v0, v1] rest h := qx_siteS (As := [v0, v1]) d_Q_askAll_31 qm_287 qm_280 qm_1 w_Q_isIn.1 (by decide) p_Q_isIn
theorem fl_Q_35 : qx_FL "QuorumLog" 35 0 1 := ⟨"QuorumLog", T_Q, 3, rfl, by decide, uw_Q, qm_239⟩
theorem s_Q_askAll_49 {l : Launch} {G : qh_G} {h : qh_H} {b0 : Nat} {fs rest : List Value} {v0 v1 v2 v3 : Value} (hb0 : h b0 = some (.inr (5, fs))) : qx_Site l G "QuorumLog" c_Q_askAll 49 y_W_send (.ref b0 :: [v0, v1, v2, v3]) rest h := qx_siteV (As := [v0, v1, v2, v3]) (E := "QuorumLog$Row") (ci := 5) d_Q_askAll_49 qm_288 qm_289 qm_290 w_W_send.1 (by decide) rfl p_W_send hb0
theorem s_Q_askAll_60 {l : Launch} {G : qh_G} {h : qh_H} {b0 : Nat} {fs rest : List Value} (hb0 : h b0 = some (.inr (2, fs))) : qx_Site l G "QuorumLog" c_Q_askAll 60 y_L_last (.ref b0 :: []) rest h := qx_siteV (As := []) (E := "QuorumLog$Log") (ci := 2) d_Q_askAll_60 qm_296 qm_264 qm_265 w_L_last.1 (by decide) rfl p_L_last hb0
theorem fp_Q_213 : qx_FP "QuorumLog" 213 3 5 (.int) false := ⟨"QuorumLog$Message", T_M, 12, t_M, rfl, by decide, uw_M, qm_186, k_M, n_M, by decide +kernel, rfl, fun _ => by contradiction⟩
theorem s_Q_askAll_72 {l : Launch} {G : qh_G} {h : qh_H} {b0 : Nat} {fs rest : List Value} (hb0 : h b0 = some (.inr (2, fs))) : qx_Site l G "QuorumLog" c_Q_askAll 72 y_L_lastTerm (.ref b0 :: []) rest h := qx_siteV (As := []) (E := "QuorumLog$Log") (ci := 2) d_Q_askAll_72 qm_297 qm_298 qm_299 w_L_lastTerm.1 (by decide) rfl p_L_lastTerm hb0
theorem fp_Q_261 : qx_FP "QuorumLog" 261 3 6 (.int) false := ⟨"QuorumLog$Message", T_M, 12, t_M, rfl, by decide, uw_M, qm_189, k_M, n_M, by decide +kernel, rfl, fun _ => by contradiction⟩
theorem fl_Q_51 : qx_FL "QuorumLog" 51 6 9 := ⟨"QuorumLog$Server", T_S, 13, rfl, by decide, uw_S, qm_127⟩
theorem fl_Q_58 : qx_FL "QuorumLog" 58 6 12 := ⟨"QuorumLog$Server", T_S, 13, rfl, by decide, uw_S, qm_131⟩
theorem s_Q_standIfMostSaidYes_16 {l : Launch} {G : qh_G} {h : qh_H} {b0 : Nat} {fs rest : List Value} (hb0 : h b0 = some (.inr (2, fs))) : qx_Site l G "QuorumLog" c_Q_standIfMostSaidYes 16 y_L_configuration (.ref b0 :: []) rest h := qx_siteV (As := []) (E := "QuorumLog$Log") (ci := 2) d_Q_standIfMostSaidYes_16 qm_286 qm_260 qm_261 w_L_configuration.1 (by decide) rfl p_L_configuration hb0
theorem s_Q_standIfMostSaidYes_19 {l : Launch} {G : qh_G} {h : qh_H} {rest : List Value} {v0 v1 : Value} : qx_Site l G "QuorumLog" c_Q_standIfMostSaidYes 19 y_Q_areMost [v0, v1] rest h := qx_siteS (As := [v0, v1]) d_Q_standIfMostSaidYes_19 qm_309 qm_310 qm_1 w_Q_areMost.1 (by decide) p_Q_areMost
theorem fp_Q_61 : qx_FP "QuorumLog" 61 6 7 (.int) false := ⟨"QuorumLog$Server", T_S, 13, t_S, rfl, by decide, uw_S, qm_122, k_S, n_S, by decide +kernel, rfl, fun _ => by contradiction⟩
theorem fp_Q_220 : qx_FP "QuorumLog" 220 6 8 (.int) false := ⟨"QuorumLog$Server", T_S, 13, t_S, rfl, by decide, uw_S, qm_125, k_S, n_S, by decide +kernel, rfl, fun _ => by contradiction⟩
theorem s_Q_standIfMostSaidYes_66 {l : Launch} {G : qh_G} {h : qh_H} {b0 : Nat} {fs rest : List Value} {v0 v1 v2 : Value} (hb0 : h b0 = some (.inr (0, fs))) : qx_Site l G "QuorumLog" c_Q_standIfMostSaidYes 66 y_Q_askAll (.ref b0 :: [v0, v1, v2]) rest h := qx_siteV (As := [v0, v1, v2]) (E := "QuorumLog") (ci := 0) d_Q_standIfMostSaidYes_66 qm_282 qm_284 qs_0 w_Q_askAll.1 (by decide) rfl p_Q_askAll hb0
theorem s_Q_areMost_4 {l : Launch} {G : qh_G} {h : qh_H} {rest : List Value} {v0 : Value} : qx_Site l G "QuorumLog" c_Q_areMost 4 y_I_bitCount [v0] rest h := qx_siteS (As := [v0]) d_Q_areMost_4 qm_312 qm_313 qm_9 w_I_bitCount.1 (by decide) p_I_bitCount
theorem s_Q_areMost_9 {l : Launch} {G : qh_G} {h : qh_H} {rest : List Value} {v0 : Value} : qx_Site l G "QuorumLog" c_Q_areMost 9 y_I_bitCount [v0] rest h := qx_siteS (As := [v0]) d_Q_areMost_9 qm_312 qm_313 qm_9 w_I_bitCount.1 (by decide) p_I_bitCount
theorem s_Q_leadIfMostSaidYes_16 {l : Launch} {G : qh_G} {h : qh_H} {b0 : Nat} {fs rest : List Value} (hb0 : h b0 = some (.inr (2, fs))) : qx_Site l G "QuorumLog" c_Q_leadIfMostSaidYes 16 y_L_configuration (.ref b0 :: []) rest h := qx_siteV (As := []) (E := "QuorumLog$Log") (ci := 2) d_Q_leadIfMostSaidYes_16 qm_286 qm_260 qm_261 w_L_configuration.1 (by decide) rfl p_L_configuration hb0
theorem s_Q_leadIfMostSaidYes_19 {l : Launch} {G : qh_G} {h : qh_H} {rest : List Value} {v0 v1 : Value} : qx_Site l G "QuorumLog" c_Q_leadIfMostSaidYes 19 y_Q_areMost [v0, v1] rest h := qx_siteS (As := [v0, v1]) d_Q_leadIfMostSaidYes_19 qm_309 qm_310 qm_1 w_Q_areMost.1 (by decide) p_Q_areMost
theorem fp_Q_147 : qx_FP "QuorumLog" 147 6 11 (.int) false := ⟨"QuorumLog$Server", T_S, 13, t_S, rfl, by decide, uw_S, qm_130, k_S, n_S, by decide +kernel, rfl, fun _ => by contradiction⟩
theorem fl_Q_267 : qx_FL "QuorumLog" 267 6 2 := ⟨"QuorumLog$Server", T_S, 13, rfl, by decide, uw_S, qm_114⟩
theorem s_Q_leadIfMostSaidYes_52 {l : Launch} {G : qh_G} {h : qh_H} {b0 : Nat} {fs rest : List Value} (hb0 : h b0 = some (.inr (2, fs))) : qx_Site l G "QuorumLog" c_Q_leadIfMostSaidYes 52 y_L_last (.ref b0 :: []) rest h := qx_siteV (As := []) (E := "QuorumLog$Log") (ci := 2) d_Q_leadIfMostSaidYes_52 qm_296 qm_264 qm_265 w_L_last.1 (by decide) rfl p_L_last hb0
theorem fl_Q_270 : qx_FL "QuorumLog" 270 6 3 := ⟨"QuorumLog$Server", T_S, 13, rfl, by decide, uw_S, qm_116⟩
theorem fl_Q_273 : qx_FL "QuorumLog" 273 6 4 := ⟨"QuorumLog$Server", T_S, 13, rfl, by decide, uw_S, qm_118⟩
theorem nw_Q_101 : qx_NW "QuorumLog" 101 1 [.int 0, .int 0, .int 0, .int 0] 4 := ⟨"QuorumLog$Entry", T_E, t_E, rfl, uw_E, k_E, fun j hj => by revert j; decide +kernel, qm_322, qm_323, qm_10⟩
theorem s_Q_leadIfMostSaidYes_91 {l : Launch} {G : qh_G} {h : qh_H} {b0 : Nat} {rest : List Value} {v0 v1 v2 v3 : Value} : qx_Site l G "QuorumLog" c_Q_leadIfMostSaidYes 91 y_E_init (.ref b0 :: [v0, v1, v2, v3]) rest h := qx_siteI (As := [v0, v1, v2, v3]) d_Q_leadIfMostSaidYes_91 rfl qm_324 qm_325 w_E_init.1 (by decide) p_E_init
theorem s_Q_leadIfMostSaidYes_94 {l : Launch} {G : qh_G} {h : qh_H} {b0 : Nat} {fs rest : List Value} {v0 v1 : Value} (hb0 : h b0 = some (.inr (0, fs))) : qx_Site l G "QuorumLog" c_Q_leadIfMostSaidYes 94 y_Q_append (.ref b0 :: [v0, v1]) rest h := qx_siteV (As := [v0, v1]) (E := "QuorumLog") (ci := 0) d_Q_leadIfMostSaidYes_94 qm_349 qm_351 qs_3 w_Q_append.1 (by decide) rfl p_Q_append hb0
theorem s_Q_append_5 {l : Launch} {G : qh_G} {h : qh_H} {b0 : Nat} {fs rest : List Value} {v0 : Value} (hb0 : h b0 = some (.inr (2, fs))) : qx_Site l G "QuorumLog" c_Q_append 5 y_L_add (.ref b0 :: [v0]) rest h := qx_siteV (As := [v0]) (E := "QuorumLog$Log") (ci := 2) d_Q_append_5 qm_353 qm_354 qm_355 w_L_add.1 (by decide) rfl p_L_add hb0
theorem s_Q_append_11 {l : Launch} {G : qh_G} {h : qh_H} {b0 : Nat} {fs rest : List Value} {v0 : Value} (hb0 : h b0 = some (.inr (0, fs))) : qx_Site l G "QuorumLog" c_Q_append 11 y_Q_lookAtCommit (.ref b0 :: [v0]) rest h := qx_siteV (As := [v0]) (E := "QuorumLog") (ci := 0) d_Q_append_11 qm_357 qm_359 qs_4 w_Q_lookAtCommit.1 (by decide) rfl p_Q_lookAtCommit hb0
theorem s_Q_append_16 {l : Launch} {G : qh_G} {h : qh_H} {b0 : Nat} {fs rest : List Value} {v0 : Value} (hb0 : h b0 = some (.inr (0, fs))) : qx_Site l G "QuorumLog" c_Q_append 16 y_Q_sendToAll (.ref b0 :: [v0]) rest h := qx_siteV (As := [v0]) (E := "QuorumLog") (ci := 0) d_Q_append_16 qm_383 qm_385 qs_7 w_Q_sendToAll.1 (by decide) rfl p_Q_sendToAll hb0
theorem s_Q_append_23 {l : Launch} {G : qh_G} {h : qh_H} {b0 : Nat} {fs rest : List Value} (hb0 : h b0 = some (.inr (2, fs))) : qx_Site l G "QuorumLog" c_Q_append 23 y_L_last (.ref b0 :: []) rest h := qx_siteV (As := []) (E := "QuorumLog$Log") (ci := 2) d_Q_append_23 qm_296 qm_264 qm_265 w_L_last.1 (by decide) rfl p_L_last hb0
theorem s_Q_lookAtCommit_4 {l : Launch} {G : qh_G} {h : qh_H} {b0 : Nat} {fs rest : List Value} (hb0 : h b0 = some (.inr (2, fs))) : qx_Site l G "QuorumLog" c_Q_lookAtCommit 4 y_L_configuration (.ref b0 :: []) rest h := qx_siteV (As := []) (E := "QuorumLog$Log") (ci := 2) d_Q_lookAtCommit_4 qm_286 qm_260 qm_261 w_L_configuration.1 (by decide) rfl p_L_configuration hb0
theorem s_Q_lookAtCommit_12 {l : Launch} {G : qh_G} {h : qh_H} {b0 : Nat} {fs rest : List Value} (hb0 : h b0 = some (.inr (2, fs))) : qx_Site l G "QuorumLog" c_Q_lookAtCommit 12 y_L_last (.ref b0 :: []) rest h := qx_siteV (As := []) (E := "QuorumLog$Log") (ci := 2) d_Q_lookAtCommit_12 qm_296 qm_264 qm_265 w_L_last.1 (by decide) rfl p_L_last hb0
theorem fl_Q_133 : qx_FL "QuorumLog" 133 6 10 := ⟨"QuorumLog$Server", T_S, 13, rfl, by decide, uw_S, qm_129⟩
theorem s_Q_lookAtCommit_29 {l : Launch} {G : qh_G} {h : qh_H} {b0 : Nat} {fs rest : List Value} {v0 : Value} (hb0 : h b0 = some (.inr (2, fs))) : qx_Site l G "QuorumLog" c_Q_lookAtCommit 29 y_L_termAt (.ref b0 :: [v0]) rest h := qx_siteV (As := [v0]) (E := "QuorumLog$Log") (ci := 2) d_Q_lookAtCommit_29 qm_361 qm_302 qm_303 w_L_termAt.1 (by decide) rfl p_L_termAt hb0
theorem s_Q_lookAtCommit_41 {l : Launch} {G : qh_G} {h : qh_H} {b0 : Nat} {fs rest : List Value} {v0 : Value} (hb0 : h b0 = some (.inr (6, fs))) : qx_Site l G "QuorumLog" c_Q_lookAtCommit 41 y_S_holdersOf (.ref b0 :: [v0]) rest h := qx_siteV (As := [v0]) (E := "QuorumLog$Server") (ci := 6) d_Q_lookAtCommit_41 qm_362 qm_363 qm_364 w_S_holdersOf.1 (by decide) rfl p_S_holdersOf hb0
theorem s_Q_lookAtCommit_45 {l : Launch} {G : qh_G} {h : qh_H} {rest : List Value} {v0 v1 : Value} : qx_Site l G "QuorumLog" c_Q_lookAtCommit 45 y_Q_areMost [v0, v1] rest h := qx_siteS (As := [v0, v1]) d_Q_lookAtCommit_45 qm_309 qm_310 qm_1 w_Q_areMost.1 (by decide) p_Q_areMost
theorem fp_Q_133 : qx_FP "QuorumLog" 133 6 10 (.int) false := ⟨"QuorumLog$Server", T_S, 13, t_S, rfl, by decide, uw_S, qm_129, k_S, n_S, by decide +kernel, rfl, fun _ => by contradiction⟩
theorem s_Q_lookAtCommit_73 {l : Launch} {G : qh_G} {h : qh_H} {b0 : Nat} {fs rest : List Value} (hb0 : h b0 = some (.inr (2, fs))) : qx_Site l G "QuorumLog" c_Q_lookAtCommit 73 y_L_last (.ref b0 :: []) rest h := qx_siteV (As := []) (E := "QuorumLog$Log") (ci := 2) d_Q_lookAtCommit_73 qm_296 qm_264 qm_265 w_L_last.1 (by decide) rfl p_L_last hb0
theorem s_Q_lookAtCommit_76 {l : Launch} {G : qh_G} {h : qh_H} {b0 : Nat} {fs rest : List Value} {v0 : Value} (hb0 : h b0 = some (.inr (2, fs))) : qx_Site l G "QuorumLog" c_Q_lookAtCommit 76 y_L_latestMembersUpTo (.ref b0 :: [v0]) rest h := qx_siteV (As := [v0]) (E := "QuorumLog$Log") (ci := 2) d_Q_lookAtCommit_76 qm_370 qm_268 qm_269 w_L_latestMembersUpTo.1 (by decide) rfl p_L_latestMembersUpTo hb0
theorem s_Q_lookAtCommit_98 {l : Launch} {G : qh_G} {h : qh_H} {rest : List Value} {v0 v1 : Value} : qx_Site l G "QuorumLog" c_Q_lookAtCommit 98 y_Q_isIn [v0, v1] rest h := qx_siteS (As := [v0, v1]) d_Q_lookAtCommit_98 qm_287 qm_280 qm_1 w_Q_isIn.1 (by decide) p_Q_isIn
theorem s_Q_lookAtCommit_106 {l : Launch} {G : qh_G} {h : qh_H} {b0 : Nat} {fs rest : List Value} {v0 : Value} (hb0 : h b0 = some (.inr (0, fs))) : qx_Site l G "QuorumLog" c_Q_lookAtCommit 106 y_Q_follow (.ref b0 :: [v0]) rest h := qx_siteV (As := [v0]) (E := "QuorumLog") (ci := 0) d_Q_lookAtCommit_106 qm_371 qm_373 qs_6 w_Q_follow.1 (by decide) rfl p_Q_follow hb0
theorem fl_Q_18 : qx_FL "QuorumLog" 18 0 2 := ⟨"QuorumLog", T_Q, 3, rfl, by decide, uw_Q, qm_240⟩
theorem s_Q_follow_16 {l : Launch} {G : qh_G} {h : qh_H} {b0 : Nat} {fs rest : List Value} {v0 : Value} (hb0 : h b0 = some (.inr (4, fs))) : qx_Site l G "QuorumLog" c_Q_follow 16 y_R_failAllOf (.ref b0 :: [v0]) rest h := qx_siteV (As := [v0]) (E := "QuorumLog$Reads") (ci := 4) d_Q_follow_16 qm_375 qm_376 qm_377 w_R_failAllOf.1 (by decide) rfl p_R_failAllOf hb0
theorem s_Q_sendToAll_4 {l : Launch} {G : qh_G} {h : qh_H} {b0 : Nat} {fs rest : List Value} (hb0 : h b0 = some (.inr (2, fs))) : qx_Site l G "QuorumLog" c_Q_sendToAll 4 y_L_configuration (.ref b0 :: []) rest h := qx_siteV (As := []) (E := "QuorumLog$Log") (ci := 2) d_Q_sendToAll_4 qm_286 qm_260 qm_261 w_L_configuration.1 (by decide) rfl p_L_configuration hb0
theorem s_Q_sendToAll_25 {l : Launch} {G : qh_G} {h : qh_H} {rest : List Value} {v0 v1 : Value} : qx_Site l G "QuorumLog" c_Q_sendToAll 25 y_Q_isIn [v0, v1] rest h := qx_siteS (As := [v0, v1]) d_Q_sendToAll_25 qm_287 qm_280 qm_1 w_Q_isIn.1 (by decide) p_Q_isIn
theorem s_Q_sendToAll_34 {l : Launch} {G : qh_G} {h : qh_H} {b0 : Nat} {fs rest : List Value} {v0 v1 : Value} (hb0 : h b0 = some (.inr (0, fs))) : qx_Site l G "QuorumLog" c_Q_sendToAll 34 y_Q_sendTo (.ref b0 :: [v0, v1]) rest h := qx_siteV (As := [v0, v1]) (E := "QuorumLog") (ci := 0) d_Q_sendToAll_34 qm_387 qm_389 qs_8 w_Q_sendTo.1 (by decide) rfl p_Q_sendTo hb0
theorem fl_Q_170 : qx_FL "QuorumLog" 170 2 0 := ⟨"QuorumLog$Log", T_L, 3, rfl, by decide, uw_L, qm_97⟩
theorem fl_Q_174 : qx_FL "QuorumLog" 174 7 0 := ⟨"QuorumLog$Snapshot", T_N, 4, rfl, by decide, uw_N, qm_67⟩
theorem s_Q_sendTo_54 {l : Launch} {G : qh_G} {h : qh_H} {b0 : Nat} {fs rest : List Value} {v0 v1 v2 v3 : Value} (hb0 : h b0 = some (.inr (5, fs))) : qx_Site l G "QuorumLog" c_Q_sendTo 54 y_W_send (.ref b0 :: [v0, v1, v2, v3]) rest h := qx_siteV (As := [v0, v1, v2, v3]) (E := "QuorumLog$Row") (ci := 5) d_Q_sendTo_54 qm_288 qm_289 qm_290 w_W_send.1 (by decide) rfl p_W_send hb0
theorem fl_Q_147 : qx_FL "QuorumLog" 147 6 11 := ⟨"QuorumLog$Server", T_S, 13, rfl, by decide, uw_S, qm_130⟩
theorem fp_Q_219 : qx_FP "QuorumLog" 219 3 9 (.int) false := ⟨"QuorumLog$Message", T_M, 12, t_M, rfl, by decide, uw_M, qm_196, k_M, n_M, by decide +kernel, rfl, fun _ => by contradiction⟩
theorem fp_Q_293 : qx_FP "QuorumLog" 293 3 11 (.object "QuorumLog$Snapshot") false := ⟨"QuorumLog$Message", T_M, 12, t_M, rfl, by decide, uw_M, qm_200, k_M, n_M, by decide +kernel, rfl, fun _ => by contradiction⟩
theorem s_Q_sendTo_116 {l : Launch} {G : qh_G} {h : qh_H} {b0 : Nat} {fs rest : List Value} {v0 : Value} (hb0 : h b0 = some (.inr (2, fs))) : qx_Site l G "QuorumLog" c_Q_sendTo 116 y_L_termAt (.ref b0 :: [v0]) rest h := qx_siteV (As := [v0]) (E := "QuorumLog$Log") (ci := 2) d_Q_sendTo_116 qm_361 qm_302 qm_303 w_L_termAt.1 (by decide) rfl p_L_termAt hb0
theorem fp_Q_294 : qx_FP "QuorumLog" 294 3 8 (.int) false := ⟨"QuorumLog$Message", T_M, 12, t_M, rfl, by decide, uw_M, qm_194, k_M, n_M, by decide +kernel, rfl, fun _ => by contradiction⟩
theorem fl_Q_295 : qx_FL "QuorumLog" 295 3 0 := ⟨"QuorumLog$Message", T_M, 12, rfl, by decide, uw_M, qm_175⟩
theorem s_Q_sendTo_143 {l : Launch} {G : qh_G} {h : qh_H} {b0 : Nat} {fs rest : List Value} {v0 v1 : Value} (hb0 : h b0 = some (.inr (2, fs))) : qx_Site l G "QuorumLog" c_Q_sendTo 143 y_L_copyBehind (.ref b0 :: [v0, v1]) rest h := qx_siteV (As := [v0, v1]) (E := "QuorumLog$Log") (ci := 2) d_Q_sendTo_143 qm_391 qm_392 qm_393 w_L_copyBehind.1 (by decide) rfl p_L_copyBehind hb0
theorem fp_Q_214 : qx_FP "QuorumLog" 214 3 7 (.int) false := ⟨"QuorumLog$Message", T_M, 12, t_M, rfl, by decide, uw_M, qm_192, k_M, n_M, by decide +kernel, rfl, fun _ => by contradiction⟩
theorem s_Q_beat_1 {l : Launch} {G : qh_G} {h : qh_H} {rest : List Value} {v0 : Value} : qx_Site l G "QuorumLog" c_Q_beat 1 y_Q_isServer [v0] rest h := qx_siteS (As := [v0]) d_Q_beat_1 qm_252 qm_253 qm_1 w_Q_isServer.1 (by decide) p_Q_isServer
theorem s_Q_beat_13 {l : Launch} {G : qh_G} {h : qh_H} {b0 : Nat} {fs rest : List Value} (hb0 : h b0 = some (.inr (6, fs))) : qx_Site l G "QuorumLog" c_Q_beat 13 y_S_leads (.ref b0 :: []) rest h := qx_siteV (As := []) (E := "QuorumLog$Server") (ci := 6) d_Q_beat_13 qm_399 qm_400 qm_401 w_S_leads.1 (by decide) rfl p_S_leads hb0
theorem s_Q_beat_28 {l : Launch} {G : qh_G} {h : qh_H} {b0 : Nat} {fs rest : List Value} {v0 : Value} (hb0 : h b0 = some (.inr (0, fs))) : qx_Site l G "QuorumLog" c_Q_beat 28 y_Q_sendToAll (.ref b0 :: [v0]) rest h := qx_siteV (As := [v0]) (E := "QuorumLog") (ci := 0) d_Q_beat_28 qm_383 qm_385 qs_7 w_Q_sendToAll.1 (by decide) rfl p_Q_sendToAll hb0
theorem s_Q_outcome_5 {l : Launch} {G : qh_G} {h : qh_H} {b0 : Nat} {fs rest : List Value} {v0 : Value} (hb0 : h b0 = some (.inr (4, fs))) : qx_Site l G "QuorumLog" c_Q_outcome 5 y_R_holds (.ref b0 :: [v0]) rest h := qx_siteV (As := [v0]) (E := "QuorumLog$Reads") (ci := 4) d_Q_outcome_5 qm_407 qm_408 qm_409 w_R_holds.1 (by decide) rfl p_R_holds hb0
theorem fl_Q_160 : qx_FL "QuorumLog" 160 4 3 := ⟨"QuorumLog$Reads", T_R, 6, rfl, by decide, uw_R, qm_40⟩
theorem s_Q_value_5 {l : Launch} {G : qh_G} {h : qh_H} {b0 : Nat} {fs rest : List Value} {v0 : Value} (hb0 : h b0 = some (.inr (4, fs))) : qx_Site l G "QuorumLog" c_Q_value 5 y_R_holds (.ref b0 :: [v0]) rest h := qx_siteV (As := [v0]) (E := "QuorumLog$Reads") (ci := 4) d_Q_value_5 qm_407 qm_408 qm_409 w_R_holds.1 (by decide) rfl p_R_holds hb0
theorem fl_Q_164 : qx_FL "QuorumLog" 164 4 4 := ⟨"QuorumLog$Reads", T_R, 6, rfl, by decide, uw_R, qm_42⟩
theorem s_Q_compact_1 {l : Launch} {G : qh_G} {h : qh_H} {rest : List Value} {v0 : Value} : qx_Site l G "QuorumLog" c_Q_compact 1 y_Q_isServer [v0] rest h := qx_siteS (As := [v0]) d_Q_compact_1 qm_252 qm_253 qm_1 w_Q_isServer.1 (by decide) p_Q_isServer
theorem fl_Q_167 : qx_FL "QuorumLog" 167 6 5 := ⟨"QuorumLog$Server", T_S, 13, rfl, by decide, uw_S, qm_120⟩
theorem s_Q_compact_54 {l : Launch} {G : qh_G} {h : qh_H} {b0 : Nat} {fs rest : List Value} {v0 : Value} (hb0 : h b0 = some (.inr (2, fs))) : qx_Site l G "QuorumLog" c_Q_compact 54 y_L_snapshotAt (.ref b0 :: [v0]) rest h := qx_siteV (As := [v0]) (E := "QuorumLog$Log") (ci := 2) d_Q_compact_54 qm_419 qm_420 qm_421 w_L_snapshotAt.1 (by decide) rfl p_L_snapshotAt hb0
theorem s_Q_compact_57 {l : Launch} {G : qh_G} {h : qh_H} {b0 : Nat} {fs rest : List Value} {v0 : Value} (hb0 : h b0 = some (.inr (2, fs))) : qx_Site l G "QuorumLog" c_Q_compact 57 y_L_beginBehind (.ref b0 :: [v0]) rest h := qx_siteV (As := [v0]) (E := "QuorumLog$Log") (ci := 2) d_Q_compact_57 qm_429 qm_430 qm_431 w_L_beginBehind.1 (by decide) rfl p_L_beginBehind hb0
theorem s_Q_crash_1 {l : Launch} {G : qh_G} {h : qh_H} {rest : List Value} {v0 : Value} : qx_Site l G "QuorumLog" c_Q_crash 1 y_Q_isServer [v0] rest h := qx_siteS (As := [v0]) d_Q_crash_1 qm_252 qm_253 qm_1 w_Q_isServer.1 (by decide) p_Q_isServer
theorem s_Q_crash_30 {l : Launch} {G : qh_G} {h : qh_H} {b0 : Nat} {fs rest : List Value} {v0 : Value} (hb0 : h b0 = some (.inr (0, fs))) : qx_Site l G "QuorumLog" c_Q_crash 30 y_Q_follow (.ref b0 :: [v0]) rest h := qx_siteV (As := [v0]) (E := "QuorumLog") (ci := 0) d_Q_crash_30 qm_371 qm_373 qs_6 w_Q_follow.1 (by decide) rfl p_Q_follow hb0
theorem fp_Q_167 : qx_FP "QuorumLog" 167 6 5 (.boolean) false := ⟨"QuorumLog$Server", T_S, 13, t_S, rfl, by decide, uw_S, qm_120, k_S, n_S, by decide +kernel, rfl, fun _ => by contradiction⟩
theorem s_Q_restart_1 {l : Launch} {G : qh_G} {h : qh_H} {rest : List Value} {v0 : Value} : qx_Site l G "QuorumLog" c_Q_restart 1 y_Q_isServer [v0] rest h := qx_siteS (As := [v0]) d_Q_restart_1 qm_252 qm_253 qm_1 w_Q_isServer.1 (by decide) p_Q_isServer
theorem s_Q_deliver_5 {l : Launch} {G : qh_G} {h : qh_H} {b0 : Nat} {fs rest : List Value} {v0 : Value} (hb0 : h b0 = some (.inr (5, fs))) : qx_Site l G "QuorumLog" c_Q_deliver 5 y_W_holds (.ref b0 :: [v0]) rest h := qx_siteV (As := [v0]) (E := "QuorumLog$Row") (ci := 5) d_Q_deliver_5 qm_445 qm_446 qm_447 w_W_holds.1 (by decide) rfl p_W_holds hb0
theorem s_Q_deliver_18 {l : Launch} {G : qh_G} {h : qh_H} {b0 : Nat} {fs rest : List Value} {v0 : Value} (hb0 : h b0 = some (.inr (5, fs))) : qx_Site l G "QuorumLog" c_Q_deliver 18 y_W_take (.ref b0 :: [v0]) rest h := qx_siteV (As := [v0]) (E := "QuorumLog$Row") (ci := 5) d_Q_deliver_18 qm_449 qm_450 qm_451 w_W_take.1 (by decide) rfl p_W_take hb0
theorem fl_Q_192 : qx_FL "QuorumLog" 192 3 3 := ⟨"QuorumLog$Message", T_M, 12, rfl, by decide, uw_M, qm_181⟩
theorem s_Q_deliver_42 {l : Launch} {G : qh_G} {h : qh_H} {b0 : Nat} {fs rest : List Value} {v0 v1 : Value} (hb0 : h b0 = some (.inr (0, fs))) : qx_Site l G "QuorumLog" c_Q_deliver 42 y_Q_come (.ref b0 :: [v0, v1]) rest h := qx_siteV (As := [v0, v1]) (E := "QuorumLog") (ci := 0) d_Q_deliver_42 qm_453 qm_455 qs_9 w_Q_come.1 (by decide) rfl p_Q_come hb0
theorem s_Q_deliver_47 {l : Launch} {G : qh_G} {h : qh_H} {b0 : Nat} {fs rest : List Value} {v0 : Value} (hb0 : h b0 = some (.inr (0, fs))) : qx_Site l G "QuorumLog" c_Q_deliver 47 y_Q_standIfMostSaidYes (.ref b0 :: [v0]) rest h := qx_siteV (As := [v0]) (E := "QuorumLog") (ci := 0) d_Q_deliver_47 qm_305 qm_307 qs_1 w_Q_standIfMostSaidYes.1 (by decide) rfl p_Q_standIfMostSaidYes hb0
theorem s_Q_deliver_52 {l : Launch} {G : qh_G} {h : qh_H} {b0 : Nat} {fs rest : List Value} {v0 : Value} (hb0 : h b0 = some (.inr (0, fs))) : qx_Site l G "QuorumLog" c_Q_deliver 52 y_Q_leadIfMostSaidYes (.ref b0 :: [v0]) rest h := qx_siteV (As := [v0]) (E := "QuorumLog") (ci := 0) d_Q_deliver_52 qm_318 qm_320 qs_2 w_Q_leadIfMostSaidYes.1 (by decide) rfl p_Q_leadIfMostSaidYes hb0
theorem fl_Q_201 : qx_FL "QuorumLog" 201 3 1 := ⟨"QuorumLog$Message", T_M, 12, rfl, by decide, uw_M, qm_177⟩
theorem fl_Q_212 : qx_FL "QuorumLog" 212 3 4 := ⟨"QuorumLog$Message", T_M, 12, rfl, by decide, uw_M, qm_183⟩
theorem s_Q_come_32 {l : Launch} {G : qh_G} {h : qh_H} {b0 : Nat} {fs rest : List Value} {v0 v1 : Value} (hb0 : h b0 = some (.inr (0, fs))) : qx_Site l G "QuorumLog" c_Q_come 32 y_Q_enterTerm (.ref b0 :: [v0, v1]) rest h := qx_siteV (As := [v0, v1]) (E := "QuorumLog") (ci := 0) d_Q_come_32 qm_457 qm_459 qs_10 w_Q_enterTerm.1 (by decide) rfl p_Q_enterTerm hb0
theorem s_Q_come_83 {l : Launch} {G : qh_G} {h : qh_H} {b0 : Nat} {fs rest : List Value} {v0 v1 : Value} (hb0 : h b0 = some (.inr (0, fs))) : qx_Site l G "QuorumLog" c_Q_come 83 y_Q_questionComes (.ref b0 :: [v0, v1]) rest h := qx_siteV (As := [v0, v1]) (E := "QuorumLog") (ci := 0) d_Q_come_83 qm_461 qm_463 qs_11 w_Q_questionComes.1 (by decide) rfl p_Q_questionComes hb0
theorem s_Q_come_92 {l : Launch} {G : qh_G} {h : qh_H} {b0 : Nat} {fs rest : List Value} {v0 v1 : Value} (hb0 : h b0 = some (.inr (0, fs))) : qx_Site l G "QuorumLog" c_Q_come 92 y_Q_answerComes (.ref b0 :: [v0, v1]) rest h := qx_siteV (As := [v0, v1]) (E := "QuorumLog") (ci := 0) d_Q_come_92 qm_470 qm_472 qs_12 w_Q_answerComes.1 (by decide) rfl p_Q_answerComes hb0
theorem s_Q_come_101 {l : Launch} {G : qh_G} {h : qh_H} {b0 : Nat} {fs rest : List Value} {v0 v1 : Value} (hb0 : h b0 = some (.inr (0, fs))) : qx_Site l G "QuorumLog" c_Q_come 101 y_Q_callComes (.ref b0 :: [v0, v1]) rest h := qx_siteV (As := [v0, v1]) (E := "QuorumLog") (ci := 0) d_Q_come_101 qm_474 qm_476 qs_13 w_Q_callComes.1 (by decide) rfl p_Q_callComes hb0
theorem s_Q_come_110 {l : Launch} {G : qh_G} {h : qh_H} {b0 : Nat} {fs rest : List Value} {v0 v1 : Value} (hb0 : h b0 = some (.inr (0, fs))) : qx_Site l G "QuorumLog" c_Q_come 110 y_Q_voteComes (.ref b0 :: [v0, v1]) rest h := qx_siteV (As := [v0, v1]) (E := "QuorumLog") (ci := 0) d_Q_come_110 qm_478 qm_480 qs_14 w_Q_voteComes.1 (by decide) rfl p_Q_voteComes hb0
theorem s_Q_come_119 {l : Launch} {G : qh_G} {h : qh_H} {b0 : Nat} {fs rest : List Value} {v0 v1 : Value} (hb0 : h b0 = some (.inr (0, fs))) : qx_Site l G "QuorumLog" c_Q_come 119 y_Q_appendComes (.ref b0 :: [v0, v1]) rest h := qx_siteV (As := [v0, v1]) (E := "QuorumLog") (ci := 0) d_Q_come_119 qm_482 qm_484 qs_15 w_Q_appendComes.1 (by decide) rfl p_Q_appendComes hb0
theorem s_Q_come_128 {l : Launch} {G : qh_G} {h : qh_H} {b0 : Nat} {fs rest : List Value} {v0 v1 : Value} (hb0 : h b0 = some (.inr (0, fs))) : qx_Site l G "QuorumLog" c_Q_come 128 y_Q_resultComes (.ref b0 :: [v0, v1]) rest h := qx_siteV (As := [v0, v1]) (E := "QuorumLog") (ci := 0) d_Q_come_128 qm_513 qm_515 qs_18 w_Q_resultComes.1 (by decide) rfl p_Q_resultComes hb0
theorem s_Q_come_137 {l : Launch} {G : qh_G} {h : qh_H} {b0 : Nat} {fs rest : List Value} {v0 v1 : Value} (hb0 : h b0 = some (.inr (0, fs))) : qx_Site l G "QuorumLog" c_Q_come 137 y_Q_installComes (.ref b0 :: [v0, v1]) rest h := qx_siteV (As := [v0, v1]) (E := "QuorumLog") (ci := 0) d_Q_come_137 qm_531 qm_533 qs_20 w_Q_installComes.1 (by decide) rfl p_Q_installComes hb0
theorem s_Q_enterTerm_12 {l : Launch} {G : qh_G} {h : qh_H} {b0 : Nat} {fs rest : List Value} {v0 : Value} (hb0 : h b0 = some (.inr (0, fs))) : qx_Site l G "QuorumLog" c_Q_enterTerm 12 y_Q_follow (.ref b0 :: [v0]) rest h := qx_siteV (As := [v0]) (E := "QuorumLog") (ci := 0) d_Q_enterTerm_12 qm_371 qm_373 qs_6 w_Q_follow.1 (by decide) rfl p_Q_follow hb0
theorem fl_Q_47 : qx_FL "QuorumLog" 47 6 6 := ⟨"QuorumLog$Server", T_S, 13, rfl, by decide, uw_S, qm_121⟩
theorem s_Q_questionComes_23 {l : Launch} {G : qh_G} {h : qh_H} {b0 : Nat} {fs rest : List Value} {v0 : Value} (hb0 : h b0 = some (.inr (2, fs))) : qx_Site l G "QuorumLog" c_Q_questionComes 23 y_L_isBehindOf (.ref b0 :: [v0]) rest h := qx_siteV (As := [v0]) (E := "QuorumLog$Log") (ci := 2) d_Q_questionComes_23 qm_465 qm_466 qm_467 w_L_isBehindOf.1 (by decide) rfl p_L_isBehindOf hb0
theorem fl_Q_209 : qx_FL "QuorumLog" 209 3 2 := ⟨"QuorumLog$Message", T_M, 12, rfl, by decide, uw_M, qm_179⟩
theorem s_Q_questionComes_63 {l : Launch} {G : qh_G} {h : qh_H} {b0 : Nat} {fs rest : List Value} {v0 v1 v2 v3 : Value} (hb0 : h b0 = some (.inr (5, fs))) : qx_Site l G "QuorumLog" c_Q_questionComes 63 y_W_send (.ref b0 :: [v0, v1, v2, v3]) rest h := qx_siteV (As := [v0, v1, v2, v3]) (E := "QuorumLog$Row") (ci := 5) d_Q_questionComes_63 qm_288 qm_289 qm_290 w_W_send.1 (by decide) rfl p_W_send hb0
theorem fp_Q_217 : qx_FP "QuorumLog" 217 3 10 (.boolean) false := ⟨"QuorumLog$Message", T_M, 12, t_M, rfl, by decide, uw_M, qm_198, k_M, n_M, by decide +kernel, rfl, fun _ => by contradiction⟩
theorem fl_Q_217 : qx_FL "QuorumLog" 217 3 10 := ⟨"QuorumLog$Message", T_M, 12, rfl, by decide, uw_M, qm_198⟩
theorem s_Q_answerComes_63 {l : Launch} {G : qh_G} {h : qh_H} {b0 : Nat} {fs rest : List Value} {v0 v1 : Value} (hb0 : h b0 = some (.inr (0, fs))) : qx_Site l G "QuorumLog" c_Q_answerComes 63 y_Q_enterTerm (.ref b0 :: [v0, v1]) rest h := qx_siteV (As := [v0, v1]) (E := "QuorumLog") (ci := 0) d_Q_answerComes_63 qm_457 qm_459 qs_10 w_Q_enterTerm.1 (by decide) rfl p_Q_enterTerm hb0
theorem fl_Q_220 : qx_FL "QuorumLog" 220 6 8 := ⟨"QuorumLog$Server", T_S, 13, rfl, by decide, uw_S, qm_125⟩
theorem s_Q_callComes_45 {l : Launch} {G : qh_G} {h : qh_H} {b0 : Nat} {fs rest : List Value} {v0 : Value} (hb0 : h b0 = some (.inr (2, fs))) : qx_Site l G "QuorumLog" c_Q_callComes 45 y_L_isBehindOf (.ref b0 :: [v0]) rest h := qx_siteV (As := [v0]) (E := "QuorumLog$Log") (ci := 2) d_Q_callComes_45 qm_465 qm_466 qm_467 w_L_isBehindOf.1 (by decide) rfl p_L_isBehindOf hb0
theorem s_Q_callComes_88 {l : Launch} {G : qh_G} {h : qh_H} {b0 : Nat} {fs rest : List Value} {v0 v1 v2 v3 : Value} (hb0 : h b0 = some (.inr (5, fs))) : qx_Site l G "QuorumLog" c_Q_callComes 88 y_W_send (.ref b0 :: [v0, v1, v2, v3]) rest h := qx_siteV (As := [v0, v1, v2, v3]) (E := "QuorumLog$Row") (ci := 5) d_Q_callComes_88 qm_288 qm_289 qm_290 w_W_send.1 (by decide) rfl p_W_send hb0
theorem s_Q_appendComes_20 {l : Launch} {G : qh_G} {h : qh_H} {b0 : Nat} {fs rest : List Value} {v0 v1 v2 v3 v4 : Value} (hb0 : h b0 = some (.inr (0, fs))) : qx_Site l G "QuorumLog" c_Q_appendComes 20 y_Q_sendResult (.ref b0 :: [v0, v1, v2, v3, v4]) rest h := qx_siteV (As := [v0, v1, v2, v3, v4]) (E := "QuorumLog") (ci := 0) d_Q_appendComes_20 qm_486 qm_488 qs_16 w_Q_sendResult.1 (by decide) rfl p_Q_sendResult hb0
theorem s_Q_appendComes_26 {l : Launch} {G : qh_G} {h : qh_H} {b0 : Nat} {fs rest : List Value} {v0 : Value} (hb0 : h b0 = some (.inr (0, fs))) : qx_Site l G "QuorumLog" c_Q_appendComes 26 y_Q_follow (.ref b0 :: [v0]) rest h := qx_siteV (As := [v0]) (E := "QuorumLog") (ci := 0) d_Q_appendComes_26 qm_371 qm_373 qs_6 w_Q_follow.1 (by decide) rfl p_Q_follow hb0
theorem fl_Q_213 : qx_FL "QuorumLog" 213 3 5 := ⟨"QuorumLog$Message", T_M, 12, rfl, by decide, uw_M, qm_186⟩
theorem fl_Q_261 : qx_FL "QuorumLog" 261 3 6 := ⟨"QuorumLog$Message", T_M, 12, rfl, by decide, uw_M, qm_189⟩
theorem s_Q_appendComes_46 {l : Launch} {G : qh_G} {h : qh_H} {b0 : Nat} {fs rest : List Value} {v0 v1 : Value} (hb0 : h b0 = some (.inr (2, fs))) : qx_Site l G "QuorumLog" c_Q_appendComes 46 y_L_fitsBehind (.ref b0 :: [v0, v1]) rest h := qx_siteV (As := [v0, v1]) (E := "QuorumLog$Log") (ci := 2) d_Q_appendComes_46 qm_490 qm_491 qm_492 w_L_fitsBehind.1 (by decide) rfl p_L_fitsBehind hb0
theorem s_Q_appendComes_57 {l : Launch} {G : qh_G} {h : qh_H} {b0 : Nat} {fs rest : List Value} (hb0 : h b0 = some (.inr (2, fs))) : qx_Site l G "QuorumLog" c_Q_appendComes 57 y_L_last (.ref b0 :: []) rest h := qx_siteV (As := []) (E := "QuorumLog$Log") (ci := 2) d_Q_appendComes_57 qm_296 qm_264 qm_265 w_L_last.1 (by decide) rfl p_L_last hb0
theorem s_Q_appendComes_66 {l : Launch} {G : qh_G} {h : qh_H} {rest : List Value} {v0 v1 : Value} : qx_Site l G "QuorumLog" c_Q_appendComes 66 y_H_min [v0, v1] rest h := qx_siteS (As := [v0, v1]) d_Q_appendComes_66 qm_494 qm_495 qm_17 w_H_min.1 (by decide) p_H_min
theorem s_Q_appendComes_69 {l : Launch} {G : qh_G} {h : qh_H} {rest : List Value} {v0 v1 : Value} : qx_Site l G "QuorumLog" c_Q_appendComes 69 y_H_max [v0, v1] rest h := qx_siteS (As := [v0, v1]) d_Q_appendComes_69 qm_497 qm_498 qm_17 w_H_max.1 (by decide) p_H_max
theorem fl_Q_219 : qx_FL "QuorumLog" 219 3 9 := ⟨"QuorumLog$Message", T_M, 12, rfl, by decide, uw_M, qm_196⟩
theorem s_Q_appendComes_85 {l : Launch} {G : qh_G} {h : qh_H} {b0 : Nat} {fs rest : List Value} {v0 v1 v2 v3 v4 : Value} (hb0 : h b0 = some (.inr (0, fs))) : qx_Site l G "QuorumLog" c_Q_appendComes 85 y_Q_sendResult (.ref b0 :: [v0, v1, v2, v3, v4]) rest h := qx_siteV (As := [v0, v1, v2, v3, v4]) (E := "QuorumLog") (ci := 0) d_Q_appendComes_85 qm_486 qm_488 qs_16 w_Q_sendResult.1 (by decide) rfl p_Q_sendResult hb0
theorem s_Q_appendComes_94 {l : Launch} {G : qh_G} {h : qh_H} {b0 : Nat} {fs rest : List Value} {v0 : Value} (hb0 : h b0 = some (.inr (2, fs))) : qx_Site l G "QuorumLog" c_Q_appendComes 94 y_L_takeOver (.ref b0 :: [v0]) rest h := qx_siteV (As := [v0]) (E := "QuorumLog$Log") (ci := 2) d_Q_appendComes_94 qm_500 qm_501 qm_502 w_L_takeOver.1 (by decide) rfl p_L_takeOver hb0
theorem fl_Q_294 : qx_FL "QuorumLog" 294 3 8 := ⟨"QuorumLog$Message", T_M, 12, rfl, by decide, uw_M, qm_194⟩
theorem s_Q_appendComes_108 {l : Launch} {G : qh_G} {h : qh_H} {rest : List Value} {v0 v1 : Value} : qx_Site l G "QuorumLog" c_Q_appendComes 108 y_H_min [v0, v1] rest h := qx_siteS (As := [v0, v1]) d_Q_appendComes_108 qm_494 qm_495 qm_17 w_H_min.1 (by decide) p_H_min
theorem s_Q_appendComes_111 {l : Launch} {G : qh_G} {h : qh_H} {rest : List Value} {v0 v1 : Value} : qx_Site l G "QuorumLog" c_Q_appendComes 111 y_H_max [v0, v1] rest h := qx_siteS (As := [v0, v1]) d_Q_appendComes_111 qm_497 qm_498 qm_17 w_H_max.1 (by decide) p_H_max
theorem s_Q_appendComes_129 {l : Launch} {G : qh_G} {h : qh_H} {b0 : Nat} {fs rest : List Value} {v0 v1 v2 v3 v4 : Value} (hb0 : h b0 = some (.inr (0, fs))) : qx_Site l G "QuorumLog" c_Q_appendComes 129 y_Q_sendResult (.ref b0 :: [v0, v1, v2, v3, v4]) rest h := qx_siteV (As := [v0, v1, v2, v3, v4]) (E := "QuorumLog") (ci := 0) d_Q_appendComes_129 qm_486 qm_488 qs_16 w_Q_sendResult.1 (by decide) rfl p_Q_sendResult hb0
theorem s_Q_sendResult_14 {l : Launch} {G : qh_G} {h : qh_H} {b0 : Nat} {fs rest : List Value} {v0 v1 v2 v3 : Value} (hb0 : h b0 = some (.inr (5, fs))) : qx_Site l G "QuorumLog" c_Q_sendResult 14 y_W_send (.ref b0 :: [v0, v1, v2, v3]) rest h := qx_siteV (As := [v0, v1, v2, v3]) (E := "QuorumLog$Row") (ci := 5) d_Q_sendResult_14 qm_288 qm_289 qm_290 w_W_send.1 (by decide) rfl p_W_send hb0
theorem s_Q_resultComes_40 {l : Launch} {G : qh_G} {h : qh_H} {rest : List Value} {v0 v1 : Value} : qx_Site l G "QuorumLog" c_Q_resultComes 40 y_H_max [v0, v1] rest h := qx_siteS (As := [v0, v1]) d_Q_resultComes_40 qm_497 qm_498 qm_17 w_H_max.1 (by decide) p_H_max
theorem s_Q_resultComes_66 {l : Launch} {G : qh_G} {h : qh_H} {rest : List Value} {v0 v1 : Value} : qx_Site l G "QuorumLog" c_Q_resultComes 66 y_H_max [v0, v1] rest h := qx_siteS (As := [v0, v1]) d_Q_resultComes_66 qm_497 qm_498 qm_17 w_H_max.1 (by decide) p_H_max
theorem s_Q_resultComes_86 {l : Launch} {G : qh_G} {h : qh_H} {b0 : Nat} {fs rest : List Value} {v0 : Value} (hb0 : h b0 = some (.inr (0, fs))) : qx_Site l G "QuorumLog" c_Q_resultComes 86 y_Q_lookAtCommit (.ref b0 :: [v0]) rest h := qx_siteV (As := [v0]) (E := "QuorumLog") (ci := 0) d_Q_resultComes_86 qm_357 qm_359 qs_4 w_Q_lookAtCommit.1 (by decide) rfl p_Q_lookAtCommit hb0
theorem s_Q_resultComes_112 {l : Launch} {G : qh_G} {h : qh_H} {rest : List Value} {v0 v1 : Value} : qx_Site l G "QuorumLog" c_Q_resultComes 112 y_H_min [v0, v1] rest h := qx_siteS (As := [v0, v1]) d_Q_resultComes_112 qm_494 qm_495 qm_17 w_H_min.1 (by decide) p_H_min
theorem s_Q_resultComes_115 {l : Launch} {G : qh_G} {h : qh_H} {rest : List Value} {v0 v1 : Value} : qx_Site l G "QuorumLog" c_Q_resultComes 115 y_H_max [v0, v1] rest h := qx_siteS (As := [v0, v1]) d_Q_resultComes_115 qm_497 qm_498 qm_17 w_H_max.1 (by decide) p_H_max
theorem s_Q_resultComes_136 {l : Launch} {G : qh_G} {h : qh_H} {b0 : Nat} {fs rest : List Value} (hb0 : h b0 = some (.inr (2, fs))) : qx_Site l G "QuorumLog" c_Q_resultComes 136 y_L_last (.ref b0 :: []) rest h := qx_siteV (As := []) (E := "QuorumLog$Log") (ci := 2) d_Q_resultComes_136 qm_296 qm_264 qm_265 w_L_last.1 (by decide) rfl p_L_last hb0
theorem s_Q_resultComes_166 {l : Launch} {G : qh_G} {h : qh_H} {b0 : Nat} {fs rest : List Value} (hb0 : h b0 = some (.inr (2, fs))) : qx_Site l G "QuorumLog" c_Q_resultComes 166 y_L_configuration (.ref b0 :: []) rest h := qx_siteV (As := []) (E := "QuorumLog$Log") (ci := 2) d_Q_resultComes_166 qm_286 qm_260 qm_261 w_L_configuration.1 (by decide) rfl p_L_configuration hb0
theorem s_Q_resultComes_170 {l : Launch} {G : qh_G} {h : qh_H} {rest : List Value} {v0 v1 : Value} : qx_Site l G "QuorumLog" c_Q_resultComes 170 y_Q_isIn [v0, v1] rest h := qx_siteS (As := [v0, v1]) d_Q_resultComes_170 qm_287 qm_280 qm_1 w_Q_isIn.1 (by decide) p_Q_isIn
theorem s_Q_resultComes_179 {l : Launch} {G : qh_G} {h : qh_H} {b0 : Nat} {fs rest : List Value} {v0 v1 : Value} (hb0 : h b0 = some (.inr (0, fs))) : qx_Site l G "QuorumLog" c_Q_resultComes 179 y_Q_sendTo (.ref b0 :: [v0, v1]) rest h := qx_siteV (As := [v0, v1]) (E := "QuorumLog") (ci := 0) d_Q_resultComes_179 qm_387 qm_389 qs_8 w_Q_sendTo.1 (by decide) rfl p_Q_sendTo hb0
theorem s_Q_resultComes_184 {l : Launch} {G : qh_G} {h : qh_H} {b0 : Nat} {fs rest : List Value} {v0 : Value} (hb0 : h b0 = some (.inr (0, fs))) : qx_Site l G "QuorumLog" c_Q_resultComes 184 y_Q_lookAtReads (.ref b0 :: [v0]) rest h := qx_siteV (As := [v0]) (E := "QuorumLog") (ci := 0) d_Q_resultComes_184 qm_517 qm_519 qs_19 w_Q_lookAtReads.1 (by decide) rfl p_Q_lookAtReads hb0
theorem s_Q_lookAtReads_4 {l : Launch} {G : qh_G} {h : qh_H} {b0 : Nat} {fs rest : List Value} (hb0 : h b0 = some (.inr (2, fs))) : qx_Site l G "QuorumLog" c_Q_lookAtReads 4 y_L_configuration (.ref b0 :: []) rest h := qx_siteV (As := []) (E := "QuorumLog$Log") (ci := 2) d_Q_lookAtReads_4 qm_286 qm_260 qm_261 w_L_configuration.1 (by decide) rfl p_L_configuration hb0
theorem fl_Q_144 : qx_FL "QuorumLog" 144 4 5 := ⟨"QuorumLog$Reads", T_R, 6, rfl, by decide, uw_R, qm_44⟩
theorem s_Q_lookAtReads_30 {l : Launch} {G : qh_G} {h : qh_H} {b0 : Nat} {fs rest : List Value} {v0 v1 : Value} (hb0 : h b0 = some (.inr (4, fs))) : qx_Site l G "QuorumLog" c_Q_lookAtReads 30 y_R_isKeptBy (.ref b0 :: [v0, v1]) rest h := qx_siteV (As := [v0, v1]) (E := "QuorumLog$Reads") (ci := 4) d_Q_lookAtReads_30 qm_521 qm_380 qm_381 w_R_isKeptBy.1 (by decide) rfl p_R_isKeptBy hb0
theorem fl_Q_306 : qx_FL "QuorumLog" 306 4 2 := ⟨"QuorumLog$Reads", T_R, 6, rfl, by decide, uw_R, qm_38⟩
theorem s_Q_lookAtReads_46 {l : Launch} {G : qh_G} {h : qh_H} {b0 : Nat} {fs rest : List Value} {v0 : Value} (hb0 : h b0 = some (.inr (6, fs))) : qx_Site l G "QuorumLog" c_Q_lookAtReads 46 y_S_confirmersOf (.ref b0 :: [v0]) rest h := qx_siteV (As := [v0]) (E := "QuorumLog$Server") (ci := 6) d_Q_lookAtReads_46 qm_522 qm_523 qm_524 w_S_confirmersOf.1 (by decide) rfl p_S_confirmersOf hb0
theorem s_Q_lookAtReads_50 {l : Launch} {G : qh_G} {h : qh_H} {rest : List Value} {v0 v1 : Value} : qx_Site l G "QuorumLog" c_Q_lookAtReads 50 y_Q_areMost [v0, v1] rest h := qx_siteS (As := [v0, v1]) d_Q_lookAtReads_50 qm_309 qm_310 qm_1 w_Q_areMost.1 (by decide) p_Q_areMost
theorem fl_Q_312 : qx_FL "QuorumLog" 312 4 1 := ⟨"QuorumLog$Reads", T_R, 6, rfl, by decide, uw_R, qm_36⟩
theorem s_Q_lookAtReads_84 {l : Launch} {G : qh_G} {h : qh_H} {b0 : Nat} {fs rest : List Value} {v0 : Value} (hb0 : h b0 = some (.inr (6, fs))) : qx_Site l G "QuorumLog" c_Q_lookAtReads 84 y_S_storedNow (.ref b0 :: [v0]) rest h := qx_siteV (As := [v0]) (E := "QuorumLog$Server") (ci := 6) d_Q_lookAtReads_84 qm_526 qm_527 qm_528 w_S_storedNow.1 (by decide) rfl p_S_storedNow hb0
theorem s_Q_installComes_20 {l : Launch} {G : qh_G} {h : qh_H} {b0 : Nat} {fs rest : List Value} {v0 v1 v2 v3 v4 : Value} (hb0 : h b0 = some (.inr (0, fs))) : qx_Site l G "QuorumLog" c_Q_installComes 20 y_Q_sendResult (.ref b0 :: [v0, v1, v2, v3, v4]) rest h := qx_siteV (As := [v0, v1, v2, v3, v4]) (E := "QuorumLog") (ci := 0) d_Q_installComes_20 qm_486 qm_488 qs_16 w_Q_sendResult.1 (by decide) rfl p_Q_sendResult hb0
theorem s_Q_installComes_26 {l : Launch} {G : qh_G} {h : qh_H} {b0 : Nat} {fs rest : List Value} {v0 : Value} (hb0 : h b0 = some (.inr (0, fs))) : qx_Site l G "QuorumLog" c_Q_installComes 26 y_Q_follow (.ref b0 :: [v0]) rest h := qx_siteV (As := [v0]) (E := "QuorumLog") (ci := 0) d_Q_installComes_26 qm_371 qm_373 qs_6 w_Q_follow.1 (by decide) rfl p_Q_follow hb0
theorem fl_Q_293 : qx_FL "QuorumLog" 293 3 11 := ⟨"QuorumLog$Message", T_M, 12, rfl, by decide, uw_M, qm_200⟩
theorem s_Q_installComes_53 {l : Launch} {G : qh_G} {h : qh_H} {b0 : Nat} {fs rest : List Value} {v0 : Value} (hb0 : h b0 = some (.inr (2, fs))) : qx_Site l G "QuorumLog" c_Q_installComes 53 y_L_beginBehind (.ref b0 :: [v0]) rest h := qx_siteV (As := [v0]) (E := "QuorumLog$Log") (ci := 2) d_Q_installComes_53 qm_429 qm_430 qm_431 w_L_beginBehind.1 (by decide) rfl p_L_beginBehind hb0
theorem s_Q_installComes_79 {l : Launch} {G : qh_G} {h : qh_H} {b0 : Nat} {fs rest : List Value} {v0 v1 v2 v3 v4 : Value} (hb0 : h b0 = some (.inr (0, fs))) : qx_Site l G "QuorumLog" c_Q_installComes 79 y_Q_sendResult (.ref b0 :: [v0, v1, v2, v3, v4]) rest h := qx_siteV (As := [v0, v1, v2, v3, v4]) (E := "QuorumLog") (ci := 0) d_Q_installComes_79 qm_486 qm_488 qs_16 w_Q_sendResult.1 (by decide) rfl p_Q_sendResult hb0
theorem s_Q_lose_5 {l : Launch} {G : qh_G} {h : qh_H} {b0 : Nat} {fs rest : List Value} {v0 : Value} (hb0 : h b0 = some (.inr (5, fs))) : qx_Site l G "QuorumLog" c_Q_lose 5 y_W_holds (.ref b0 :: [v0]) rest h := qx_siteV (As := [v0]) (E := "QuorumLog$Row") (ci := 5) d_Q_lose_5 qm_445 qm_446 qm_447 w_W_holds.1 (by decide) rfl p_W_holds hb0
theorem s_Q_lose_18 {l : Launch} {G : qh_G} {h : qh_H} {b0 : Nat} {fs rest : List Value} {v0 : Value} (hb0 : h b0 = some (.inr (5, fs))) : qx_Site l G "QuorumLog" c_Q_lose 18 y_W_take (.ref b0 :: [v0]) rest h := qx_siteV (As := [v0]) (E := "QuorumLog$Row") (ci := 5) d_Q_lose_18 qm_449 qm_450 qm_451 w_W_take.1 (by decide) rfl p_W_take hb0
theorem fl_Q_204 : qx_FL "QuorumLog" 204 5 2 := ⟨"QuorumLog$Row", T_W, 3, rfl, by decide, uw_W, qm_230⟩
theorem s_Q_message_5 {l : Launch} {G : qh_G} {h : qh_H} {b0 : Nat} {fs rest : List Value} {v0 : Value} (hb0 : h b0 = some (.inr (5, fs))) : qx_Site l G "QuorumLog" c_Q_message 5 y_W_holds (.ref b0 :: [v0]) rest h := qx_siteV (As := [v0]) (E := "QuorumLog$Row") (ci := 5) d_Q_message_5 qm_445 qm_446 qm_447 w_W_holds.1 (by decide) rfl p_W_holds hb0
theorem fl_Q_205 : qx_FL "QuorumLog" 205 5 0 := ⟨"QuorumLog$Row", T_W, 3, rfl, by decide, uw_W, qm_227⟩
theorem fl_Q_214 : qx_FL "QuorumLog" 214 3 7 := ⟨"QuorumLog$Message", T_M, 12, rfl, by decide, uw_M, qm_192⟩
theorem s_Q_state_1 {l : Launch} {G : qh_G} {h : qh_H} {rest : List Value} {v0 : Value} : qx_Site l G "QuorumLog" c_Q_state 1 y_Q_isServer [v0] rest h := qx_siteS (As := [v0]) d_Q_state_1 qm_252 qm_253 qm_1 w_Q_isServer.1 (by decide) p_Q_isServer
theorem s_Q_state_103 {l : Launch} {G : qh_G} {h : qh_H} {b0 : Nat} {fs rest : List Value} (hb0 : h b0 = some (.inr (2, fs))) : qx_Site l G "QuorumLog" c_Q_state 103 y_L_last (.ref b0 :: []) rest h := qx_siteV (As := []) (E := "QuorumLog$Log") (ci := 2) d_Q_state_103 qm_296 qm_264 qm_265 w_L_last.1 (by decide) rfl p_L_last hb0
theorem s_Q_state_111 {l : Launch} {G : qh_G} {h : qh_H} {b0 : Nat} {fs rest : List Value} (hb0 : h b0 = some (.inr (2, fs))) : qx_Site l G "QuorumLog" c_Q_state 111 y_L_configuration (.ref b0 :: []) rest h := qx_siteV (As := []) (E := "QuorumLog$Log") (ci := 2) d_Q_state_111 qm_286 qm_260 qm_261 w_L_configuration.1 (by decide) rfl p_L_configuration hb0
theorem s_Q_entry_1 {l : Launch} {G : qh_G} {h : qh_H} {rest : List Value} {v0 : Value} : qx_Site l G "QuorumLog" c_Q_entry 1 y_Q_isServer [v0] rest h := qx_siteS (As := [v0]) d_Q_entry_1 qm_252 qm_253 qm_1 w_Q_isServer.1 (by decide) p_Q_isServer
theorem s_Q_entry_17 {l : Launch} {G : qh_G} {h : qh_H} {b0 : Nat} {fs rest : List Value} {v0 : Value} (hb0 : h b0 = some (.inr (2, fs))) : qx_Site l G "QuorumLog" c_Q_entry 17 y_L_find (.ref b0 :: [v0]) rest h := qx_siteV (As := [v0]) (E := "QuorumLog$Log") (ci := 2) d_Q_entry_17 qm_555 qm_272 qm_273 w_L_find.1 (by decide) rfl p_L_find hb0
theorem fl_Q_227 : qx_FL "QuorumLog" 227 1 0 := ⟨"QuorumLog$Entry", T_E, 4, rfl, by decide, uw_E, qm_330⟩
theorem fl_Q_228 : qx_FL "QuorumLog" 228 1 1 := ⟨"QuorumLog$Entry", T_E, 4, rfl, by decide, uw_E, qm_333⟩
theorem fl_Q_231 : qx_FL "QuorumLog" 231 1 2 := ⟨"QuorumLog$Entry", T_E, 4, rfl, by decide, uw_E, qm_336⟩
theorem fl_Q_234 : qx_FL "QuorumLog" 234 1 3 := ⟨"QuorumLog$Entry", T_E, 4, rfl, by decide, uw_E, qm_339⟩
theorem s_Q_stored_1 {l : Launch} {G : qh_G} {h : qh_H} {rest : List Value} {v0 : Value} : qx_Site l G "QuorumLog" c_Q_stored 1 y_Q_isServer [v0] rest h := qx_siteS (As := [v0]) d_Q_stored_1 qm_252 qm_253 qm_1 w_Q_isServer.1 (by decide) p_Q_isServer
theorem s_Q_stored_8 {l : Launch} {G : qh_G} {h : qh_H} {rest : List Value} {v0 : Value} : qx_Site l G "QuorumLog" c_Q_stored 8 y_Q_isKey [v0] rest h := qx_siteS (As := [v0]) d_Q_stored_8 qm_560 qm_561 qm_1 w_Q_isKey.1 (by decide) p_Q_isKey
theorem s_Q_stored_23 {l : Launch} {G : qh_G} {h : qh_H} {b0 : Nat} {fs rest : List Value} {v0 : Value} (hb0 : h b0 = some (.inr (6, fs))) : qx_Site l G "QuorumLog" c_Q_stored 23 y_S_storedNow (.ref b0 :: [v0]) rest h := qx_siteV (As := [v0]) (E := "QuorumLog$Server") (ci := 6) d_Q_stored_23 qm_526 qm_527 qm_528 w_S_storedNow.1 (by decide) rfl p_S_storedNow hb0
theorem s_Q_put_3 {l : Launch} {G : qh_G} {h : qh_H} {b0 : Nat} {fs rest : List Value} {v0 v1 : Value} (hb0 : h b0 = some (.inr (0, fs))) : qx_Site l G "QuorumLog" c_Q_put 3 y_Q_leaderFor (.ref b0 :: [v0, v1]) rest h := qx_siteV (As := [v0, v1]) (E := "QuorumLog") (ci := 0) d_Q_put_3 qm_576 qm_578 qs_21 w_Q_leaderFor.1 (by decide) rfl p_Q_leaderFor hb0
theorem fl_Q_89 : qx_FL "QuorumLog" 89 2 2 := ⟨"QuorumLog$Log", T_L, 3, rfl, by decide, uw_L, qm_101⟩
theorem s_Q_put_46 {l : Launch} {G : qh_G} {h : qh_H} {b0 : Nat} {rest : List Value} {v0 v1 v2 v3 : Value} : qx_Site l G "QuorumLog" c_Q_put 46 y_E_init (.ref b0 :: [v0, v1, v2, v3]) rest h := qx_siteI (As := [v0, v1, v2, v3]) d_Q_put_46 rfl qm_324 qm_325 w_E_init.1 (by decide) p_E_init
theorem s_Q_put_49 {l : Launch} {G : qh_G} {h : qh_H} {b0 : Nat} {fs rest : List Value} {v0 v1 : Value} (hb0 : h b0 = some (.inr (0, fs))) : qx_Site l G "QuorumLog" c_Q_put 49 y_Q_append (.ref b0 :: [v0, v1]) rest h := qx_siteV (As := [v0, v1]) (E := "QuorumLog") (ci := 0) d_Q_put_49 qm_349 qm_351 qs_3 w_Q_append.1 (by decide) rfl p_Q_append hb0
theorem s_Q_leaderFor_1 {l : Launch} {G : qh_G} {h : qh_H} {rest : List Value} {v0 : Value} : qx_Site l G "QuorumLog" c_Q_leaderFor 1 y_Q_isServer [v0] rest h := qx_siteS (As := [v0]) d_Q_leaderFor_1 qm_252 qm_253 qm_1 w_Q_isServer.1 (by decide) p_Q_isServer
theorem s_Q_leaderFor_8 {l : Launch} {G : qh_G} {h : qh_H} {rest : List Value} {v0 : Value} : qx_Site l G "QuorumLog" c_Q_leaderFor 8 y_Q_isKey [v0] rest h := qx_siteS (As := [v0]) d_Q_leaderFor_8 qm_560 qm_561 qm_1 w_Q_isKey.1 (by decide) p_Q_isKey
theorem s_Q_leaderFor_30 {l : Launch} {G : qh_G} {h : qh_H} {b0 : Nat} {fs rest : List Value} (hb0 : h b0 = some (.inr (6, fs))) : qx_Site l G "QuorumLog" c_Q_leaderFor 30 y_S_leads (.ref b0 :: []) rest h := qx_siteV (As := []) (E := "QuorumLog$Server") (ci := 6) d_Q_leaderFor_30 qm_399 qm_400 qm_401 w_S_leads.1 (by decide) rfl p_S_leads hb0
theorem s_Q_change_1 {l : Launch} {G : qh_G} {h : qh_H} {rest : List Value} {v0 : Value} : qx_Site l G "QuorumLog" c_Q_change 1 y_Q_isServer [v0] rest h := qx_siteS (As := [v0]) d_Q_change_1 qm_252 qm_253 qm_1 w_Q_isServer.1 (by decide) p_Q_isServer
theorem s_Q_change_8 {l : Launch} {G : qh_G} {h : qh_H} {rest : List Value} {v0 : Value} : qx_Site l G "QuorumLog" c_Q_change 8 y_Q_isServer [v0] rest h := qx_siteS (As := [v0]) d_Q_change_8 qm_252 qm_253 qm_1 w_Q_isServer.1 (by decide) p_Q_isServer
theorem s_Q_change_41 {l : Launch} {G : qh_G} {h : qh_H} {b0 : Nat} {fs rest : List Value} (hb0 : h b0 = some (.inr (2, fs))) : qx_Site l G "QuorumLog" c_Q_change 41 y_L_configuration (.ref b0 :: []) rest h := qx_siteV (As := []) (E := "QuorumLog$Log") (ci := 2) d_Q_change_41 qm_286 qm_260 qm_261 w_L_configuration.1 (by decide) rfl p_L_configuration hb0
theorem s_Q_change_93 {l : Launch} {G : qh_G} {h : qh_H} {b0 : Nat} {fs rest : List Value} (hb0 : h b0 = some (.inr (6, fs))) : qx_Site l G "QuorumLog" c_Q_change 93 y_S_leads (.ref b0 :: []) rest h := qx_siteV (As := []) (E := "QuorumLog$Server") (ci := 6) d_Q_change_93 qm_399 qm_400 qm_401 w_S_leads.1 (by decide) rfl p_S_leads hb0
theorem s_Q_change_123 {l : Launch} {G : qh_G} {h : qh_H} {b0 : Nat} {fs rest : List Value} (hb0 : h b0 = some (.inr (2, fs))) : qx_Site l G "QuorumLog" c_Q_change 123 y_L_last (.ref b0 :: []) rest h := qx_siteV (As := []) (E := "QuorumLog$Log") (ci := 2) d_Q_change_123 qm_296 qm_264 qm_265 w_L_last.1 (by decide) rfl p_L_last hb0
theorem s_Q_change_126 {l : Launch} {G : qh_G} {h : qh_H} {b0 : Nat} {fs rest : List Value} {v0 : Value} (hb0 : h b0 = some (.inr (2, fs))) : qx_Site l G "QuorumLog" c_Q_change 126 y_L_latestMembersUpTo (.ref b0 :: [v0]) rest h := qx_siteV (As := [v0]) (E := "QuorumLog$Log") (ci := 2) d_Q_change_126 qm_370 qm_268 qm_269 w_L_latestMembersUpTo.1 (by decide) rfl p_L_latestMembersUpTo hb0
theorem s_Q_change_139 {l : Launch} {G : qh_G} {h : qh_H} {b0 : Nat} {fs rest : List Value} (hb0 : h b0 = some (.inr (6, fs))) : qx_Site l G "QuorumLog" c_Q_change 139 y_S_hasCommitOfItsTerm (.ref b0 :: []) rest h := qx_siteV (As := []) (E := "QuorumLog$Server") (ci := 6) d_Q_change_139 qm_689 qm_690 qm_691 w_S_hasCommitOfItsTerm.1 (by decide) rfl p_S_hasCommitOfItsTerm hb0
theorem s_Q_change_171 {l : Launch} {G : qh_G} {h : qh_H} {b0 : Nat} {rest : List Value} {v0 v1 v2 v3 : Value} : qx_Site l G "QuorumLog" c_Q_change 171 y_E_init (.ref b0 :: [v0, v1, v2, v3]) rest h := qx_siteI (As := [v0, v1, v2, v3]) d_Q_change_171 rfl qm_324 qm_325 w_E_init.1 (by decide) p_E_init
theorem s_Q_change_174 {l : Launch} {G : qh_G} {h : qh_H} {b0 : Nat} {fs rest : List Value} {v0 v1 : Value} (hb0 : h b0 = some (.inr (0, fs))) : qx_Site l G "QuorumLog" c_Q_change 174 y_Q_append (.ref b0 :: [v0, v1]) rest h := qx_siteV (As := [v0, v1]) (E := "QuorumLog") (ci := 0) d_Q_change_174 qm_349 qm_351 qs_3 w_Q_append.1 (by decide) rfl p_Q_append hb0
theorem s_Q_read_3 {l : Launch} {G : qh_G} {h : qh_H} {b0 : Nat} {fs rest : List Value} {v0 v1 : Value} (hb0 : h b0 = some (.inr (0, fs))) : qx_Site l G "QuorumLog" c_Q_read 3 y_Q_leaderFor (.ref b0 :: [v0, v1]) rest h := qx_siteV (As := [v0, v1]) (E := "QuorumLog") (ci := 0) d_Q_read_3 qm_576 qm_578 qs_21 w_Q_leaderFor.1 (by decide) rfl p_Q_leaderFor hb0
theorem s_Q_read_12 {l : Launch} {G : qh_G} {h : qh_H} {b0 : Nat} {fs rest : List Value} {v0 : Value} (hb0 : h b0 = some (.inr (4, fs))) : qx_Site l G "QuorumLog" c_Q_read 12 y_R_keptBy (.ref b0 :: [v0]) rest h := qx_siteV (As := [v0]) (E := "QuorumLog$Reads") (ci := 4) d_Q_read_12 qm_702 qm_703 qm_704 w_R_keptBy.1 (by decide) rfl p_R_keptBy hb0
theorem s_Q_read_32 {l : Launch} {G : qh_G} {h : qh_H} {b0 : Nat} {fs rest : List Value} (hb0 : h b0 = some (.inr (6, fs))) : qx_Site l G "QuorumLog" c_Q_read 32 y_S_hasCommitOfItsTerm (.ref b0 :: []) rest h := qx_siteV (As := []) (E := "QuorumLog$Server") (ci := 6) d_Q_read_32 qm_689 qm_690 qm_691 w_S_hasCommitOfItsTerm.1 (by decide) rfl p_S_hasCommitOfItsTerm hb0
theorem s_Q_read_68 {l : Launch} {G : qh_G} {h : qh_H} {b0 : Nat} {fs rest : List Value} {v0 v1 v2 : Value} (hb0 : h b0 = some (.inr (4, fs))) : qx_Site l G "QuorumLog" c_Q_read 68 y_R_keep (.ref b0 :: [v0, v1, v2]) rest h := qx_siteV (As := [v0, v1, v2]) (E := "QuorumLog$Reads") (ci := 4) d_Q_read_68 qm_707 qm_708 qm_709 w_R_keep.1 (by decide) rfl p_R_keep hb0
theorem s_Q_read_75 {l : Launch} {G : qh_G} {h : qh_H} {b0 : Nat} {fs rest : List Value} {v0 : Value} (hb0 : h b0 = some (.inr (0, fs))) : qx_Site l G "QuorumLog" c_Q_read 75 y_Q_sendToAll (.ref b0 :: [v0]) rest h := qx_siteV (As := [v0]) (E := "QuorumLog") (ci := 0) d_Q_read_75 qm_383 qm_385 qs_7 w_Q_sendToAll.1 (by decide) rfl p_Q_sendToAll hb0
theorem s_Q_read_80 {l : Launch} {G : qh_G} {h : qh_H} {b0 : Nat} {fs rest : List Value} {v0 : Value} (hb0 : h b0 = some (.inr (0, fs))) : qx_Site l G "QuorumLog" c_Q_read 80 y_Q_lookAtReads (.ref b0 :: [v0]) rest h := qx_siteV (As := [v0]) (E := "QuorumLog") (ci := 0) d_Q_read_80 qm_517 qm_519 qs_19 w_Q_lookAtReads.1 (by decide) rfl p_Q_lookAtReads hb0
end
section
theorem d_Z_cell_0 : decode c_Z_cell 0 = .ok (.iload_n 1, 1) := by decide +kernel
theorem d_Z_cell_1 : decode c_Z_cell 1 = .ok (.aload_n 0, 1) := by decide +kernel
theorem d_Z_cell_2 : decode c_Z_cell 2 = .ok (.arraylength, 1) := by decide +kernel
theorem d_Z_cell_3 : decode c_Z_cell 3 = .ok (.if_icmp .ge (9), 3) := by decide +kernel
theorem d_Z_cell_6 : decode c_Z_cell 6 = .ok (.aload_n 0, 1) := by decide +kernel
theorem d_Z_cell_7 : decode c_Z_cell 7 = .ok (.iload_n 1, 1) := by decide +kernel
theorem d_Z_cell_8 : decode c_Z_cell 8 = .ok (.iaload, 1) := by decide +kernel
theorem d_Z_cell_9 : decode c_Z_cell 9 = .ok (.goto (4), 3) := by decide +kernel
theorem d_Z_cell_12 : decode c_Z_cell 12 = .ok (.iconst 0, 1) := by decide +kernel
theorem d_Z_cell_13 : decode c_Z_cell 13 = .ok (.ireturn, 1) := by decide +kernel
theorem d_Z_put_0 : decode c_Z_put 0 = .ok (.aload 4, 2) := by decide +kernel
theorem d_Z_put_2 : decode c_Z_put 2 = .ok (.iconst 0, 1) := by decide +kernel
theorem d_Z_put_3 : decode c_Z_put 3 = .ok (.aload_n 0, 1) := by decide +kernel
theorem d_Z_put_4 : decode c_Z_put 4 = .ok (.iload_n 1, 1) := by decide +kernel
theorem d_Z_put_5 : decode c_Z_put 5 = .ok (.iload_n 2, 1) := by decide +kernel
theorem d_Z_put_6 : decode c_Z_put 6 = .ok (.iload_n 3, 1) := by decide +kernel
theorem d_Z_put_7 : decode c_Z_put 7 = .ok (.invokevirtual 7, 3) := by decide +kernel
theorem d_Z_put_10 : decode c_Z_put 10 = .ok (.i2l, 1) := by decide +kernel
theorem d_Z_put_11 : decode c_Z_put 11 = .ok (.lastore, 1) := by decide +kernel
theorem d_Z_put_12 : decode c_Z_put 12 = .ok (.goto (15), 3) := by decide +kernel
theorem d_Z_put_15 : decode c_Z_put 15 = .ok (.astore 5, 2) := by decide +kernel
theorem d_Z_put_17 : decode c_Z_put 17 = .ok (.iconst 1, 1) := by decide +kernel
theorem d_Z_put_18 : decode c_Z_put 18 = .ok (.ireturn, 1) := by decide +kernel
theorem d_Z_put_19 : decode c_Z_put 19 = .ok (.astore 5, 2) := by decide +kernel
theorem d_Z_put_21 : decode c_Z_put 21 = .ok (.iconst 2, 1) := by decide +kernel
theorem d_Z_put_22 : decode c_Z_put 22 = .ok (.ireturn, 1) := by decide +kernel
theorem d_Z_put_23 : decode c_Z_put 23 = .ok (.astore 5, 2) := by decide +kernel
theorem d_Z_put_25 : decode c_Z_put 25 = .ok (.iconst 3, 1) := by decide +kernel
theorem d_Z_put_26 : decode c_Z_put 26 = .ok (.ireturn, 1) := by decide +kernel
theorem d_Z_put_27 : decode c_Z_put 27 = .ok (.iconst 0, 1) := by decide +kernel
theorem d_Z_put_28 : decode c_Z_put 28 = .ok (.ireturn, 1) := by decide +kernel
theorem d_Z_change_0 : decode c_Z_change 0 = .ok (.aload 4, 2) := by decide +kernel
theorem d_Z_change_2 : decode c_Z_change 2 = .ok (.iconst 0, 1) := by decide +kernel
theorem d_Z_change_3 : decode c_Z_change 3 = .ok (.aload_n 0, 1) := by decide +kernel
theorem d_Z_change_4 : decode c_Z_change 4 = .ok (.iload_n 1, 1) := by decide +kernel
theorem d_Z_change_5 : decode c_Z_change 5 = .ok (.iload_n 2, 1) := by decide +kernel
theorem d_Z_change_6 : decode c_Z_change 6 = .ok (.iload_n 3, 1) := by decide +kernel
theorem d_Z_change_7 : decode c_Z_change 7 = .ok (.invokevirtual 19, 3) := by decide +kernel
theorem d_Z_change_10 : decode c_Z_change 10 = .ok (.i2l, 1) := by decide +kernel
theorem d_Z_change_11 : decode c_Z_change 11 = .ok (.lastore, 1) := by decide +kernel
theorem d_Z_change_12 : decode c_Z_change 12 = .ok (.goto (15), 3) := by decide +kernel
theorem d_Z_change_15 : decode c_Z_change 15 = .ok (.astore 5, 2) := by decide +kernel
theorem d_Z_change_17 : decode c_Z_change 17 = .ok (.iconst 1, 1) := by decide +kernel
theorem d_Z_change_18 : decode c_Z_change 18 = .ok (.ireturn, 1) := by decide +kernel
theorem d_Z_change_19 : decode c_Z_change 19 = .ok (.astore 5, 2) := by decide +kernel
theorem d_Z_change_21 : decode c_Z_change 21 = .ok (.iconst 2, 1) := by decide +kernel
theorem d_Z_change_22 : decode c_Z_change 22 = .ok (.ireturn, 1) := by decide +kernel
theorem d_Z_change_23 : decode c_Z_change 23 = .ok (.astore 5, 2) := by decide +kernel
theorem d_Z_change_25 : decode c_Z_change 25 = .ok (.iconst 3, 1) := by decide +kernel
theorem d_Z_change_26 : decode c_Z_change 26 = .ok (.ireturn, 1) := by decide +kernel
theorem d_Z_change_27 : decode c_Z_change 27 = .ok (.iconst 0, 1) := by decide +kernel
theorem d_Z_change_28 : decode c_Z_change 28 = .ok (.ireturn, 1) := by decide +kernel
theorem d_Z_read_0 : decode c_Z_read 0 = .ok (.aload_n 3, 1) := by decide +kernel
theorem d_Z_read_1 : decode c_Z_read 1 = .ok (.iconst 0, 1) := by decide +kernel
theorem d_Z_read_2 : decode c_Z_read 2 = .ok (.aload_n 0, 1) := by decide +kernel
theorem d_Z_read_3 : decode c_Z_read 3 = .ok (.iload_n 1, 1) := by decide +kernel
theorem d_Z_read_4 : decode c_Z_read 4 = .ok (.iload_n 2, 1) := by decide +kernel
theorem d_Z_read_5 : decode c_Z_read 5 = .ok (.invokevirtual 23, 3) := by decide +kernel
theorem d_Z_read_8 : decode c_Z_read 8 = .ok (.i2l, 1) := by decide +kernel
theorem d_Z_read_9 : decode c_Z_read 9 = .ok (.lastore, 1) := by decide +kernel
theorem d_Z_read_10 : decode c_Z_read 10 = .ok (.goto (15), 3) := by decide +kernel
theorem d_Z_read_13 : decode c_Z_read 13 = .ok (.astore 4, 2) := by decide +kernel
theorem d_Z_read_15 : decode c_Z_read 15 = .ok (.iconst 1, 1) := by decide +kernel
theorem d_Z_read_16 : decode c_Z_read 16 = .ok (.ireturn, 1) := by decide +kernel
theorem d_Z_read_17 : decode c_Z_read 17 = .ok (.astore 4, 2) := by decide +kernel
theorem d_Z_read_19 : decode c_Z_read 19 = .ok (.iconst 2, 1) := by decide +kernel
theorem d_Z_read_20 : decode c_Z_read 20 = .ok (.ireturn, 1) := by decide +kernel
theorem d_Z_read_21 : decode c_Z_read 21 = .ok (.astore 4, 2) := by decide +kernel
theorem d_Z_read_23 : decode c_Z_read 23 = .ok (.iconst 3, 1) := by decide +kernel
theorem d_Z_read_24 : decode c_Z_read 24 = .ok (.ireturn, 1) := by decide +kernel
theorem d_Z_read_25 : decode c_Z_read 25 = .ok (.iconst 0, 1) := by decide +kernel
theorem d_Z_read_26 : decode c_Z_read 26 = .ok (.ireturn, 1) := by decide +kernel
theorem s_Z_put_7 {l : Launch} {G : qh_G} {h : qh_H} {b0 : Nat} {fs rest : List Value} {v0 v1 v2 : Value} (hb0 : h b0 = some (.inr (0, fs))) : qx_Site l G "QuorumLogLaw" c_Z_put 7 y_Q_put (.ref b0 :: [v0, v1, v2]) rest h := qx_siteV (As := [v0, v1, v2]) (E := "QuorumLog") (ci := 0) d_Z_put_7 qm_572 qm_573 qm_574 w_Q_put.1 (by decide) rfl p_Q_put hb0
theorem s_Z_change_7 {l : Launch} {G : qh_G} {h : qh_H} {b0 : Nat} {fs rest : List Value} {v0 v1 v2 : Value} (hb0 : h b0 = some (.inr (0, fs))) : qx_Site l G "QuorumLogLaw" c_Z_change 7 y_Q_change (.ref b0 :: [v0, v1, v2]) rest h := qx_siteV (As := [v0, v1, v2]) (E := "QuorumLog") (ci := 0) d_Z_change_7 qm_683 qm_684 qm_685 w_Q_change.1 (by decide) rfl p_Q_change hb0
theorem s_Z_read_5 {l : Launch} {G : qh_G} {h : qh_H} {b0 : Nat} {fs rest : List Value} {v0 v1 : Value} (hb0 : h b0 = some (.inr (0, fs))) : qx_Site l G "QuorumLogLaw" c_Z_read 5 y_Q_read (.ref b0 :: [v0, v1]) rest h := qx_siteV (As := [v0, v1]) (E := "QuorumLog") (ci := 0) d_Z_read_5 qm_698 qm_699 qm_700 w_Q_read.1 (by decide) rfl p_Q_read hb0
end
section
theorem d_D_init_0 : decode c_D_init 0 = .ok (.aload_n 0, 1) := by decide +kernel
theorem d_D_init_1 : decode c_D_init 1 = .ok (.invokespecial 1, 3) := by decide +kernel
theorem d_D_init_4 : decode c_D_init 4 = .ok (.aload_n 0, 1) := by decide +kernel
theorem d_D_init_5 : decode c_D_init 5 = .ok (.iconst 5, 1) := by decide +kernel
theorem d_D_init_6 : decode c_D_init 6 = .ok (.newarray .boolean, 2) := by decide +kernel
theorem d_D_init_8 : decode c_D_init 8 = .ok (.putfield 7, 3) := by decide +kernel
theorem d_D_init_11 : decode c_D_init 11 = .ok (.aload_n 0, 1) := by decide +kernel
theorem d_D_init_12 : decode c_D_init 12 = .ok (.iconst 5, 1) := by decide +kernel
theorem d_D_init_13 : decode c_D_init 13 = .ok (.newarray .int, 2) := by decide +kernel
theorem d_D_init_15 : decode c_D_init 15 = .ok (.putfield 13, 3) := by decide +kernel
theorem d_D_init_18 : decode c_D_init 18 = .ok (.aload_n 0, 1) := by decide +kernel
theorem d_D_init_19 : decode c_D_init 19 = .ok (.iconst 5, 1) := by decide +kernel
theorem d_D_init_20 : decode c_D_init 20 = .ok (.newarray .int, 2) := by decide +kernel
theorem d_D_init_22 : decode c_D_init 22 = .ok (.putfield 17, 3) := by decide +kernel
theorem d_D_init_25 : decode c_D_init 25 = .ok (.aload_n 0, 1) := by decide +kernel
theorem d_D_init_26 : decode c_D_init 26 = .ok (.iconst 5, 1) := by decide +kernel
theorem d_D_init_27 : decode c_D_init 27 = .ok (.newarray .int, 2) := by decide +kernel
theorem d_D_init_29 : decode c_D_init 29 = .ok (.putfield 20, 3) := by decide +kernel
theorem d_D_init_32 : decode c_D_init 32 = .ok (.aload_n 0, 1) := by decide +kernel
theorem d_D_init_33 : decode c_D_init 33 = .ok (.iconst 5, 1) := by decide +kernel
theorem d_D_init_34 : decode c_D_init 34 = .ok (.newarray .int, 2) := by decide +kernel
theorem d_D_init_36 : decode c_D_init 36 = .ok (.putfield 23, 3) := by decide +kernel
theorem d_D_init_39 : decode c_D_init 39 = .ok (.aload_n 0, 1) := by decide +kernel
theorem d_D_init_40 : decode c_D_init 40 = .ok (.iconst 5, 1) := by decide +kernel
theorem d_D_init_41 : decode c_D_init 41 = .ok (.newarray .int, 2) := by decide +kernel
theorem d_D_init_43 : decode c_D_init 43 = .ok (.putfield 26, 3) := by decide +kernel
theorem d_D_init_46 : decode c_D_init 46 = .ok (.aload_n 0, 1) := by decide +kernel
theorem d_D_init_47 : decode c_D_init 47 = .ok (.bipush (20), 2) := by decide +kernel
theorem d_D_init_49 : decode c_D_init 49 = .ok (.newarray .int, 2) := by decide +kernel
theorem d_D_init_51 : decode c_D_init 51 = .ok (.putfield 29, 3) := by decide +kernel
theorem d_D_init_54 : decode c_D_init 54 = .ok (.aload_n 0, 1) := by decide +kernel
theorem d_D_init_55 : decode c_D_init 55 = .ok (.iconst 5, 1) := by decide +kernel
theorem d_D_init_56 : decode c_D_init 56 = .ok (.newarray .int, 2) := by decide +kernel
theorem d_D_init_58 : decode c_D_init 58 = .ok (.putfield 32, 3) := by decide +kernel
theorem d_D_init_61 : decode c_D_init 61 = .ok (.aload_n 0, 1) := by decide +kernel
theorem d_D_init_62 : decode c_D_init 62 = .ok (.sipush (240), 3) := by decide +kernel
theorem d_D_init_65 : decode c_D_init 65 = .ok (.newarray .int, 2) := by decide +kernel
theorem d_D_init_67 : decode c_D_init 67 = .ok (.putfield 35, 3) := by decide +kernel
theorem d_D_init_70 : decode c_D_init 70 = .ok (.aload_n 0, 1) := by decide +kernel
theorem d_D_init_71 : decode c_D_init 71 = .ok (.sipush (240), 3) := by decide +kernel
theorem d_D_init_74 : decode c_D_init 74 = .ok (.newarray .int, 2) := by decide +kernel
theorem d_D_init_76 : decode c_D_init 76 = .ok (.putfield 38, 3) := by decide +kernel
theorem d_D_init_79 : decode c_D_init 79 = .ok (.aload_n 0, 1) := by decide +kernel
theorem d_D_init_80 : decode c_D_init 80 = .ok (.sipush (240), 3) := by decide +kernel
theorem d_D_init_83 : decode c_D_init 83 = .ok (.newarray .int, 2) := by decide +kernel
theorem d_D_init_85 : decode c_D_init 85 = .ok (.putfield 41, 3) := by decide +kernel
theorem d_D_init_88 : decode c_D_init 88 = .ok (.aload_n 0, 1) := by decide +kernel
theorem d_D_init_89 : decode c_D_init 89 = .ok (.sipush (240), 3) := by decide +kernel
theorem d_D_init_92 : decode c_D_init 92 = .ok (.newarray .int, 2) := by decide +kernel
theorem d_D_init_94 : decode c_D_init 94 = .ok (.putfield 44, 3) := by decide +kernel
theorem d_D_init_97 : decode c_D_init 97 = .ok (.aload_n 0, 1) := by decide +kernel
theorem d_D_init_98 : decode c_D_init 98 = .ok (.iconst 5, 1) := by decide +kernel
theorem d_D_init_99 : decode c_D_init 99 = .ok (.newarray .int, 2) := by decide +kernel
theorem d_D_init_101 : decode c_D_init 101 = .ok (.putfield 47, 3) := by decide +kernel
theorem d_D_init_104 : decode c_D_init 104 = .ok (.aload_n 0, 1) := by decide +kernel
theorem d_D_init_105 : decode c_D_init 105 = .ok (.iconst 5, 1) := by decide +kernel
theorem d_D_init_106 : decode c_D_init 106 = .ok (.newarray .int, 2) := by decide +kernel
theorem d_D_init_108 : decode c_D_init 108 = .ok (.putfield 50, 3) := by decide +kernel
theorem d_D_init_111 : decode c_D_init 111 = .ok (.aload_n 0, 1) := by decide +kernel
theorem d_D_init_112 : decode c_D_init 112 = .ok (.iconst 5, 1) := by decide +kernel
theorem d_D_init_113 : decode c_D_init 113 = .ok (.newarray .boolean, 2) := by decide +kernel
theorem d_D_init_115 : decode c_D_init 115 = .ok (.putfield 53, 3) := by decide +kernel
theorem d_D_init_118 : decode c_D_init 118 = .ok (.aload_n 0, 1) := by decide +kernel
theorem d_D_init_119 : decode c_D_init 119 = .ok (.iconst 5, 1) := by decide +kernel
theorem d_D_init_120 : decode c_D_init 120 = .ok (.newarray .int, 2) := by decide +kernel
theorem d_D_init_122 : decode c_D_init 122 = .ok (.putfield 56, 3) := by decide +kernel
theorem d_D_init_125 : decode c_D_init 125 = .ok (.aload_n 0, 1) := by decide +kernel
theorem d_D_init_126 : decode c_D_init 126 = .ok (.bipush (25), 2) := by decide +kernel
theorem d_D_init_128 : decode c_D_init 128 = .ok (.newarray .int, 2) := by decide +kernel
theorem d_D_init_130 : decode c_D_init 130 = .ok (.putfield 59, 3) := by decide +kernel
theorem d_D_init_133 : decode c_D_init 133 = .ok (.aload_n 0, 1) := by decide +kernel
theorem d_D_init_134 : decode c_D_init 134 = .ok (.bipush (25), 2) := by decide +kernel
theorem d_D_init_136 : decode c_D_init 136 = .ok (.newarray .int, 2) := by decide +kernel
theorem d_D_init_138 : decode c_D_init 138 = .ok (.putfield 62, 3) := by decide +kernel
theorem d_D_init_141 : decode c_D_init 141 = .ok (.aload_n 0, 1) := by decide +kernel
theorem d_D_init_142 : decode c_D_init 142 = .ok (.bipush (25), 2) := by decide +kernel
theorem d_D_init_144 : decode c_D_init 144 = .ok (.newarray .int, 2) := by decide +kernel
theorem d_D_init_146 : decode c_D_init 146 = .ok (.putfield 65, 3) := by decide +kernel
theorem d_D_init_149 : decode c_D_init 149 = .ok (.aload_n 0, 1) := by decide +kernel
theorem d_D_init_150 : decode c_D_init 150 = .ok (.iconst 5, 1) := by decide +kernel
theorem d_D_init_151 : decode c_D_init 151 = .ok (.newarray .int, 2) := by decide +kernel
theorem d_D_init_153 : decode c_D_init 153 = .ok (.putfield 68, 3) := by decide +kernel
theorem d_D_init_156 : decode c_D_init 156 = .ok (.aload_n 0, 1) := by decide +kernel
theorem d_D_init_157 : decode c_D_init 157 = .ok (.bipush (60), 2) := by decide +kernel
theorem d_D_init_159 : decode c_D_init 159 = .ok (.newarray .int, 2) := by decide +kernel
theorem d_D_init_161 : decode c_D_init 161 = .ok (.putfield 71, 3) := by decide +kernel
theorem d_D_init_164 : decode c_D_init 164 = .ok (.aload_n 0, 1) := by decide +kernel
theorem d_D_init_165 : decode c_D_init 165 = .ok (.bipush (60), 2) := by decide +kernel
theorem d_D_init_167 : decode c_D_init 167 = .ok (.newarray .int, 2) := by decide +kernel
theorem d_D_init_169 : decode c_D_init 169 = .ok (.putfield 74, 3) := by decide +kernel
theorem d_D_init_172 : decode c_D_init 172 = .ok (.aload_n 0, 1) := by decide +kernel
theorem d_D_init_173 : decode c_D_init 173 = .ok (.bipush (60), 2) := by decide +kernel
theorem d_D_init_175 : decode c_D_init 175 = .ok (.newarray .int, 2) := by decide +kernel
theorem d_D_init_177 : decode c_D_init 177 = .ok (.putfield 77, 3) := by decide +kernel
theorem d_D_init_180 : decode c_D_init 180 = .ok (.aload_n 0, 1) := by decide +kernel
theorem d_D_init_181 : decode c_D_init 181 = .ok (.bipush (60), 2) := by decide +kernel
theorem d_D_init_183 : decode c_D_init 183 = .ok (.newarray .int, 2) := by decide +kernel
theorem d_D_init_185 : decode c_D_init 185 = .ok (.putfield 80, 3) := by decide +kernel
theorem d_D_init_188 : decode c_D_init 188 = .ok (.aload_n 0, 1) := by decide +kernel
theorem d_D_init_189 : decode c_D_init 189 = .ok (.bipush (60), 2) := by decide +kernel
theorem d_D_init_191 : decode c_D_init 191 = .ok (.newarray .int, 2) := by decide +kernel
theorem d_D_init_193 : decode c_D_init 193 = .ok (.putfield 83, 3) := by decide +kernel
theorem d_D_init_196 : decode c_D_init 196 = .ok (.aload_n 0, 1) := by decide +kernel
theorem d_D_init_197 : decode c_D_init 197 = .ok (.sipush (960), 3) := by decide +kernel
theorem d_D_init_200 : decode c_D_init 200 = .ok (.newarray .int, 2) := by decide +kernel
theorem d_D_init_202 : decode c_D_init 202 = .ok (.putfield 86, 3) := by decide +kernel
theorem d_D_init_205 : decode c_D_init 205 = .ok (.aload_n 0, 1) := by decide +kernel
theorem d_D_init_206 : decode c_D_init 206 = .ok (.bipush (20), 2) := by decide +kernel
theorem d_D_init_208 : decode c_D_init 208 = .ok (.newarray .int, 2) := by decide +kernel
theorem d_D_init_210 : decode c_D_init 210 = .ok (.putfield 89, 3) := by decide +kernel
theorem d_D_init_213 : decode c_D_init 213 = .ok (.iconst 0, 1) := by decide +kernel
theorem d_D_init_214 : decode c_D_init 214 = .ok (.istore_n 2, 1) := by decide +kernel
theorem d_D_init_215 : decode c_D_init 215 = .ok (.iload_n 2, 1) := by decide +kernel
theorem d_D_init_216 : decode c_D_init 216 = .ok (.iconst 5, 1) := by decide +kernel
theorem d_D_init_217 : decode c_D_init 217 = .ok (.if_icmp .ge (37), 3) := by decide +kernel
theorem d_D_init_220 : decode c_D_init 220 = .ok (.aload_n 0, 1) := by decide +kernel
theorem d_D_init_221 : decode c_D_init 221 = .ok (.getfield 17, 3) := by decide +kernel
theorem d_D_init_224 : decode c_D_init 224 = .ok (.iload_n 2, 1) := by decide +kernel
theorem d_D_init_225 : decode c_D_init 225 = .ok (.iconst (-1), 1) := by decide +kernel
theorem d_D_init_226 : decode c_D_init 226 = .ok (.iastore, 1) := by decide +kernel
theorem d_D_init_227 : decode c_D_init 227 = .ok (.aload_n 0, 1) := by decide +kernel
theorem d_D_init_228 : decode c_D_init 228 = .ok (.getfield 26, 3) := by decide +kernel
theorem d_D_init_231 : decode c_D_init 231 = .ok (.iload_n 2, 1) := by decide +kernel
theorem d_D_init_232 : decode c_D_init 232 = .ok (.iload_n 1, 1) := by decide +kernel
theorem d_D_init_233 : decode c_D_init 233 = .ok (.bipush (31), 2) := by decide +kernel
theorem d_D_init_235 : decode c_D_init 235 = .ok (.iand, 1) := by decide +kernel
theorem d_D_init_236 : decode c_D_init 236 = .ok (.ifCond .ne (7), 3) := by decide +kernel
theorem d_D_init_239 : decode c_D_init 239 = .ok (.iconst 1, 1) := by decide +kernel
theorem d_D_init_240 : decode c_D_init 240 = .ok (.goto (7), 3) := by decide +kernel
theorem d_D_init_243 : decode c_D_init 243 = .ok (.iload_n 1, 1) := by decide +kernel
theorem d_D_init_244 : decode c_D_init 244 = .ok (.bipush (31), 2) := by decide +kernel
theorem d_D_init_246 : decode c_D_init 246 = .ok (.iand, 1) := by decide +kernel
theorem d_D_init_247 : decode c_D_init 247 = .ok (.iastore, 1) := by decide +kernel
theorem d_D_init_248 : decode c_D_init 248 = .ok (.iinc 2 (1), 3) := by decide +kernel
theorem d_D_init_251 : decode c_D_init 251 = .ok (.goto (-36), 3) := by decide +kernel
theorem d_D_init_254 : decode c_D_init 254 = .ok (.return_, 1) := by decide +kernel
theorem d_D_thrown_0 : decode c_D_thrown 0 = .ok (.aload_n 0, 1) := by decide +kernel
theorem d_D_thrown_1 : decode c_D_thrown 1 = .ok (.getfield 92, 3) := by decide +kernel
theorem d_D_thrown_4 : decode c_D_thrown 4 = .ok (.ireturn, 1) := by decide +kernel
theorem d_D_timer_0 : decode c_D_timer 0 = .ok (.aload_n 0, 1) := by decide +kernel
theorem d_D_timer_1 : decode c_D_timer 1 = .ok (.iconst 0, 1) := by decide +kernel
theorem d_D_timer_2 : decode c_D_timer 2 = .ok (.putfield 92, 3) := by decide +kernel
theorem d_D_timer_5 : decode c_D_timer 5 = .ok (.iload_n 1, 1) := by decide +kernel
theorem d_D_timer_6 : decode c_D_timer 6 = .ok (.invokestatic 143, 3) := by decide +kernel
theorem d_D_timer_9 : decode c_D_timer 9 = .ok (.ifCond .eq (41), 3) := by decide +kernel
theorem d_D_timer_12 : decode c_D_timer 12 = .ok (.aload_n 0, 1) := by decide +kernel
theorem d_D_timer_13 : decode c_D_timer 13 = .ok (.getfield 7, 3) := by decide +kernel
theorem d_D_timer_16 : decode c_D_timer 16 = .ok (.iload_n 1, 1) := by decide +kernel
theorem d_D_timer_17 : decode c_D_timer 17 = .ok (.baload, 1) := by decide +kernel
theorem d_D_timer_18 : decode c_D_timer 18 = .ok (.ifCond .ne (32), 3) := by decide +kernel
theorem d_D_timer_21 : decode c_D_timer 21 = .ok (.aload_n 0, 1) := by decide +kernel
theorem d_D_timer_22 : decode c_D_timer 22 = .ok (.getfield 47, 3) := by decide +kernel
theorem d_D_timer_25 : decode c_D_timer 25 = .ok (.iload_n 1, 1) := by decide +kernel
theorem d_D_timer_26 : decode c_D_timer 26 = .ok (.iaload, 1) := by decide +kernel
theorem d_D_timer_27 : decode c_D_timer 27 = .ok (.iconst 3, 1) := by decide +kernel
theorem d_D_timer_28 : decode c_D_timer 28 = .ok (.if_icmp .eq (22), 3) := by decide +kernel
theorem d_D_timer_31 : decode c_D_timer 31 = .ok (.aload_n 0, 1) := by decide +kernel
theorem d_D_timer_32 : decode c_D_timer 32 = .ok (.iload_n 1, 1) := by decide +kernel
theorem d_D_timer_33 : decode c_D_timer 33 = .ok (.invokevirtual 147, 3) := by decide +kernel
theorem d_D_timer_36 : decode c_D_timer 36 = .ok (.ifCond .eq (14), 3) := by decide +kernel
theorem d_D_timer_39 : decode c_D_timer 39 = .ok (.aload_n 0, 1) := by decide +kernel
theorem d_D_timer_40 : decode c_D_timer 40 = .ok (.getfield 32, 3) := by decide +kernel
theorem d_D_timer_43 : decode c_D_timer 43 = .ok (.iload_n 1, 1) := by decide +kernel
theorem d_D_timer_44 : decode c_D_timer 44 = .ok (.iaload, 1) := by decide +kernel
theorem d_D_timer_45 : decode c_D_timer 45 = .ok (.bipush (40), 2) := by decide +kernel
theorem d_D_timer_47 : decode c_D_timer 47 = .ok (.if_icmp .lt (5), 3) := by decide +kernel
theorem d_D_timer_50 : decode c_D_timer 50 = .ok (.iconst 0, 1) := by decide +kernel
theorem d_D_timer_51 : decode c_D_timer 51 = .ok (.ireturn, 1) := by decide +kernel
theorem d_D_timer_52 : decode c_D_timer 52 = .ok (.aload_n 0, 1) := by decide +kernel
theorem d_D_timer_53 : decode c_D_timer 53 = .ok (.getfield 53, 3) := by decide +kernel
theorem d_D_timer_56 : decode c_D_timer 56 = .ok (.iload_n 1, 1) := by decide +kernel
theorem d_D_timer_57 : decode c_D_timer 57 = .ok (.iconst 0, 1) := by decide +kernel
theorem d_D_timer_58 : decode c_D_timer 58 = .ok (.bastore, 1) := by decide +kernel
theorem d_D_timer_59 : decode c_D_timer 59 = .ok (.aload_n 0, 1) := by decide +kernel
theorem d_D_timer_60 : decode c_D_timer 60 = .ok (.getfield 47, 3) := by decide +kernel
theorem d_D_timer_63 : decode c_D_timer 63 = .ok (.iload_n 1, 1) := by decide +kernel
theorem d_D_timer_64 : decode c_D_timer 64 = .ok (.iconst 1, 1) := by decide +kernel
theorem d_D_timer_65 : decode c_D_timer 65 = .ok (.iastore, 1) := by decide +kernel
theorem d_D_timer_66 : decode c_D_timer 66 = .ok (.aload_n 0, 1) := by decide +kernel
theorem d_D_timer_67 : decode c_D_timer 67 = .ok (.getfield 56, 3) := by decide +kernel
theorem d_D_timer_70 : decode c_D_timer 70 = .ok (.iload_n 1, 1) := by decide +kernel
theorem d_D_timer_71 : decode c_D_timer 71 = .ok (.iconst 1, 1) := by decide +kernel
theorem d_D_timer_72 : decode c_D_timer 72 = .ok (.iload_n 1, 1) := by decide +kernel
theorem d_D_timer_73 : decode c_D_timer 73 = .ok (.ishl, 1) := by decide +kernel
theorem d_D_timer_74 : decode c_D_timer 74 = .ok (.iastore, 1) := by decide +kernel
theorem d_D_timer_75 : decode c_D_timer 75 = .ok (.aload_n 0, 1) := by decide +kernel
theorem d_D_timer_76 : decode c_D_timer 76 = .ok (.iload_n 1, 1) := by decide +kernel
theorem d_D_timer_77 : decode c_D_timer 77 = .ok (.iconst 0, 1) := by decide +kernel
theorem d_D_timer_78 : decode c_D_timer 78 = .ok (.aload_n 0, 1) := by decide +kernel
theorem d_D_timer_79 : decode c_D_timer 79 = .ok (.getfield 13, 3) := by decide +kernel
theorem d_D_timer_82 : decode c_D_timer 82 = .ok (.iload_n 1, 1) := by decide +kernel
theorem d_D_timer_83 : decode c_D_timer 83 = .ok (.iaload, 1) := by decide +kernel
theorem d_D_timer_84 : decode c_D_timer 84 = .ok (.iconst 1, 1) := by decide +kernel
theorem d_D_timer_85 : decode c_D_timer 85 = .ok (.iadd, 1) := by decide +kernel
theorem d_D_timer_86 : decode c_D_timer 86 = .ok (.invokevirtual 150, 3) := by decide +kernel
theorem d_D_timer_89 : decode c_D_timer 89 = .ok (.aload_n 0, 1) := by decide +kernel
theorem d_D_timer_90 : decode c_D_timer 90 = .ok (.iload_n 1, 1) := by decide +kernel
theorem d_D_timer_91 : decode c_D_timer 91 = .ok (.invokevirtual 154, 3) := by decide +kernel
theorem d_D_timer_94 : decode c_D_timer 94 = .ok (.iconst 1, 1) := by decide +kernel
theorem d_D_timer_95 : decode c_D_timer 95 = .ok (.ireturn, 1) := by decide +kernel
theorem d_D_isServer_0 : decode c_D_isServer 0 = .ok (.iload_n 0, 1) := by decide +kernel
theorem d_D_isServer_1 : decode c_D_isServer 1 = .ok (.ifCond .lt (12), 3) := by decide +kernel
theorem d_D_isServer_4 : decode c_D_isServer 4 = .ok (.iload_n 0, 1) := by decide +kernel
theorem d_D_isServer_5 : decode c_D_isServer 5 = .ok (.iconst 5, 1) := by decide +kernel
theorem d_D_isServer_6 : decode c_D_isServer 6 = .ok (.if_icmp .ge (7), 3) := by decide +kernel
theorem d_D_isServer_9 : decode c_D_isServer 9 = .ok (.iconst 1, 1) := by decide +kernel
theorem d_D_isServer_10 : decode c_D_isServer 10 = .ok (.goto (4), 3) := by decide +kernel
theorem d_D_isServer_13 : decode c_D_isServer 13 = .ok (.iconst 0, 1) := by decide +kernel
theorem d_D_isServer_14 : decode c_D_isServer 14 = .ok (.ireturn, 1) := by decide +kernel
theorem d_D_isMine_0 : decode c_D_isMine 0 = .ok (.aload_n 0, 1) := by decide +kernel
theorem d_D_isMine_1 : decode c_D_isMine 1 = .ok (.iload_n 1, 1) := by decide +kernel
theorem d_D_isMine_2 : decode c_D_isMine 2 = .ok (.invokevirtual 113, 3) := by decide +kernel
theorem d_D_isMine_5 : decode c_D_isMine 5 = .ok (.iload_n 1, 1) := by decide +kernel
theorem d_D_isMine_6 : decode c_D_isMine 6 = .ok (.ishr, 1) := by decide +kernel
theorem d_D_isMine_7 : decode c_D_isMine 7 = .ok (.iconst 1, 1) := by decide +kernel
theorem d_D_isMine_8 : decode c_D_isMine 8 = .ok (.iand, 1) := by decide +kernel
theorem d_D_isMine_9 : decode c_D_isMine 9 = .ok (.iconst 1, 1) := by decide +kernel
theorem d_D_isMine_10 : decode c_D_isMine 10 = .ok (.if_icmp .ne (7), 3) := by decide +kernel
theorem d_D_isMine_13 : decode c_D_isMine 13 = .ok (.iconst 1, 1) := by decide +kernel
theorem d_D_isMine_14 : decode c_D_isMine 14 = .ok (.goto (4), 3) := by decide +kernel
theorem d_D_isMine_17 : decode c_D_isMine 17 = .ok (.iconst 0, 1) := by decide +kernel
theorem d_D_isMine_18 : decode c_D_isMine 18 = .ok (.ireturn, 1) := by decide +kernel
theorem d_D_config_0 : decode c_D_config 0 = .ok (.aload_n 0, 1) := by decide +kernel
theorem d_D_config_1 : decode c_D_config 1 = .ok (.iload_n 1, 1) := by decide +kernel
theorem d_D_config_2 : decode c_D_config 2 = .ok (.aload_n 0, 1) := by decide +kernel
theorem d_D_config_3 : decode c_D_config 3 = .ok (.iload_n 1, 1) := by decide +kernel
theorem d_D_config_4 : decode c_D_config 4 = .ok (.invokevirtual 96, 3) := by decide +kernel
theorem d_D_config_7 : decode c_D_config 7 = .ok (.invokevirtual 110, 3) := by decide +kernel
theorem d_D_config_10 : decode c_D_config 10 = .ok (.ireturn, 1) := by decide +kernel
theorem d_D_last_0 : decode c_D_last 0 = .ok (.aload_n 0, 1) := by decide +kernel
theorem d_D_last_1 : decode c_D_last 1 = .ok (.getfield 20, 3) := by decide +kernel
theorem d_D_last_4 : decode c_D_last 4 = .ok (.iload_n 1, 1) := by decide +kernel
theorem d_D_last_5 : decode c_D_last 5 = .ok (.iaload, 1) := by decide +kernel
theorem d_D_last_6 : decode c_D_last 6 = .ok (.aload_n 0, 1) := by decide +kernel
theorem d_D_last_7 : decode c_D_last 7 = .ok (.getfield 32, 3) := by decide +kernel
theorem d_D_last_10 : decode c_D_last 10 = .ok (.iload_n 1, 1) := by decide +kernel
theorem d_D_last_11 : decode c_D_last 11 = .ok (.iaload, 1) := by decide +kernel
theorem d_D_last_12 : decode c_D_last 12 = .ok (.iadd, 1) := by decide +kernel
theorem d_D_last_13 : decode c_D_last 13 = .ok (.ireturn, 1) := by decide +kernel
theorem d_D_membersAt_0 : decode c_D_membersAt 0 = .ok (.aload_n 0, 1) := by decide +kernel
theorem d_D_membersAt_1 : decode c_D_membersAt 1 = .ok (.iload_n 1, 1) := by decide +kernel
theorem d_D_membersAt_2 : decode c_D_membersAt 2 = .ok (.iload_n 2, 1) := by decide +kernel
theorem d_D_membersAt_3 : decode c_D_membersAt 3 = .ok (.invokevirtual 107, 3) := by decide +kernel
theorem d_D_membersAt_6 : decode c_D_membersAt 6 = .ok (.istore_n 3, 1) := by decide +kernel
theorem d_D_membersAt_7 : decode c_D_membersAt 7 = .ok (.iload_n 3, 1) := by decide +kernel
theorem d_D_membersAt_8 : decode c_D_membersAt 8 = .ok (.ifCond .ne (12), 3) := by decide +kernel
theorem d_D_membersAt_11 : decode c_D_membersAt 11 = .ok (.aload_n 0, 1) := by decide +kernel
theorem d_D_membersAt_12 : decode c_D_membersAt 12 = .ok (.getfield 26, 3) := by decide +kernel
theorem d_D_membersAt_15 : decode c_D_membersAt 15 = .ok (.iload_n 1, 1) := by decide +kernel
theorem d_D_membersAt_16 : decode c_D_membersAt 16 = .ok (.iaload, 1) := by decide +kernel
theorem d_D_membersAt_17 : decode c_D_membersAt 17 = .ok (.goto (14), 3) := by decide +kernel
theorem d_D_membersAt_20 : decode c_D_membersAt 20 = .ok (.aload_n 0, 1) := by decide +kernel
theorem d_D_membersAt_21 : decode c_D_membersAt 21 = .ok (.getfield 41, 3) := by decide +kernel
theorem d_D_membersAt_24 : decode c_D_membersAt 24 = .ok (.aload_n 0, 1) := by decide +kernel
theorem d_D_membersAt_25 : decode c_D_membersAt 25 = .ok (.iload_n 1, 1) := by decide +kernel
theorem d_D_membersAt_26 : decode c_D_membersAt 26 = .ok (.iload_n 3, 1) := by decide +kernel
theorem d_D_membersAt_27 : decode c_D_membersAt 27 = .ok (.invokevirtual 100, 3) := by decide +kernel
theorem d_D_membersAt_30 : decode c_D_membersAt 30 = .ok (.iaload, 1) := by decide +kernel
theorem d_D_membersAt_31 : decode c_D_membersAt 31 = .ok (.ireturn, 1) := by decide +kernel
theorem d_D_latestMembers_0 : decode c_D_latestMembers 0 = .ok (.iconst 0, 1) := by decide +kernel
theorem d_D_latestMembers_1 : decode c_D_latestMembers 1 = .ok (.istore_n 3, 1) := by decide +kernel
theorem d_D_latestMembers_2 : decode c_D_latestMembers 2 = .ok (.aload_n 0, 1) := by decide +kernel
theorem d_D_latestMembers_3 : decode c_D_latestMembers 3 = .ok (.getfield 20, 3) := by decide +kernel
theorem d_D_latestMembers_6 : decode c_D_latestMembers 6 = .ok (.iload_n 1, 1) := by decide +kernel
theorem d_D_latestMembers_7 : decode c_D_latestMembers 7 = .ok (.iaload, 1) := by decide +kernel
theorem d_D_latestMembers_8 : decode c_D_latestMembers 8 = .ok (.iconst 1, 1) := by decide +kernel
theorem d_D_latestMembers_9 : decode c_D_latestMembers 9 = .ok (.iadd, 1) := by decide +kernel
theorem d_D_latestMembers_10 : decode c_D_latestMembers 10 = .ok (.istore 4, 2) := by decide +kernel
theorem d_D_latestMembers_12 : decode c_D_latestMembers 12 = .ok (.iload 4, 2) := by decide +kernel
theorem d_D_latestMembers_14 : decode c_D_latestMembers 14 = .ok (.iload_n 2, 1) := by decide +kernel
theorem d_D_latestMembers_15 : decode c_D_latestMembers 15 = .ok (.if_icmp .gt (28), 3) := by decide +kernel
theorem d_D_latestMembers_18 : decode c_D_latestMembers 18 = .ok (.aload_n 0, 1) := by decide +kernel
theorem d_D_latestMembers_19 : decode c_D_latestMembers 19 = .ok (.getfield 38, 3) := by decide +kernel
theorem d_D_latestMembers_22 : decode c_D_latestMembers 22 = .ok (.aload_n 0, 1) := by decide +kernel
theorem d_D_latestMembers_23 : decode c_D_latestMembers 23 = .ok (.iload_n 1, 1) := by decide +kernel
theorem d_D_latestMembers_24 : decode c_D_latestMembers 24 = .ok (.iload 4, 2) := by decide +kernel
theorem d_D_latestMembers_26 : decode c_D_latestMembers 26 = .ok (.invokevirtual 100, 3) := by decide +kernel
theorem d_D_latestMembers_29 : decode c_D_latestMembers 29 = .ok (.iaload, 1) := by decide +kernel
theorem d_D_latestMembers_30 : decode c_D_latestMembers 30 = .ok (.iconst 2, 1) := by decide +kernel
theorem d_D_latestMembers_31 : decode c_D_latestMembers 31 = .ok (.if_icmp .ne (6), 3) := by decide +kernel
theorem d_D_latestMembers_34 : decode c_D_latestMembers 34 = .ok (.iload 4, 2) := by decide +kernel
theorem d_D_latestMembers_36 : decode c_D_latestMembers 36 = .ok (.istore_n 3, 1) := by decide +kernel
theorem d_D_latestMembers_37 : decode c_D_latestMembers 37 = .ok (.iinc 4 (1), 3) := by decide +kernel
theorem d_D_latestMembers_40 : decode c_D_latestMembers 40 = .ok (.goto (-28), 3) := by decide +kernel
theorem d_D_latestMembers_43 : decode c_D_latestMembers 43 = .ok (.iload_n 3, 1) := by decide +kernel
theorem d_D_latestMembers_44 : decode c_D_latestMembers 44 = .ok (.ireturn, 1) := by decide +kernel
theorem d_D_cell_0 : decode c_D_cell 0 = .ok (.iload_n 2, 1) := by decide +kernel
theorem d_D_cell_1 : decode c_D_cell 1 = .ok (.aload_n 0, 1) := by decide +kernel
theorem d_D_cell_2 : decode c_D_cell 2 = .ok (.getfield 20, 3) := by decide +kernel
theorem d_D_cell_5 : decode c_D_cell 5 = .ok (.iload_n 1, 1) := by decide +kernel
theorem d_D_cell_6 : decode c_D_cell 6 = .ok (.iaload, 1) := by decide +kernel
theorem d_D_cell_7 : decode c_D_cell 7 = .ok (.if_icmp .le (30), 3) := by decide +kernel
theorem d_D_cell_10 : decode c_D_cell 10 = .ok (.iload_n 2, 1) := by decide +kernel
theorem d_D_cell_11 : decode c_D_cell 11 = .ok (.aload_n 0, 1) := by decide +kernel
theorem d_D_cell_12 : decode c_D_cell 12 = .ok (.iload_n 1, 1) := by decide +kernel
theorem d_D_cell_13 : decode c_D_cell 13 = .ok (.invokevirtual 96, 3) := by decide +kernel
theorem d_D_cell_16 : decode c_D_cell 16 = .ok (.if_icmp .gt (21), 3) := by decide +kernel
theorem d_D_cell_19 : decode c_D_cell 19 = .ok (.bipush (48), 2) := by decide +kernel
theorem d_D_cell_21 : decode c_D_cell 21 = .ok (.iload_n 1, 1) := by decide +kernel
theorem d_D_cell_22 : decode c_D_cell 22 = .ok (.imul, 1) := by decide +kernel
theorem d_D_cell_23 : decode c_D_cell 23 = .ok (.iload_n 2, 1) := by decide +kernel
theorem d_D_cell_24 : decode c_D_cell 24 = .ok (.iadd, 1) := by decide +kernel
theorem d_D_cell_25 : decode c_D_cell 25 = .ok (.aload_n 0, 1) := by decide +kernel
theorem d_D_cell_26 : decode c_D_cell 26 = .ok (.getfield 20, 3) := by decide +kernel
theorem d_D_cell_29 : decode c_D_cell 29 = .ok (.iload_n 1, 1) := by decide +kernel
theorem d_D_cell_30 : decode c_D_cell 30 = .ok (.iaload, 1) := by decide +kernel
theorem d_D_cell_31 : decode c_D_cell 31 = .ok (.isub, 1) := by decide +kernel
theorem d_D_cell_32 : decode c_D_cell 32 = .ok (.iconst 1, 1) := by decide +kernel
theorem d_D_cell_33 : decode c_D_cell 33 = .ok (.isub, 1) := by decide +kernel
theorem d_D_cell_34 : decode c_D_cell 34 = .ok (.goto (4), 3) := by decide +kernel
theorem d_D_cell_37 : decode c_D_cell 37 = .ok (.iconst (-1), 1) := by decide +kernel
theorem d_D_cell_38 : decode c_D_cell 38 = .ok (.ireturn, 1) := by decide +kernel
theorem d_D_askAll_0 : decode c_D_askAll 0 = .ok (.aload_n 0, 1) := by decide +kernel
theorem d_D_askAll_1 : decode c_D_askAll 1 = .ok (.iload_n 1, 1) := by decide +kernel
theorem d_D_askAll_2 : decode c_D_askAll 2 = .ok (.invokevirtual 113, 3) := by decide +kernel
theorem d_D_askAll_5 : decode c_D_askAll 5 = .ok (.istore 4, 2) := by decide +kernel
theorem d_D_askAll_7 : decode c_D_askAll 7 = .ok (.iconst 0, 1) := by decide +kernel
theorem d_D_askAll_8 : decode c_D_askAll 8 = .ok (.istore 5, 2) := by decide +kernel
theorem d_D_askAll_10 : decode c_D_askAll 10 = .ok (.iload 5, 2) := by decide +kernel
theorem d_D_askAll_12 : decode c_D_askAll 12 = .ok (.iconst 5, 1) := by decide +kernel
theorem d_D_askAll_13 : decode c_D_askAll 13 = .ok (.if_icmp .ge (63), 3) := by decide +kernel
theorem d_D_askAll_16 : decode c_D_askAll 16 = .ok (.iload 5, 2) := by decide +kernel
theorem d_D_askAll_18 : decode c_D_askAll 18 = .ok (.iload_n 1, 1) := by decide +kernel
theorem d_D_askAll_19 : decode c_D_askAll 19 = .ok (.if_icmp .eq (51), 3) := by decide +kernel
theorem d_D_askAll_22 : decode c_D_askAll 22 = .ok (.iload 4, 2) := by decide +kernel
theorem d_D_askAll_24 : decode c_D_askAll 24 = .ok (.iload 5, 2) := by decide +kernel
theorem d_D_askAll_26 : decode c_D_askAll 26 = .ok (.ishr, 1) := by decide +kernel
theorem d_D_askAll_27 : decode c_D_askAll 27 = .ok (.iconst 1, 1) := by decide +kernel
theorem d_D_askAll_28 : decode c_D_askAll 28 = .ok (.iand, 1) := by decide +kernel
theorem d_D_askAll_29 : decode c_D_askAll 29 = .ok (.ifCond .ne (6), 3) := by decide +kernel
theorem d_D_askAll_32 : decode c_D_askAll 32 = .ok (.goto (38), 3) := by decide +kernel
theorem d_D_askAll_35 : decode c_D_askAll 35 = .ok (.aload_n 0, 1) := by decide +kernel
theorem d_D_askAll_36 : decode c_D_askAll 36 = .ok (.iload_n 2, 1) := by decide +kernel
theorem d_D_askAll_37 : decode c_D_askAll 37 = .ok (.iload_n 1, 1) := by decide +kernel
theorem d_D_askAll_38 : decode c_D_askAll 38 = .ok (.iload 5, 2) := by decide +kernel
theorem d_D_askAll_40 : decode c_D_askAll 40 = .ok (.iload_n 3, 1) := by decide +kernel
theorem d_D_askAll_41 : decode c_D_askAll 41 = .ok (.invokevirtual 122, 3) := by decide +kernel
theorem d_D_askAll_44 : decode c_D_askAll 44 = .ok (.aload_n 0, 1) := by decide +kernel
theorem d_D_askAll_45 : decode c_D_askAll 45 = .ok (.getfield 89, 3) := by decide +kernel
theorem d_D_askAll_48 : decode c_D_askAll 48 = .ok (.iconst 4, 1) := by decide +kernel
theorem d_D_askAll_49 : decode c_D_askAll 49 = .ok (.aload_n 0, 1) := by decide +kernel
theorem d_D_askAll_50 : decode c_D_askAll 50 = .ok (.iload_n 1, 1) := by decide +kernel
theorem d_D_askAll_51 : decode c_D_askAll 51 = .ok (.invokevirtual 96, 3) := by decide +kernel
theorem d_D_askAll_54 : decode c_D_askAll 54 = .ok (.iastore, 1) := by decide +kernel
theorem d_D_askAll_55 : decode c_D_askAll 55 = .ok (.aload_n 0, 1) := by decide +kernel
theorem d_D_askAll_56 : decode c_D_askAll 56 = .ok (.getfield 89, 3) := by decide +kernel
theorem d_D_askAll_59 : decode c_D_askAll 59 = .ok (.iconst 5, 1) := by decide +kernel
theorem d_D_askAll_60 : decode c_D_askAll 60 = .ok (.aload_n 0, 1) := by decide +kernel
theorem d_D_askAll_61 : decode c_D_askAll 61 = .ok (.iload_n 1, 1) := by decide +kernel
theorem d_D_askAll_62 : decode c_D_askAll 62 = .ok (.invokevirtual 126, 3) := by decide +kernel
theorem d_D_askAll_65 : decode c_D_askAll 65 = .ok (.iastore, 1) := by decide +kernel
theorem d_D_askAll_66 : decode c_D_askAll 66 = .ok (.aload_n 0, 1) := by decide +kernel
theorem d_D_askAll_67 : decode c_D_askAll 67 = .ok (.invokevirtual 129, 3) := by decide +kernel
theorem d_D_askAll_70 : decode c_D_askAll 70 = .ok (.iinc 5 (1), 3) := by decide +kernel
theorem d_D_askAll_73 : decode c_D_askAll 73 = .ok (.goto (-63), 3) := by decide +kernel
theorem d_D_askAll_76 : decode c_D_askAll 76 = .ok (.return_, 1) := by decide +kernel
theorem d_D_begin_0 : decode c_D_begin 0 = .ok (.iconst 0, 1) := by decide +kernel
theorem d_D_begin_1 : decode c_D_begin 1 = .ok (.istore 5, 2) := by decide +kernel
theorem d_D_begin_3 : decode c_D_begin 3 = .ok (.iload 5, 2) := by decide +kernel
theorem d_D_begin_5 : decode c_D_begin 5 = .ok (.bipush (20), 2) := by decide +kernel
theorem d_D_begin_7 : decode c_D_begin 7 = .ok (.if_icmp .ge (17), 3) := by decide +kernel
theorem d_D_begin_10 : decode c_D_begin 10 = .ok (.aload_n 0, 1) := by decide +kernel
theorem d_D_begin_11 : decode c_D_begin 11 = .ok (.getfield 89, 3) := by decide +kernel
theorem d_D_begin_14 : decode c_D_begin 14 = .ok (.iload 5, 2) := by decide +kernel
theorem d_D_begin_16 : decode c_D_begin 16 = .ok (.iconst 0, 1) := by decide +kernel
theorem d_D_begin_17 : decode c_D_begin 17 = .ok (.iastore, 1) := by decide +kernel
theorem d_D_begin_18 : decode c_D_begin 18 = .ok (.iinc 5 (1), 3) := by decide +kernel
theorem d_D_begin_21 : decode c_D_begin 21 = .ok (.goto (-18), 3) := by decide +kernel
theorem d_D_begin_24 : decode c_D_begin 24 = .ok (.aload_n 0, 1) := by decide +kernel
theorem d_D_begin_25 : decode c_D_begin 25 = .ok (.getfield 89, 3) := by decide +kernel
theorem d_D_begin_28 : decode c_D_begin 28 = .ok (.iconst 0, 1) := by decide +kernel
theorem d_D_begin_29 : decode c_D_begin 29 = .ok (.iload_n 1, 1) := by decide +kernel
theorem d_D_begin_30 : decode c_D_begin 30 = .ok (.iastore, 1) := by decide +kernel
theorem d_D_begin_31 : decode c_D_begin 31 = .ok (.aload_n 0, 1) := by decide +kernel
theorem d_D_begin_32 : decode c_D_begin 32 = .ok (.getfield 89, 3) := by decide +kernel
theorem d_D_begin_35 : decode c_D_begin 35 = .ok (.iconst 1, 1) := by decide +kernel
theorem d_D_begin_36 : decode c_D_begin 36 = .ok (.iload_n 2, 1) := by decide +kernel
theorem d_D_begin_37 : decode c_D_begin 37 = .ok (.iastore, 1) := by decide +kernel
theorem d_D_begin_38 : decode c_D_begin 38 = .ok (.aload_n 0, 1) := by decide +kernel
theorem d_D_begin_39 : decode c_D_begin 39 = .ok (.getfield 89, 3) := by decide +kernel
theorem d_D_begin_42 : decode c_D_begin 42 = .ok (.iconst 2, 1) := by decide +kernel
theorem d_D_begin_43 : decode c_D_begin 43 = .ok (.iload_n 3, 1) := by decide +kernel
theorem d_D_begin_44 : decode c_D_begin 44 = .ok (.iastore, 1) := by decide +kernel
theorem d_D_begin_45 : decode c_D_begin 45 = .ok (.aload_n 0, 1) := by decide +kernel
theorem d_D_begin_46 : decode c_D_begin 46 = .ok (.getfield 89, 3) := by decide +kernel
theorem d_D_begin_49 : decode c_D_begin 49 = .ok (.iconst 3, 1) := by decide +kernel
theorem d_D_begin_50 : decode c_D_begin 50 = .ok (.iload 4, 2) := by decide +kernel
theorem d_D_begin_52 : decode c_D_begin 52 = .ok (.iastore, 1) := by decide +kernel
theorem d_D_begin_53 : decode c_D_begin 53 = .ok (.return_, 1) := by decide +kernel
theorem d_D_lastTerm_0 : decode c_D_lastTerm 0 = .ok (.aload_n 0, 1) := by decide +kernel
theorem d_D_lastTerm_1 : decode c_D_lastTerm 1 = .ok (.iload_n 1, 1) := by decide +kernel
theorem d_D_lastTerm_2 : decode c_D_lastTerm 2 = .ok (.aload_n 0, 1) := by decide +kernel
theorem d_D_lastTerm_3 : decode c_D_lastTerm 3 = .ok (.iload_n 1, 1) := by decide +kernel
theorem d_D_lastTerm_4 : decode c_D_lastTerm 4 = .ok (.invokevirtual 96, 3) := by decide +kernel
theorem d_D_lastTerm_7 : decode c_D_lastTerm 7 = .ok (.invokevirtual 104, 3) := by decide +kernel
theorem d_D_lastTerm_10 : decode c_D_lastTerm 10 = .ok (.ireturn, 1) := by decide +kernel
theorem d_D_termAt_0 : decode c_D_termAt 0 = .ok (.iload_n 2, 1) := by decide +kernel
theorem d_D_termAt_1 : decode c_D_termAt 1 = .ok (.aload_n 0, 1) := by decide +kernel
theorem d_D_termAt_2 : decode c_D_termAt 2 = .ok (.getfield 20, 3) := by decide +kernel
theorem d_D_termAt_5 : decode c_D_termAt 5 = .ok (.iload_n 1, 1) := by decide +kernel
theorem d_D_termAt_6 : decode c_D_termAt 6 = .ok (.iaload, 1) := by decide +kernel
theorem d_D_termAt_7 : decode c_D_termAt 7 = .ok (.if_icmp .ne (10), 3) := by decide +kernel
theorem d_D_termAt_10 : decode c_D_termAt 10 = .ok (.aload_n 0, 1) := by decide +kernel
theorem d_D_termAt_11 : decode c_D_termAt 11 = .ok (.getfield 23, 3) := by decide +kernel
theorem d_D_termAt_14 : decode c_D_termAt 14 = .ok (.iload_n 1, 1) := by decide +kernel
theorem d_D_termAt_15 : decode c_D_termAt 15 = .ok (.iaload, 1) := by decide +kernel
theorem d_D_termAt_16 : decode c_D_termAt 16 = .ok (.ireturn, 1) := by decide +kernel
theorem d_D_termAt_17 : decode c_D_termAt 17 = .ok (.aload_n 0, 1) := by decide +kernel
theorem d_D_termAt_18 : decode c_D_termAt 18 = .ok (.iload_n 1, 1) := by decide +kernel
theorem d_D_termAt_19 : decode c_D_termAt 19 = .ok (.iload_n 2, 1) := by decide +kernel
theorem d_D_termAt_20 : decode c_D_termAt 20 = .ok (.invokevirtual 100, 3) := by decide +kernel
theorem d_D_termAt_23 : decode c_D_termAt 23 = .ok (.istore_n 3, 1) := by decide +kernel
theorem d_D_termAt_24 : decode c_D_termAt 24 = .ok (.iload_n 3, 1) := by decide +kernel
theorem d_D_termAt_25 : decode c_D_termAt 25 = .ok (.ifCond .ge (7), 3) := by decide +kernel
theorem d_D_termAt_28 : decode c_D_termAt 28 = .ok (.iconst (-1), 1) := by decide +kernel
theorem d_D_termAt_29 : decode c_D_termAt 29 = .ok (.goto (9), 3) := by decide +kernel
theorem d_D_termAt_32 : decode c_D_termAt 32 = .ok (.aload_n 0, 1) := by decide +kernel
theorem d_D_termAt_33 : decode c_D_termAt 33 = .ok (.getfield 35, 3) := by decide +kernel
theorem d_D_termAt_36 : decode c_D_termAt 36 = .ok (.iload_n 3, 1) := by decide +kernel
theorem d_D_termAt_37 : decode c_D_termAt 37 = .ok (.iaload, 1) := by decide +kernel
theorem d_D_termAt_38 : decode c_D_termAt 38 = .ok (.ireturn, 1) := by decide +kernel
theorem d_D_post_0 : decode c_D_post 0 = .ok (.aload_n 0, 1) := by decide +kernel
theorem d_D_post_1 : decode c_D_post 1 = .ok (.getfield 119, 3) := by decide +kernel
theorem d_D_post_4 : decode c_D_post 4 = .ok (.bipush (48), 2) := by decide +kernel
theorem d_D_post_6 : decode c_D_post 6 = .ok (.if_icmp .ne (4), 3) := by decide +kernel
theorem d_D_post_9 : decode c_D_post 9 = .ok (.return_, 1) := by decide +kernel
theorem d_D_post_10 : decode c_D_post 10 = .ok (.iconst 0, 1) := by decide +kernel
theorem d_D_post_11 : decode c_D_post 11 = .ok (.istore_n 1, 1) := by decide +kernel
theorem d_D_post_12 : decode c_D_post 12 = .ok (.iload_n 1, 1) := by decide +kernel
theorem d_D_post_13 : decode c_D_post 13 = .ok (.bipush (20), 2) := by decide +kernel
theorem d_D_post_15 : decode c_D_post 15 = .ok (.if_icmp .ge (29), 3) := by decide +kernel
theorem d_D_post_18 : decode c_D_post 18 = .ok (.aload_n 0, 1) := by decide +kernel
theorem d_D_post_19 : decode c_D_post 19 = .ok (.getfield 86, 3) := by decide +kernel
theorem d_D_post_22 : decode c_D_post 22 = .ok (.bipush (20), 2) := by decide +kernel
theorem d_D_post_24 : decode c_D_post 24 = .ok (.aload_n 0, 1) := by decide +kernel
theorem d_D_post_25 : decode c_D_post 25 = .ok (.getfield 119, 3) := by decide +kernel
theorem d_D_post_28 : decode c_D_post 28 = .ok (.imul, 1) := by decide +kernel
theorem d_D_post_29 : decode c_D_post 29 = .ok (.iload_n 1, 1) := by decide +kernel
theorem d_D_post_30 : decode c_D_post 30 = .ok (.iadd, 1) := by decide +kernel
theorem d_D_post_31 : decode c_D_post 31 = .ok (.aload_n 0, 1) := by decide +kernel
theorem d_D_post_32 : decode c_D_post 32 = .ok (.getfield 89, 3) := by decide +kernel
theorem d_D_post_35 : decode c_D_post 35 = .ok (.iload_n 1, 1) := by decide +kernel
theorem d_D_post_36 : decode c_D_post 36 = .ok (.iaload, 1) := by decide +kernel
theorem d_D_post_37 : decode c_D_post 37 = .ok (.iastore, 1) := by decide +kernel
theorem d_D_post_38 : decode c_D_post 38 = .ok (.iinc 1 (1), 3) := by decide +kernel
theorem d_D_post_41 : decode c_D_post 41 = .ok (.goto (-29), 3) := by decide +kernel
theorem d_D_post_44 : decode c_D_post 44 = .ok (.aload_n 0, 1) := by decide +kernel
theorem d_D_post_45 : decode c_D_post 45 = .ok (.dup, 1) := by decide +kernel
theorem d_D_post_46 : decode c_D_post 46 = .ok (.getfield 119, 3) := by decide +kernel
theorem d_D_post_49 : decode c_D_post 49 = .ok (.iconst 1, 1) := by decide +kernel
theorem d_D_post_50 : decode c_D_post 50 = .ok (.iadd, 1) := by decide +kernel
theorem d_D_post_51 : decode c_D_post 51 = .ok (.putfield 119, 3) := by decide +kernel
theorem d_D_post_54 : decode c_D_post 54 = .ok (.return_, 1) := by decide +kernel
theorem d_D_weigh_0 : decode c_D_weigh 0 = .ok (.aload_n 0, 1) := by decide +kernel
theorem d_D_weigh_1 : decode c_D_weigh 1 = .ok (.getfield 47, 3) := by decide +kernel
theorem d_D_weigh_4 : decode c_D_weigh 4 = .ok (.iload_n 1, 1) := by decide +kernel
theorem d_D_weigh_5 : decode c_D_weigh 5 = .ok (.iaload, 1) := by decide +kernel
theorem d_D_weigh_6 : decode c_D_weigh 6 = .ok (.iconst 1, 1) := by decide +kernel
theorem d_D_weigh_7 : decode c_D_weigh 7 = .ok (.if_icmp .ne (62), 3) := by decide +kernel
theorem d_D_weigh_10 : decode c_D_weigh 10 = .ok (.aload_n 0, 1) := by decide +kernel
theorem d_D_weigh_11 : decode c_D_weigh 11 = .ok (.iload_n 1, 1) := by decide +kernel
theorem d_D_weigh_12 : decode c_D_weigh 12 = .ok (.aload_n 0, 1) := by decide +kernel
theorem d_D_weigh_13 : decode c_D_weigh 13 = .ok (.getfield 56, 3) := by decide +kernel
theorem d_D_weigh_16 : decode c_D_weigh 16 = .ok (.iload_n 1, 1) := by decide +kernel
theorem d_D_weigh_17 : decode c_D_weigh 17 = .ok (.iaload, 1) := by decide +kernel
theorem d_D_weigh_18 : decode c_D_weigh 18 = .ok (.invokevirtual 157, 3) := by decide +kernel
theorem d_D_weigh_21 : decode c_D_weigh 21 = .ok (.ifCond .eq (48), 3) := by decide +kernel
theorem d_D_weigh_24 : decode c_D_weigh 24 = .ok (.aload_n 0, 1) := by decide +kernel
theorem d_D_weigh_25 : decode c_D_weigh 25 = .ok (.getfield 47, 3) := by decide +kernel
theorem d_D_weigh_28 : decode c_D_weigh 28 = .ok (.iload_n 1, 1) := by decide +kernel
theorem d_D_weigh_29 : decode c_D_weigh 29 = .ok (.iconst 2, 1) := by decide +kernel
theorem d_D_weigh_30 : decode c_D_weigh 30 = .ok (.iastore, 1) := by decide +kernel
theorem d_D_weigh_31 : decode c_D_weigh 31 = .ok (.aload_n 0, 1) := by decide +kernel
theorem d_D_weigh_32 : decode c_D_weigh 32 = .ok (.getfield 13, 3) := by decide +kernel
theorem d_D_weigh_35 : decode c_D_weigh 35 = .ok (.iload_n 1, 1) := by decide +kernel
theorem d_D_weigh_36 : decode c_D_weigh 36 = .ok (.dup2, 1) := by decide +kernel
theorem d_D_weigh_37 : decode c_D_weigh 37 = .ok (.iaload, 1) := by decide +kernel
theorem d_D_weigh_38 : decode c_D_weigh 38 = .ok (.iconst 1, 1) := by decide +kernel
theorem d_D_weigh_39 : decode c_D_weigh 39 = .ok (.iadd, 1) := by decide +kernel
theorem d_D_weigh_40 : decode c_D_weigh 40 = .ok (.iastore, 1) := by decide +kernel
theorem d_D_weigh_41 : decode c_D_weigh 41 = .ok (.aload_n 0, 1) := by decide +kernel
theorem d_D_weigh_42 : decode c_D_weigh 42 = .ok (.getfield 17, 3) := by decide +kernel
theorem d_D_weigh_45 : decode c_D_weigh 45 = .ok (.iload_n 1, 1) := by decide +kernel
theorem d_D_weigh_46 : decode c_D_weigh 46 = .ok (.iload_n 1, 1) := by decide +kernel
theorem d_D_weigh_47 : decode c_D_weigh 47 = .ok (.iastore, 1) := by decide +kernel
theorem d_D_weigh_48 : decode c_D_weigh 48 = .ok (.aload_n 0, 1) := by decide +kernel
theorem d_D_weigh_49 : decode c_D_weigh 49 = .ok (.getfield 56, 3) := by decide +kernel
theorem d_D_weigh_52 : decode c_D_weigh 52 = .ok (.iload_n 1, 1) := by decide +kernel
theorem d_D_weigh_53 : decode c_D_weigh 53 = .ok (.iconst 1, 1) := by decide +kernel
theorem d_D_weigh_54 : decode c_D_weigh 54 = .ok (.iload_n 1, 1) := by decide +kernel
theorem d_D_weigh_55 : decode c_D_weigh 55 = .ok (.ishl, 1) := by decide +kernel
theorem d_D_weigh_56 : decode c_D_weigh 56 = .ok (.iastore, 1) := by decide +kernel
theorem d_D_weigh_57 : decode c_D_weigh 57 = .ok (.aload_n 0, 1) := by decide +kernel
theorem d_D_weigh_58 : decode c_D_weigh 58 = .ok (.iload_n 1, 1) := by decide +kernel
theorem d_D_weigh_59 : decode c_D_weigh 59 = .ok (.iconst 2, 1) := by decide +kernel
theorem d_D_weigh_60 : decode c_D_weigh 60 = .ok (.aload_n 0, 1) := by decide +kernel
theorem d_D_weigh_61 : decode c_D_weigh 61 = .ok (.getfield 13, 3) := by decide +kernel
theorem d_D_weigh_64 : decode c_D_weigh 64 = .ok (.iload_n 1, 1) := by decide +kernel
theorem d_D_weigh_65 : decode c_D_weigh 65 = .ok (.iaload, 1) := by decide +kernel
theorem d_D_weigh_66 : decode c_D_weigh 66 = .ok (.invokevirtual 150, 3) := by decide +kernel
theorem d_D_weigh_69 : decode c_D_weigh 69 = .ok (.aload_n 0, 1) := by decide +kernel
theorem d_D_weigh_70 : decode c_D_weigh 70 = .ok (.getfield 47, 3) := by decide +kernel
theorem d_D_weigh_73 : decode c_D_weigh 73 = .ok (.iload_n 1, 1) := by decide +kernel
theorem d_D_weigh_74 : decode c_D_weigh 74 = .ok (.iaload, 1) := by decide +kernel
theorem d_D_weigh_75 : decode c_D_weigh 75 = .ok (.iconst 2, 1) := by decide +kernel
theorem d_D_weigh_76 : decode c_D_weigh 76 = .ok (.if_icmp .ne (22), 3) := by decide +kernel
theorem d_D_weigh_79 : decode c_D_weigh 79 = .ok (.aload_n 0, 1) := by decide +kernel
theorem d_D_weigh_80 : decode c_D_weigh 80 = .ok (.iload_n 1, 1) := by decide +kernel
theorem d_D_weigh_81 : decode c_D_weigh 81 = .ok (.aload_n 0, 1) := by decide +kernel
theorem d_D_weigh_82 : decode c_D_weigh 82 = .ok (.getfield 56, 3) := by decide +kernel
theorem d_D_weigh_85 : decode c_D_weigh 85 = .ok (.iload_n 1, 1) := by decide +kernel
theorem d_D_weigh_86 : decode c_D_weigh 86 = .ok (.iaload, 1) := by decide +kernel
theorem d_D_weigh_87 : decode c_D_weigh 87 = .ok (.invokevirtual 157, 3) := by decide +kernel
theorem d_D_weigh_90 : decode c_D_weigh 90 = .ok (.ifCond .eq (8), 3) := by decide +kernel
theorem d_D_weigh_93 : decode c_D_weigh 93 = .ok (.aload_n 0, 1) := by decide +kernel
theorem d_D_weigh_94 : decode c_D_weigh 94 = .ok (.iload_n 1, 1) := by decide +kernel
theorem d_D_weigh_95 : decode c_D_weigh 95 = .ok (.invokevirtual 161, 3) := by decide +kernel
theorem d_D_weigh_98 : decode c_D_weigh 98 = .ok (.return_, 1) := by decide +kernel
theorem d_D_most_0 : decode c_D_most 0 = .ok (.aload_n 0, 1) := by decide +kernel
theorem d_D_most_1 : decode c_D_most 1 = .ok (.iload_n 1, 1) := by decide +kernel
theorem d_D_most_2 : decode c_D_most 2 = .ok (.invokevirtual 113, 3) := by decide +kernel
theorem d_D_most_5 : decode c_D_most 5 = .ok (.istore_n 3, 1) := by decide +kernel
theorem d_D_most_6 : decode c_D_most 6 = .ok (.iconst 2, 1) := by decide +kernel
theorem d_D_most_7 : decode c_D_most 7 = .ok (.iload_n 3, 1) := by decide +kernel
theorem d_D_most_8 : decode c_D_most 8 = .ok (.iload_n 2, 1) := by decide +kernel
theorem d_D_most_9 : decode c_D_most 9 = .ok (.iand, 1) := by decide +kernel
theorem d_D_most_10 : decode c_D_most 10 = .ok (.invokestatic 116, 3) := by decide +kernel
theorem d_D_most_13 : decode c_D_most 13 = .ok (.imul, 1) := by decide +kernel
theorem d_D_most_14 : decode c_D_most 14 = .ok (.iload_n 3, 1) := by decide +kernel
theorem d_D_most_15 : decode c_D_most 15 = .ok (.invokestatic 116, 3) := by decide +kernel
theorem d_D_most_18 : decode c_D_most 18 = .ok (.if_icmp .le (7), 3) := by decide +kernel
theorem d_D_most_21 : decode c_D_most 21 = .ok (.iconst 1, 1) := by decide +kernel
theorem d_D_most_22 : decode c_D_most 22 = .ok (.goto (4), 3) := by decide +kernel
theorem d_D_most_25 : decode c_D_most 25 = .ok (.iconst 0, 1) := by decide +kernel
theorem d_D_most_26 : decode c_D_most 26 = .ok (.ireturn, 1) := by decide +kernel
theorem d_D_count_0 : decode c_D_count 0 = .ok (.iconst 0, 1) := by decide +kernel
theorem d_D_count_1 : decode c_D_count 1 = .ok (.istore_n 1, 1) := by decide +kernel
theorem d_D_count_2 : decode c_D_count 2 = .ok (.iconst 0, 1) := by decide +kernel
theorem d_D_count_3 : decode c_D_count 3 = .ok (.istore_n 2, 1) := by decide +kernel
theorem d_D_count_4 : decode c_D_count 4 = .ok (.iload_n 2, 1) := by decide +kernel
theorem d_D_count_5 : decode c_D_count 5 = .ok (.iconst 5, 1) := by decide +kernel
theorem d_D_count_6 : decode c_D_count 6 = .ok (.if_icmp .ge (17), 3) := by decide +kernel
theorem d_D_count_9 : decode c_D_count 9 = .ok (.iload_n 1, 1) := by decide +kernel
theorem d_D_count_10 : decode c_D_count 10 = .ok (.iload_n 0, 1) := by decide +kernel
theorem d_D_count_11 : decode c_D_count 11 = .ok (.iload_n 2, 1) := by decide +kernel
theorem d_D_count_12 : decode c_D_count 12 = .ok (.ishr, 1) := by decide +kernel
theorem d_D_count_13 : decode c_D_count 13 = .ok (.iconst 1, 1) := by decide +kernel
theorem d_D_count_14 : decode c_D_count 14 = .ok (.iand, 1) := by decide +kernel
theorem d_D_count_15 : decode c_D_count 15 = .ok (.iadd, 1) := by decide +kernel
theorem d_D_count_16 : decode c_D_count 16 = .ok (.istore_n 1, 1) := by decide +kernel
theorem d_D_count_17 : decode c_D_count 17 = .ok (.iinc 2 (1), 3) := by decide +kernel
theorem d_D_count_20 : decode c_D_count 20 = .ok (.goto (-16), 3) := by decide +kernel
theorem d_D_count_23 : decode c_D_count 23 = .ok (.iload_n 1, 1) := by decide +kernel
theorem d_D_count_24 : decode c_D_count 24 = .ok (.ireturn, 1) := by decide +kernel
theorem d_D_lead_0 : decode c_D_lead 0 = .ok (.aload_n 0, 1) := by decide +kernel
theorem d_D_lead_1 : decode c_D_lead 1 = .ok (.getfield 47, 3) := by decide +kernel
theorem d_D_lead_4 : decode c_D_lead 4 = .ok (.iload_n 1, 1) := by decide +kernel
theorem d_D_lead_5 : decode c_D_lead 5 = .ok (.iconst 3, 1) := by decide +kernel
theorem d_D_lead_6 : decode c_D_lead 6 = .ok (.iastore, 1) := by decide +kernel
theorem d_D_lead_7 : decode c_D_lead 7 = .ok (.aload_n 0, 1) := by decide +kernel
theorem d_D_lead_8 : decode c_D_lead 8 = .ok (.getfield 68, 3) := by decide +kernel
theorem d_D_lead_11 : decode c_D_lead 11 = .ok (.iload_n 1, 1) := by decide +kernel
theorem d_D_lead_12 : decode c_D_lead 12 = .ok (.iconst 0, 1) := by decide +kernel
theorem d_D_lead_13 : decode c_D_lead 13 = .ok (.iastore, 1) := by decide +kernel
theorem d_D_lead_14 : decode c_D_lead 14 = .ok (.iconst 0, 1) := by decide +kernel
theorem d_D_lead_15 : decode c_D_lead 15 = .ok (.istore_n 2, 1) := by decide +kernel
theorem d_D_lead_16 : decode c_D_lead 16 = .ok (.iload_n 2, 1) := by decide +kernel
theorem d_D_lead_17 : decode c_D_lead 17 = .ok (.iconst 5, 1) := by decide +kernel
theorem d_D_lead_18 : decode c_D_lead 18 = .ok (.if_icmp .ge (48), 3) := by decide +kernel
theorem d_D_lead_21 : decode c_D_lead 21 = .ok (.aload_n 0, 1) := by decide +kernel
theorem d_D_lead_22 : decode c_D_lead 22 = .ok (.getfield 59, 3) := by decide +kernel
theorem d_D_lead_25 : decode c_D_lead 25 = .ok (.iconst 5, 1) := by decide +kernel
theorem d_D_lead_26 : decode c_D_lead 26 = .ok (.iload_n 1, 1) := by decide +kernel
theorem d_D_lead_27 : decode c_D_lead 27 = .ok (.imul, 1) := by decide +kernel
theorem d_D_lead_28 : decode c_D_lead 28 = .ok (.iload_n 2, 1) := by decide +kernel
theorem d_D_lead_29 : decode c_D_lead 29 = .ok (.iadd, 1) := by decide +kernel
theorem d_D_lead_30 : decode c_D_lead 30 = .ok (.aload_n 0, 1) := by decide +kernel
theorem d_D_lead_31 : decode c_D_lead 31 = .ok (.iload_n 1, 1) := by decide +kernel
theorem d_D_lead_32 : decode c_D_lead 32 = .ok (.invokevirtual 96, 3) := by decide +kernel
theorem d_D_lead_35 : decode c_D_lead 35 = .ok (.iconst 1, 1) := by decide +kernel
theorem d_D_lead_36 : decode c_D_lead 36 = .ok (.iadd, 1) := by decide +kernel
theorem d_D_lead_37 : decode c_D_lead 37 = .ok (.iastore, 1) := by decide +kernel
theorem d_D_lead_38 : decode c_D_lead 38 = .ok (.aload_n 0, 1) := by decide +kernel
theorem d_D_lead_39 : decode c_D_lead 39 = .ok (.getfield 62, 3) := by decide +kernel
theorem d_D_lead_42 : decode c_D_lead 42 = .ok (.iconst 5, 1) := by decide +kernel
theorem d_D_lead_43 : decode c_D_lead 43 = .ok (.iload_n 1, 1) := by decide +kernel
theorem d_D_lead_44 : decode c_D_lead 44 = .ok (.imul, 1) := by decide +kernel
theorem d_D_lead_45 : decode c_D_lead 45 = .ok (.iload_n 2, 1) := by decide +kernel
theorem d_D_lead_46 : decode c_D_lead 46 = .ok (.iadd, 1) := by decide +kernel
theorem d_D_lead_47 : decode c_D_lead 47 = .ok (.iconst 0, 1) := by decide +kernel
theorem d_D_lead_48 : decode c_D_lead 48 = .ok (.iastore, 1) := by decide +kernel
theorem d_D_lead_49 : decode c_D_lead 49 = .ok (.aload_n 0, 1) := by decide +kernel
theorem d_D_lead_50 : decode c_D_lead 50 = .ok (.getfield 65, 3) := by decide +kernel
theorem d_D_lead_53 : decode c_D_lead 53 = .ok (.iconst 5, 1) := by decide +kernel
theorem d_D_lead_54 : decode c_D_lead 54 = .ok (.iload_n 1, 1) := by decide +kernel
theorem d_D_lead_55 : decode c_D_lead 55 = .ok (.imul, 1) := by decide +kernel
theorem d_D_lead_56 : decode c_D_lead 56 = .ok (.iload_n 2, 1) := by decide +kernel
theorem d_D_lead_57 : decode c_D_lead 57 = .ok (.iadd, 1) := by decide +kernel
theorem d_D_lead_58 : decode c_D_lead 58 = .ok (.iconst 0, 1) := by decide +kernel
theorem d_D_lead_59 : decode c_D_lead 59 = .ok (.iastore, 1) := by decide +kernel
theorem d_D_lead_60 : decode c_D_lead 60 = .ok (.iinc 2 (1), 3) := by decide +kernel
theorem d_D_lead_63 : decode c_D_lead 63 = .ok (.goto (-47), 3) := by decide +kernel
theorem d_D_lead_66 : decode c_D_lead 66 = .ok (.aload_n 0, 1) := by decide +kernel
theorem d_D_lead_67 : decode c_D_lead 67 = .ok (.iload_n 1, 1) := by decide +kernel
theorem d_D_lead_68 : decode c_D_lead 68 = .ok (.iconst 0, 1) := by decide +kernel
theorem d_D_lead_69 : decode c_D_lead 69 = .ok (.iconst 0, 1) := by decide +kernel
theorem d_D_lead_70 : decode c_D_lead 70 = .ok (.iconst 0, 1) := by decide +kernel
theorem d_D_lead_71 : decode c_D_lead 71 = .ok (.invokevirtual 164, 3) := by decide +kernel
theorem d_D_lead_74 : decode c_D_lead 74 = .ok (.pop, 1) := by decide +kernel
theorem d_D_lead_75 : decode c_D_lead 75 = .ok (.return_, 1) := by decide +kernel
theorem d_D_append_0 : decode c_D_append 0 = .ok (.aload_n 0, 1) := by decide +kernel
theorem d_D_append_1 : decode c_D_append 1 = .ok (.iload_n 1, 1) := by decide +kernel
theorem d_D_append_2 : decode c_D_append 2 = .ok (.aload_n 0, 1) := by decide +kernel
theorem d_D_append_3 : decode c_D_append 3 = .ok (.getfield 13, 3) := by decide +kernel
theorem d_D_append_6 : decode c_D_append 6 = .ok (.iload_n 1, 1) := by decide +kernel
theorem d_D_append_7 : decode c_D_append 7 = .ok (.iaload, 1) := by decide +kernel
theorem d_D_append_8 : decode c_D_append 8 = .ok (.iload_n 2, 1) := by decide +kernel
theorem d_D_append_9 : decode c_D_append 9 = .ok (.iload_n 3, 1) := by decide +kernel
theorem d_D_append_10 : decode c_D_append 10 = .ok (.iload 4, 2) := by decide +kernel
theorem d_D_append_12 : decode c_D_append 12 = .ok (.invokevirtual 168, 3) := by decide +kernel
theorem d_D_append_15 : decode c_D_append 15 = .ok (.aload_n 0, 1) := by decide +kernel
theorem d_D_append_16 : decode c_D_append 16 = .ok (.iload_n 1, 1) := by decide +kernel
theorem d_D_append_17 : decode c_D_append 17 = .ok (.invokevirtual 96, 3) := by decide +kernel
theorem d_D_append_20 : decode c_D_append 20 = .ok (.istore 5, 2) := by decide +kernel
theorem d_D_append_22 : decode c_D_append 22 = .ok (.aload_n 0, 1) := by decide +kernel
theorem d_D_append_23 : decode c_D_append 23 = .ok (.iload_n 1, 1) := by decide +kernel
theorem d_D_append_24 : decode c_D_append 24 = .ok (.invokevirtual 172, 3) := by decide +kernel
theorem d_D_append_27 : decode c_D_append 27 = .ok (.aload_n 0, 1) := by decide +kernel
theorem d_D_append_28 : decode c_D_append 28 = .ok (.iload_n 1, 1) := by decide +kernel
theorem d_D_append_29 : decode c_D_append 29 = .ok (.invokevirtual 175, 3) := by decide +kernel
theorem d_D_append_32 : decode c_D_append 32 = .ok (.iload 5, 2) := by decide +kernel
theorem d_D_append_34 : decode c_D_append 34 = .ok (.ireturn, 1) := by decide +kernel
theorem d_D_push_0 : decode c_D_push 0 = .ok (.bipush (48), 2) := by decide +kernel
theorem d_D_push_2 : decode c_D_push 2 = .ok (.iload_n 1, 1) := by decide +kernel
theorem d_D_push_3 : decode c_D_push 3 = .ok (.imul, 1) := by decide +kernel
theorem d_D_push_4 : decode c_D_push 4 = .ok (.aload_n 0, 1) := by decide +kernel
theorem d_D_push_5 : decode c_D_push 5 = .ok (.getfield 32, 3) := by decide +kernel
theorem d_D_push_8 : decode c_D_push 8 = .ok (.iload_n 1, 1) := by decide +kernel
theorem d_D_push_9 : decode c_D_push 9 = .ok (.iaload, 1) := by decide +kernel
theorem d_D_push_10 : decode c_D_push 10 = .ok (.iadd, 1) := by decide +kernel
theorem d_D_push_11 : decode c_D_push 11 = .ok (.istore 6, 2) := by decide +kernel
theorem d_D_push_13 : decode c_D_push 13 = .ok (.aload_n 0, 1) := by decide +kernel
theorem d_D_push_14 : decode c_D_push 14 = .ok (.getfield 35, 3) := by decide +kernel
theorem d_D_push_17 : decode c_D_push 17 = .ok (.iload 6, 2) := by decide +kernel
theorem d_D_push_19 : decode c_D_push 19 = .ok (.iload_n 2, 1) := by decide +kernel
theorem d_D_push_20 : decode c_D_push 20 = .ok (.iastore, 1) := by decide +kernel
theorem d_D_push_21 : decode c_D_push 21 = .ok (.aload_n 0, 1) := by decide +kernel
theorem d_D_push_22 : decode c_D_push 22 = .ok (.getfield 38, 3) := by decide +kernel
theorem d_D_push_25 : decode c_D_push 25 = .ok (.iload 6, 2) := by decide +kernel
theorem d_D_push_27 : decode c_D_push 27 = .ok (.iload_n 3, 1) := by decide +kernel
theorem d_D_push_28 : decode c_D_push 28 = .ok (.iastore, 1) := by decide +kernel
theorem d_D_push_29 : decode c_D_push 29 = .ok (.aload_n 0, 1) := by decide +kernel
theorem d_D_push_30 : decode c_D_push 30 = .ok (.getfield 41, 3) := by decide +kernel
theorem d_D_push_33 : decode c_D_push 33 = .ok (.iload 6, 2) := by decide +kernel
theorem d_D_push_35 : decode c_D_push 35 = .ok (.iload 4, 2) := by decide +kernel
theorem d_D_push_37 : decode c_D_push 37 = .ok (.iastore, 1) := by decide +kernel
theorem d_D_push_38 : decode c_D_push 38 = .ok (.aload_n 0, 1) := by decide +kernel
theorem d_D_push_39 : decode c_D_push 39 = .ok (.getfield 44, 3) := by decide +kernel
theorem d_D_push_42 : decode c_D_push 42 = .ok (.iload 6, 2) := by decide +kernel
theorem d_D_push_44 : decode c_D_push 44 = .ok (.iload 5, 2) := by decide +kernel
theorem d_D_push_46 : decode c_D_push 46 = .ok (.iastore, 1) := by decide +kernel
theorem d_D_push_47 : decode c_D_push 47 = .ok (.aload_n 0, 1) := by decide +kernel
theorem d_D_push_48 : decode c_D_push 48 = .ok (.getfield 32, 3) := by decide +kernel
theorem d_D_push_51 : decode c_D_push 51 = .ok (.iload_n 1, 1) := by decide +kernel
theorem d_D_push_52 : decode c_D_push 52 = .ok (.dup2, 1) := by decide +kernel
theorem d_D_push_53 : decode c_D_push 53 = .ok (.iaload, 1) := by decide +kernel
theorem d_D_push_54 : decode c_D_push 54 = .ok (.iconst 1, 1) := by decide +kernel
theorem d_D_push_55 : decode c_D_push 55 = .ok (.iadd, 1) := by decide +kernel
theorem d_D_push_56 : decode c_D_push 56 = .ok (.iastore, 1) := by decide +kernel
theorem d_D_push_57 : decode c_D_push 57 = .ok (.return_, 1) := by decide +kernel
theorem d_D_lookAtCommit_0 : decode c_D_lookAtCommit 0 = .ok (.aload_n 0, 1) := by decide +kernel
theorem d_D_lookAtCommit_1 : decode c_D_lookAtCommit 1 = .ok (.getfield 50, 3) := by decide +kernel
theorem d_D_lookAtCommit_4 : decode c_D_lookAtCommit 4 = .ok (.iload_n 1, 1) := by decide +kernel
theorem d_D_lookAtCommit_5 : decode c_D_lookAtCommit 5 = .ok (.iaload, 1) := by decide +kernel
theorem d_D_lookAtCommit_6 : decode c_D_lookAtCommit 6 = .ok (.istore_n 2, 1) := by decide +kernel
theorem d_D_lookAtCommit_7 : decode c_D_lookAtCommit 7 = .ok (.aload_n 0, 1) := by decide +kernel
theorem d_D_lookAtCommit_8 : decode c_D_lookAtCommit 8 = .ok (.getfield 50, 3) := by decide +kernel
theorem d_D_lookAtCommit_11 : decode c_D_lookAtCommit 11 = .ok (.iload_n 1, 1) := by decide +kernel
theorem d_D_lookAtCommit_12 : decode c_D_lookAtCommit 12 = .ok (.iaload, 1) := by decide +kernel
theorem d_D_lookAtCommit_13 : decode c_D_lookAtCommit 13 = .ok (.iconst 1, 1) := by decide +kernel
theorem d_D_lookAtCommit_14 : decode c_D_lookAtCommit 14 = .ok (.iadd, 1) := by decide +kernel
theorem d_D_lookAtCommit_15 : decode c_D_lookAtCommit 15 = .ok (.istore_n 3, 1) := by decide +kernel
theorem d_D_lookAtCommit_16 : decode c_D_lookAtCommit 16 = .ok (.iload_n 3, 1) := by decide +kernel
theorem d_D_lookAtCommit_17 : decode c_D_lookAtCommit 17 = .ok (.aload_n 0, 1) := by decide +kernel
theorem d_D_lookAtCommit_18 : decode c_D_lookAtCommit 18 = .ok (.iload_n 1, 1) := by decide +kernel
theorem d_D_lookAtCommit_19 : decode c_D_lookAtCommit 19 = .ok (.invokevirtual 96, 3) := by decide +kernel
theorem d_D_lookAtCommit_22 : decode c_D_lookAtCommit 22 = .ok (.if_icmp .gt (40), 3) := by decide +kernel
theorem d_D_lookAtCommit_25 : decode c_D_lookAtCommit 25 = .ok (.aload_n 0, 1) := by decide +kernel
theorem d_D_lookAtCommit_26 : decode c_D_lookAtCommit 26 = .ok (.iload_n 1, 1) := by decide +kernel
theorem d_D_lookAtCommit_27 : decode c_D_lookAtCommit 27 = .ok (.iload_n 3, 1) := by decide +kernel
theorem d_D_lookAtCommit_28 : decode c_D_lookAtCommit 28 = .ok (.invokevirtual 104, 3) := by decide +kernel
theorem d_D_lookAtCommit_31 : decode c_D_lookAtCommit 31 = .ok (.aload_n 0, 1) := by decide +kernel
theorem d_D_lookAtCommit_32 : decode c_D_lookAtCommit 32 = .ok (.getfield 13, 3) := by decide +kernel
theorem d_D_lookAtCommit_35 : decode c_D_lookAtCommit 35 = .ok (.iload_n 1, 1) := by decide +kernel
theorem d_D_lookAtCommit_36 : decode c_D_lookAtCommit 36 = .ok (.iaload, 1) := by decide +kernel
theorem d_D_lookAtCommit_37 : decode c_D_lookAtCommit 37 = .ok (.if_icmp .ne (19), 3) := by decide +kernel
theorem d_D_lookAtCommit_40 : decode c_D_lookAtCommit 40 = .ok (.aload_n 0, 1) := by decide +kernel
theorem d_D_lookAtCommit_41 : decode c_D_lookAtCommit 41 = .ok (.iload_n 1, 1) := by decide +kernel
theorem d_D_lookAtCommit_42 : decode c_D_lookAtCommit 42 = .ok (.aload_n 0, 1) := by decide +kernel
theorem d_D_lookAtCommit_43 : decode c_D_lookAtCommit 43 = .ok (.iload_n 1, 1) := by decide +kernel
theorem d_D_lookAtCommit_44 : decode c_D_lookAtCommit 44 = .ok (.iload_n 3, 1) := by decide +kernel
theorem d_D_lookAtCommit_45 : decode c_D_lookAtCommit 45 = .ok (.invokevirtual 178, 3) := by decide +kernel
theorem d_D_lookAtCommit_48 : decode c_D_lookAtCommit 48 = .ok (.invokevirtual 157, 3) := by decide +kernel
theorem d_D_lookAtCommit_51 : decode c_D_lookAtCommit 51 = .ok (.ifCond .eq (5), 3) := by decide +kernel
theorem d_D_lookAtCommit_54 : decode c_D_lookAtCommit 54 = .ok (.iload_n 3, 1) := by decide +kernel
theorem d_D_lookAtCommit_55 : decode c_D_lookAtCommit 55 = .ok (.istore_n 2, 1) := by decide +kernel
theorem d_D_lookAtCommit_56 : decode c_D_lookAtCommit 56 = .ok (.iinc 3 (1), 3) := by decide +kernel
theorem d_D_lookAtCommit_59 : decode c_D_lookAtCommit 59 = .ok (.goto (-43), 3) := by decide +kernel
theorem d_D_lookAtCommit_62 : decode c_D_lookAtCommit 62 = .ok (.aload_n 0, 1) := by decide +kernel
theorem d_D_lookAtCommit_63 : decode c_D_lookAtCommit 63 = .ok (.getfield 50, 3) := by decide +kernel
theorem d_D_lookAtCommit_66 : decode c_D_lookAtCommit 66 = .ok (.iload_n 1, 1) := by decide +kernel
theorem d_D_lookAtCommit_67 : decode c_D_lookAtCommit 67 = .ok (.iload_n 2, 1) := by decide +kernel
theorem d_D_lookAtCommit_68 : decode c_D_lookAtCommit 68 = .ok (.iastore, 1) := by decide +kernel
theorem d_D_lookAtCommit_69 : decode c_D_lookAtCommit 69 = .ok (.aload_n 0, 1) := by decide +kernel
theorem d_D_lookAtCommit_70 : decode c_D_lookAtCommit 70 = .ok (.iload_n 1, 1) := by decide +kernel
theorem d_D_lookAtCommit_71 : decode c_D_lookAtCommit 71 = .ok (.aload_n 0, 1) := by decide +kernel
theorem d_D_lookAtCommit_72 : decode c_D_lookAtCommit 72 = .ok (.iload_n 1, 1) := by decide +kernel
theorem d_D_lookAtCommit_73 : decode c_D_lookAtCommit 73 = .ok (.invokevirtual 96, 3) := by decide +kernel
theorem d_D_lookAtCommit_76 : decode c_D_lookAtCommit 76 = .ok (.invokevirtual 107, 3) := by decide +kernel
theorem d_D_lookAtCommit_79 : decode c_D_lookAtCommit 79 = .ok (.istore_n 3, 1) := by decide +kernel
theorem d_D_lookAtCommit_80 : decode c_D_lookAtCommit 80 = .ok (.iload_n 3, 1) := by decide +kernel
theorem d_D_lookAtCommit_81 : decode c_D_lookAtCommit 81 = .ok (.ifCond .le (26), 3) := by decide +kernel
theorem d_D_lookAtCommit_84 : decode c_D_lookAtCommit 84 = .ok (.iload_n 3, 1) := by decide +kernel
theorem d_D_lookAtCommit_85 : decode c_D_lookAtCommit 85 = .ok (.aload_n 0, 1) := by decide +kernel
theorem d_D_lookAtCommit_86 : decode c_D_lookAtCommit 86 = .ok (.getfield 50, 3) := by decide +kernel
theorem d_D_lookAtCommit_89 : decode c_D_lookAtCommit 89 = .ok (.iload_n 1, 1) := by decide +kernel
theorem d_D_lookAtCommit_90 : decode c_D_lookAtCommit 90 = .ok (.iaload, 1) := by decide +kernel
theorem d_D_lookAtCommit_91 : decode c_D_lookAtCommit 91 = .ok (.if_icmp .gt (16), 3) := by decide +kernel
theorem d_D_lookAtCommit_94 : decode c_D_lookAtCommit 94 = .ok (.aload_n 0, 1) := by decide +kernel
theorem d_D_lookAtCommit_95 : decode c_D_lookAtCommit 95 = .ok (.iload_n 1, 1) := by decide +kernel
theorem d_D_lookAtCommit_96 : decode c_D_lookAtCommit 96 = .ok (.invokevirtual 147, 3) := by decide +kernel
theorem d_D_lookAtCommit_99 : decode c_D_lookAtCommit 99 = .ok (.ifCond .ne (8), 3) := by decide +kernel
theorem d_D_lookAtCommit_102 : decode c_D_lookAtCommit 102 = .ok (.aload_n 0, 1) := by decide +kernel
theorem d_D_lookAtCommit_103 : decode c_D_lookAtCommit 103 = .ok (.iload_n 1, 1) := by decide +kernel
theorem d_D_lookAtCommit_104 : decode c_D_lookAtCommit 104 = .ok (.invokevirtual 139, 3) := by decide +kernel
theorem d_D_lookAtCommit_107 : decode c_D_lookAtCommit 107 = .ok (.return_, 1) := by decide +kernel
theorem d_D_having_0 : decode c_D_having 0 = .ok (.iconst 1, 1) := by decide +kernel
theorem d_D_having_1 : decode c_D_having 1 = .ok (.iload_n 1, 1) := by decide +kernel
theorem d_D_having_2 : decode c_D_having 2 = .ok (.ishl, 1) := by decide +kernel
theorem d_D_having_3 : decode c_D_having 3 = .ok (.istore_n 3, 1) := by decide +kernel
theorem d_D_having_4 : decode c_D_having 4 = .ok (.iconst 0, 1) := by decide +kernel
theorem d_D_having_5 : decode c_D_having 5 = .ok (.istore 4, 2) := by decide +kernel
theorem d_D_having_7 : decode c_D_having 7 = .ok (.iload 4, 2) := by decide +kernel
theorem d_D_having_9 : decode c_D_having 9 = .ok (.iconst 5, 1) := by decide +kernel
theorem d_D_having_10 : decode c_D_having 10 = .ok (.if_icmp .ge (35), 3) := by decide +kernel
theorem d_D_having_13 : decode c_D_having 13 = .ok (.iload_n 3, 1) := by decide +kernel
theorem d_D_having_14 : decode c_D_having 14 = .ok (.aload_n 0, 1) := by decide +kernel
theorem d_D_having_15 : decode c_D_having 15 = .ok (.getfield 62, 3) := by decide +kernel
theorem d_D_having_18 : decode c_D_having 18 = .ok (.iconst 5, 1) := by decide +kernel
theorem d_D_having_19 : decode c_D_having 19 = .ok (.iload_n 1, 1) := by decide +kernel
theorem d_D_having_20 : decode c_D_having 20 = .ok (.imul, 1) := by decide +kernel
theorem d_D_having_21 : decode c_D_having 21 = .ok (.iload 4, 2) := by decide +kernel
theorem d_D_having_23 : decode c_D_having 23 = .ok (.iadd, 1) := by decide +kernel
theorem d_D_having_24 : decode c_D_having 24 = .ok (.iaload, 1) := by decide +kernel
theorem d_D_having_25 : decode c_D_having 25 = .ok (.iload_n 2, 1) := by decide +kernel
theorem d_D_having_26 : decode c_D_having 26 = .ok (.if_icmp .lt (10), 3) := by decide +kernel
theorem d_D_having_29 : decode c_D_having 29 = .ok (.iconst 1, 1) := by decide +kernel
theorem d_D_having_30 : decode c_D_having 30 = .ok (.iload 4, 2) := by decide +kernel
theorem d_D_having_32 : decode c_D_having 32 = .ok (.ishl, 1) := by decide +kernel
theorem d_D_having_33 : decode c_D_having 33 = .ok (.goto (4), 3) := by decide +kernel
theorem d_D_having_36 : decode c_D_having 36 = .ok (.iconst 0, 1) := by decide +kernel
theorem d_D_having_37 : decode c_D_having 37 = .ok (.ior, 1) := by decide +kernel
theorem d_D_having_38 : decode c_D_having 38 = .ok (.istore_n 3, 1) := by decide +kernel
theorem d_D_having_39 : decode c_D_having 39 = .ok (.iinc 4 (1), 3) := by decide +kernel
theorem d_D_having_42 : decode c_D_having 42 = .ok (.goto (-35), 3) := by decide +kernel
theorem d_D_having_45 : decode c_D_having 45 = .ok (.iload_n 3, 1) := by decide +kernel
theorem d_D_having_46 : decode c_D_having 46 = .ok (.ireturn, 1) := by decide +kernel
theorem d_D_follow_0 : decode c_D_follow 0 = .ok (.aload_n 0, 1) := by decide +kernel
theorem d_D_follow_1 : decode c_D_follow 1 = .ok (.getfield 47, 3) := by decide +kernel
theorem d_D_follow_4 : decode c_D_follow 4 = .ok (.iload_n 1, 1) := by decide +kernel
theorem d_D_follow_5 : decode c_D_follow 5 = .ok (.iaload, 1) := by decide +kernel
theorem d_D_follow_6 : decode c_D_follow 6 = .ok (.iconst 3, 1) := by decide +kernel
theorem d_D_follow_7 : decode c_D_follow 7 = .ok (.if_icmp .ne (7), 3) := by decide +kernel
theorem d_D_follow_10 : decode c_D_follow 10 = .ok (.iconst 1, 1) := by decide +kernel
theorem d_D_follow_11 : decode c_D_follow 11 = .ok (.goto (4), 3) := by decide +kernel
theorem d_D_follow_14 : decode c_D_follow 14 = .ok (.iconst 0, 1) := by decide +kernel
theorem d_D_follow_15 : decode c_D_follow 15 = .ok (.istore_n 2, 1) := by decide +kernel
theorem d_D_follow_16 : decode c_D_follow 16 = .ok (.aload_n 0, 1) := by decide +kernel
theorem d_D_follow_17 : decode c_D_follow 17 = .ok (.getfield 47, 3) := by decide +kernel
theorem d_D_follow_20 : decode c_D_follow 20 = .ok (.iload_n 1, 1) := by decide +kernel
theorem d_D_follow_21 : decode c_D_follow 21 = .ok (.iconst 0, 1) := by decide +kernel
theorem d_D_follow_22 : decode c_D_follow 22 = .ok (.iastore, 1) := by decide +kernel
theorem d_D_follow_23 : decode c_D_follow 23 = .ok (.iconst 0, 1) := by decide +kernel
theorem d_D_follow_24 : decode c_D_follow 24 = .ok (.istore_n 3, 1) := by decide +kernel
theorem d_D_follow_25 : decode c_D_follow 25 = .ok (.iload_n 3, 1) := by decide +kernel
theorem d_D_follow_26 : decode c_D_follow 26 = .ok (.aload_n 0, 1) := by decide +kernel
theorem d_D_follow_27 : decode c_D_follow 27 = .ok (.getfield 136, 3) := by decide +kernel
theorem d_D_follow_30 : decode c_D_follow 30 = .ok (.if_icmp .ge (39), 3) := by decide +kernel
theorem d_D_follow_33 : decode c_D_follow 33 = .ok (.iload_n 2, 1) := by decide +kernel
theorem d_D_follow_34 : decode c_D_follow 34 = .ok (.ifCond .eq (35), 3) := by decide +kernel
theorem d_D_follow_37 : decode c_D_follow 37 = .ok (.aload_n 0, 1) := by decide +kernel
theorem d_D_follow_38 : decode c_D_follow 38 = .ok (.getfield 71, 3) := by decide +kernel
theorem d_D_follow_41 : decode c_D_follow 41 = .ok (.iload_n 3, 1) := by decide +kernel
theorem d_D_follow_42 : decode c_D_follow 42 = .ok (.iaload, 1) := by decide +kernel
theorem d_D_follow_43 : decode c_D_follow 43 = .ok (.iload_n 1, 1) := by decide +kernel
theorem d_D_follow_44 : decode c_D_follow 44 = .ok (.if_icmp .ne (19), 3) := by decide +kernel
theorem d_D_follow_47 : decode c_D_follow 47 = .ok (.aload_n 0, 1) := by decide +kernel
theorem d_D_follow_48 : decode c_D_follow 48 = .ok (.getfield 80, 3) := by decide +kernel
theorem d_D_follow_51 : decode c_D_follow 51 = .ok (.iload_n 3, 1) := by decide +kernel
theorem d_D_follow_52 : decode c_D_follow 52 = .ok (.iaload, 1) := by decide +kernel
theorem d_D_follow_53 : decode c_D_follow 53 = .ok (.ifCond .ne (10), 3) := by decide +kernel
theorem d_D_follow_56 : decode c_D_follow 56 = .ok (.aload_n 0, 1) := by decide +kernel
theorem d_D_follow_57 : decode c_D_follow 57 = .ok (.getfield 80, 3) := by decide +kernel
theorem d_D_follow_60 : decode c_D_follow 60 = .ok (.iload_n 3, 1) := by decide +kernel
theorem d_D_follow_61 : decode c_D_follow 61 = .ok (.iconst 2, 1) := by decide +kernel
theorem d_D_follow_62 : decode c_D_follow 62 = .ok (.iastore, 1) := by decide +kernel
theorem d_D_follow_63 : decode c_D_follow 63 = .ok (.iinc 3 (1), 3) := by decide +kernel
theorem d_D_follow_66 : decode c_D_follow 66 = .ok (.goto (-41), 3) := by decide +kernel
theorem d_D_follow_69 : decode c_D_follow 69 = .ok (.return_, 1) := by decide +kernel
theorem d_D_sendAll_0 : decode c_D_sendAll 0 = .ok (.aload_n 0, 1) := by decide +kernel
theorem d_D_sendAll_1 : decode c_D_sendAll 1 = .ok (.iload_n 1, 1) := by decide +kernel
theorem d_D_sendAll_2 : decode c_D_sendAll 2 = .ok (.invokevirtual 113, 3) := by decide +kernel
theorem d_D_sendAll_5 : decode c_D_sendAll 5 = .ok (.istore_n 2, 1) := by decide +kernel
theorem d_D_sendAll_6 : decode c_D_sendAll 6 = .ok (.iconst 0, 1) := by decide +kernel
theorem d_D_sendAll_7 : decode c_D_sendAll 7 = .ok (.istore_n 3, 1) := by decide +kernel
theorem d_D_sendAll_8 : decode c_D_sendAll 8 = .ok (.iload_n 3, 1) := by decide +kernel
theorem d_D_sendAll_9 : decode c_D_sendAll 9 = .ok (.iconst 5, 1) := by decide +kernel
theorem d_D_sendAll_10 : decode c_D_sendAll 10 = .ok (.if_icmp .ge (29), 3) := by decide +kernel
theorem d_D_sendAll_13 : decode c_D_sendAll 13 = .ok (.iload_n 3, 1) := by decide +kernel
theorem d_D_sendAll_14 : decode c_D_sendAll 14 = .ok (.iload_n 1, 1) := by decide +kernel
theorem d_D_sendAll_15 : decode c_D_sendAll 15 = .ok (.if_icmp .eq (18), 3) := by decide +kernel
theorem d_D_sendAll_18 : decode c_D_sendAll 18 = .ok (.iload_n 2, 1) := by decide +kernel
theorem d_D_sendAll_19 : decode c_D_sendAll 19 = .ok (.iload_n 3, 1) := by decide +kernel
theorem d_D_sendAll_20 : decode c_D_sendAll 20 = .ok (.ishr, 1) := by decide +kernel
theorem d_D_sendAll_21 : decode c_D_sendAll 21 = .ok (.iconst 1, 1) := by decide +kernel
theorem d_D_sendAll_22 : decode c_D_sendAll 22 = .ok (.iand, 1) := by decide +kernel
theorem d_D_sendAll_23 : decode c_D_sendAll 23 = .ok (.iconst 1, 1) := by decide +kernel
theorem d_D_sendAll_24 : decode c_D_sendAll 24 = .ok (.if_icmp .ne (9), 3) := by decide +kernel
theorem d_D_sendAll_27 : decode c_D_sendAll 27 = .ok (.aload_n 0, 1) := by decide +kernel
theorem d_D_sendAll_28 : decode c_D_sendAll 28 = .ok (.iload_n 1, 1) := by decide +kernel
theorem d_D_sendAll_29 : decode c_D_sendAll 29 = .ok (.iload_n 3, 1) := by decide +kernel
theorem d_D_sendAll_30 : decode c_D_sendAll 30 = .ok (.invokevirtual 132, 3) := by decide +kernel
theorem d_D_sendAll_33 : decode c_D_sendAll 33 = .ok (.iinc 3 (1), 3) := by decide +kernel
theorem d_D_sendAll_36 : decode c_D_sendAll 36 = .ok (.goto (-28), 3) := by decide +kernel
theorem d_D_sendAll_39 : decode c_D_sendAll 39 = .ok (.return_, 1) := by decide +kernel
theorem d_D_sendTo_0 : decode c_D_sendTo 0 = .ok (.aload_n 0, 1) := by decide +kernel
theorem d_D_sendTo_1 : decode c_D_sendTo 1 = .ok (.getfield 59, 3) := by decide +kernel
theorem d_D_sendTo_4 : decode c_D_sendTo 4 = .ok (.iconst 5, 1) := by decide +kernel
theorem d_D_sendTo_5 : decode c_D_sendTo 5 = .ok (.iload_n 1, 1) := by decide +kernel
theorem d_D_sendTo_6 : decode c_D_sendTo 6 = .ok (.imul, 1) := by decide +kernel
theorem d_D_sendTo_7 : decode c_D_sendTo 7 = .ok (.iload_n 2, 1) := by decide +kernel
theorem d_D_sendTo_8 : decode c_D_sendTo 8 = .ok (.iadd, 1) := by decide +kernel
theorem d_D_sendTo_9 : decode c_D_sendTo 9 = .ok (.iaload, 1) := by decide +kernel
theorem d_D_sendTo_10 : decode c_D_sendTo 10 = .ok (.istore_n 3, 1) := by decide +kernel
theorem d_D_sendTo_11 : decode c_D_sendTo 11 = .ok (.iload_n 3, 1) := by decide +kernel
theorem d_D_sendTo_12 : decode c_D_sendTo 12 = .ok (.iconst 1, 1) := by decide +kernel
theorem d_D_sendTo_13 : decode c_D_sendTo 13 = .ok (.isub, 1) := by decide +kernel
theorem d_D_sendTo_14 : decode c_D_sendTo 14 = .ok (.aload_n 0, 1) := by decide +kernel
theorem d_D_sendTo_15 : decode c_D_sendTo 15 = .ok (.getfield 20, 3) := by decide +kernel
theorem d_D_sendTo_18 : decode c_D_sendTo 18 = .ok (.iload_n 1, 1) := by decide +kernel
theorem d_D_sendTo_19 : decode c_D_sendTo 19 = .ok (.iaload, 1) := by decide +kernel
theorem d_D_sendTo_20 : decode c_D_sendTo 20 = .ok (.if_icmp .ge (7), 3) := by decide +kernel
theorem d_D_sendTo_23 : decode c_D_sendTo 23 = .ok (.iconst 1, 1) := by decide +kernel
theorem d_D_sendTo_24 : decode c_D_sendTo 24 = .ok (.goto (4), 3) := by decide +kernel
theorem d_D_sendTo_27 : decode c_D_sendTo 27 = .ok (.iconst 0, 1) := by decide +kernel
theorem d_D_sendTo_28 : decode c_D_sendTo 28 = .ok (.istore 4, 2) := by decide +kernel
theorem d_D_sendTo_30 : decode c_D_sendTo 30 = .ok (.aload_n 0, 1) := by decide +kernel
theorem d_D_sendTo_31 : decode c_D_sendTo 31 = .ok (.iload 4, 2) := by decide +kernel
theorem d_D_sendTo_33 : decode c_D_sendTo 33 = .ok (.ifCond .eq (8), 3) := by decide +kernel
theorem d_D_sendTo_36 : decode c_D_sendTo 36 = .ok (.bipush (6), 2) := by decide +kernel
theorem d_D_sendTo_38 : decode c_D_sendTo 38 = .ok (.goto (4), 3) := by decide +kernel
theorem d_D_sendTo_41 : decode c_D_sendTo 41 = .ok (.iconst 4, 1) := by decide +kernel
theorem d_D_sendTo_42 : decode c_D_sendTo 42 = .ok (.iload_n 1, 1) := by decide +kernel
theorem d_D_sendTo_43 : decode c_D_sendTo 43 = .ok (.iload_n 2, 1) := by decide +kernel
theorem d_D_sendTo_44 : decode c_D_sendTo 44 = .ok (.aload_n 0, 1) := by decide +kernel
theorem d_D_sendTo_45 : decode c_D_sendTo 45 = .ok (.getfield 13, 3) := by decide +kernel
theorem d_D_sendTo_48 : decode c_D_sendTo 48 = .ok (.iload_n 1, 1) := by decide +kernel
theorem d_D_sendTo_49 : decode c_D_sendTo 49 = .ok (.iaload, 1) := by decide +kernel
theorem d_D_sendTo_50 : decode c_D_sendTo 50 = .ok (.invokevirtual 122, 3) := by decide +kernel
theorem d_D_sendTo_53 : decode c_D_sendTo 53 = .ok (.aload_n 0, 1) := by decide +kernel
theorem d_D_sendTo_54 : decode c_D_sendTo 54 = .ok (.getfield 89, 3) := by decide +kernel
theorem d_D_sendTo_57 : decode c_D_sendTo 57 = .ok (.bipush (9), 2) := by decide +kernel
theorem d_D_sendTo_59 : decode c_D_sendTo 59 = .ok (.aload_n 0, 1) := by decide +kernel
theorem d_D_sendTo_60 : decode c_D_sendTo 60 = .ok (.getfield 68, 3) := by decide +kernel
theorem d_D_sendTo_63 : decode c_D_sendTo 63 = .ok (.iload_n 1, 1) := by decide +kernel
theorem d_D_sendTo_64 : decode c_D_sendTo 64 = .ok (.iaload, 1) := by decide +kernel
theorem d_D_sendTo_65 : decode c_D_sendTo 65 = .ok (.iastore, 1) := by decide +kernel
theorem d_D_sendTo_66 : decode c_D_sendTo 66 = .ok (.aload_n 0, 1) := by decide +kernel
theorem d_D_sendTo_67 : decode c_D_sendTo 67 = .ok (.getfield 89, 3) := by decide +kernel
theorem d_D_sendTo_70 : decode c_D_sendTo 70 = .ok (.bipush (8), 2) := by decide +kernel
theorem d_D_sendTo_72 : decode c_D_sendTo 72 = .ok (.aload_n 0, 1) := by decide +kernel
theorem d_D_sendTo_73 : decode c_D_sendTo 73 = .ok (.getfield 50, 3) := by decide +kernel
theorem d_D_sendTo_76 : decode c_D_sendTo 76 = .ok (.iload_n 1, 1) := by decide +kernel
theorem d_D_sendTo_77 : decode c_D_sendTo 77 = .ok (.iaload, 1) := by decide +kernel
theorem d_D_sendTo_78 : decode c_D_sendTo 78 = .ok (.iastore, 1) := by decide +kernel
theorem d_D_sendTo_79 : decode c_D_sendTo 79 = .ok (.aload_n 0, 1) := by decide +kernel
theorem d_D_sendTo_80 : decode c_D_sendTo 80 = .ok (.getfield 89, 3) := by decide +kernel
theorem d_D_sendTo_83 : decode c_D_sendTo 83 = .ok (.iconst 4, 1) := by decide +kernel
theorem d_D_sendTo_84 : decode c_D_sendTo 84 = .ok (.iload 4, 2) := by decide +kernel
theorem d_D_sendTo_86 : decode c_D_sendTo 86 = .ok (.ifCond .eq (12), 3) := by decide +kernel
theorem d_D_sendTo_89 : decode c_D_sendTo 89 = .ok (.aload_n 0, 1) := by decide +kernel
theorem d_D_sendTo_90 : decode c_D_sendTo 90 = .ok (.getfield 20, 3) := by decide +kernel
theorem d_D_sendTo_93 : decode c_D_sendTo 93 = .ok (.iload_n 1, 1) := by decide +kernel
theorem d_D_sendTo_94 : decode c_D_sendTo 94 = .ok (.iaload, 1) := by decide +kernel
theorem d_D_sendTo_95 : decode c_D_sendTo 95 = .ok (.goto (6), 3) := by decide +kernel
theorem d_D_sendTo_98 : decode c_D_sendTo 98 = .ok (.iload_n 3, 1) := by decide +kernel
theorem d_D_sendTo_99 : decode c_D_sendTo 99 = .ok (.iconst 1, 1) := by decide +kernel
theorem d_D_sendTo_100 : decode c_D_sendTo 100 = .ok (.isub, 1) := by decide +kernel
theorem d_D_sendTo_101 : decode c_D_sendTo 101 = .ok (.iastore, 1) := by decide +kernel
theorem d_D_sendTo_102 : decode c_D_sendTo 102 = .ok (.aload_n 0, 1) := by decide +kernel
theorem d_D_sendTo_103 : decode c_D_sendTo 103 = .ok (.getfield 89, 3) := by decide +kernel
theorem d_D_sendTo_106 : decode c_D_sendTo 106 = .ok (.iconst 5, 1) := by decide +kernel
theorem d_D_sendTo_107 : decode c_D_sendTo 107 = .ok (.iload 4, 2) := by decide +kernel
theorem d_D_sendTo_109 : decode c_D_sendTo 109 = .ok (.ifCond .eq (12), 3) := by decide +kernel
theorem d_D_sendTo_112 : decode c_D_sendTo 112 = .ok (.aload_n 0, 1) := by decide +kernel
theorem d_D_sendTo_113 : decode c_D_sendTo 113 = .ok (.getfield 23, 3) := by decide +kernel
theorem d_D_sendTo_116 : decode c_D_sendTo 116 = .ok (.iload_n 1, 1) := by decide +kernel
theorem d_D_sendTo_117 : decode c_D_sendTo 117 = .ok (.iaload, 1) := by decide +kernel
theorem d_D_sendTo_118 : decode c_D_sendTo 118 = .ok (.goto (11), 3) := by decide +kernel
theorem d_D_sendTo_121 : decode c_D_sendTo 121 = .ok (.aload_n 0, 1) := by decide +kernel
theorem d_D_sendTo_122 : decode c_D_sendTo 122 = .ok (.iload_n 1, 1) := by decide +kernel
theorem d_D_sendTo_123 : decode c_D_sendTo 123 = .ok (.iload_n 3, 1) := by decide +kernel
theorem d_D_sendTo_124 : decode c_D_sendTo 124 = .ok (.iconst 1, 1) := by decide +kernel
theorem d_D_sendTo_125 : decode c_D_sendTo 125 = .ok (.isub, 1) := by decide +kernel
theorem d_D_sendTo_126 : decode c_D_sendTo 126 = .ok (.invokevirtual 104, 3) := by decide +kernel
theorem d_D_sendTo_129 : decode c_D_sendTo 129 = .ok (.iastore, 1) := by decide +kernel
theorem d_D_sendTo_130 : decode c_D_sendTo 130 = .ok (.iload 4, 2) := by decide +kernel
theorem d_D_sendTo_132 : decode c_D_sendTo 132 = .ok (.ifCond .eq (55), 3) := by decide +kernel
theorem d_D_sendTo_135 : decode c_D_sendTo 135 = .ok (.aload_n 0, 1) := by decide +kernel
theorem d_D_sendTo_136 : decode c_D_sendTo 136 = .ok (.getfield 89, 3) := by decide +kernel
theorem d_D_sendTo_139 : decode c_D_sendTo 139 = .ok (.bipush (10), 2) := by decide +kernel
theorem d_D_sendTo_141 : decode c_D_sendTo 141 = .ok (.aload_n 0, 1) := by decide +kernel
theorem d_D_sendTo_142 : decode c_D_sendTo 142 = .ok (.getfield 26, 3) := by decide +kernel
theorem d_D_sendTo_145 : decode c_D_sendTo 145 = .ok (.iload_n 1, 1) := by decide +kernel
theorem d_D_sendTo_146 : decode c_D_sendTo 146 = .ok (.iaload, 1) := by decide +kernel
theorem d_D_sendTo_147 : decode c_D_sendTo 147 = .ok (.iastore, 1) := by decide +kernel
theorem d_D_sendTo_148 : decode c_D_sendTo 148 = .ok (.iconst 0, 1) := by decide +kernel
theorem d_D_sendTo_149 : decode c_D_sendTo 149 = .ok (.istore 5, 2) := by decide +kernel
theorem d_D_sendTo_151 : decode c_D_sendTo 151 = .ok (.iload 5, 2) := by decide +kernel
theorem d_D_sendTo_153 : decode c_D_sendTo 153 = .ok (.iconst 4, 1) := by decide +kernel
theorem d_D_sendTo_154 : decode c_D_sendTo 154 = .ok (.if_icmp .ge (30), 3) := by decide +kernel
theorem d_D_sendTo_157 : decode c_D_sendTo 157 = .ok (.aload_n 0, 1) := by decide +kernel
theorem d_D_sendTo_158 : decode c_D_sendTo 158 = .ok (.getfield 89, 3) := by decide +kernel
theorem d_D_sendTo_161 : decode c_D_sendTo 161 = .ok (.bipush (11), 2) := by decide +kernel
theorem d_D_sendTo_163 : decode c_D_sendTo 163 = .ok (.iload 5, 2) := by decide +kernel
theorem d_D_sendTo_165 : decode c_D_sendTo 165 = .ok (.iadd, 1) := by decide +kernel
theorem d_D_sendTo_166 : decode c_D_sendTo 166 = .ok (.aload_n 0, 1) := by decide +kernel
theorem d_D_sendTo_167 : decode c_D_sendTo 167 = .ok (.getfield 29, 3) := by decide +kernel
theorem d_D_sendTo_170 : decode c_D_sendTo 170 = .ok (.iconst 4, 1) := by decide +kernel
theorem d_D_sendTo_171 : decode c_D_sendTo 171 = .ok (.iload_n 1, 1) := by decide +kernel
theorem d_D_sendTo_172 : decode c_D_sendTo 172 = .ok (.imul, 1) := by decide +kernel
theorem d_D_sendTo_173 : decode c_D_sendTo 173 = .ok (.iload 5, 2) := by decide +kernel
theorem d_D_sendTo_175 : decode c_D_sendTo 175 = .ok (.iadd, 1) := by decide +kernel
theorem d_D_sendTo_176 : decode c_D_sendTo 176 = .ok (.iaload, 1) := by decide +kernel
theorem d_D_sendTo_177 : decode c_D_sendTo 177 = .ok (.iastore, 1) := by decide +kernel
theorem d_D_sendTo_178 : decode c_D_sendTo 178 = .ok (.iinc 5 (1), 3) := by decide +kernel
theorem d_D_sendTo_181 : decode c_D_sendTo 181 = .ok (.goto (-30), 3) := by decide +kernel
theorem d_D_sendTo_184 : decode c_D_sendTo 184 = .ok (.goto (129), 3) := by decide +kernel
theorem d_D_sendTo_187 : decode c_D_sendTo 187 = .ok (.iload_n 3, 1) := by decide +kernel
theorem d_D_sendTo_188 : decode c_D_sendTo 188 = .ok (.istore 5, 2) := by decide +kernel
theorem d_D_sendTo_190 : decode c_D_sendTo 190 = .ok (.iload 5, 2) := by decide +kernel
theorem d_D_sendTo_192 : decode c_D_sendTo 192 = .ok (.aload_n 0, 1) := by decide +kernel
theorem d_D_sendTo_193 : decode c_D_sendTo 193 = .ok (.iload_n 1, 1) := by decide +kernel
theorem d_D_sendTo_194 : decode c_D_sendTo 194 = .ok (.invokevirtual 96, 3) := by decide +kernel
theorem d_D_sendTo_197 : decode c_D_sendTo 197 = .ok (.if_icmp .gt (116), 3) := by decide +kernel
theorem d_D_sendTo_200 : decode c_D_sendTo 200 = .ok (.aload_n 0, 1) := by decide +kernel
theorem d_D_sendTo_201 : decode c_D_sendTo 201 = .ok (.getfield 89, 3) := by decide +kernel
theorem d_D_sendTo_204 : decode c_D_sendTo 204 = .ok (.bipush (7), 2) := by decide +kernel
theorem d_D_sendTo_206 : decode c_D_sendTo 206 = .ok (.iaload, 1) := by decide +kernel
theorem d_D_sendTo_207 : decode c_D_sendTo 207 = .ok (.iconst 2, 1) := by decide +kernel
theorem d_D_sendTo_208 : decode c_D_sendTo 208 = .ok (.if_icmp .ge (105), 3) := by decide +kernel
theorem d_D_sendTo_211 : decode c_D_sendTo 211 = .ok (.aload_n 0, 1) := by decide +kernel
theorem d_D_sendTo_212 : decode c_D_sendTo 212 = .ok (.iload_n 1, 1) := by decide +kernel
theorem d_D_sendTo_213 : decode c_D_sendTo 213 = .ok (.iload 5, 2) := by decide +kernel
theorem d_D_sendTo_215 : decode c_D_sendTo 215 = .ok (.invokevirtual 100, 3) := by decide +kernel
theorem d_D_sendTo_218 : decode c_D_sendTo 218 = .ok (.istore 6, 2) := by decide +kernel
theorem d_D_sendTo_220 : decode c_D_sendTo 220 = .ok (.bipush (10), 2) := by decide +kernel
theorem d_D_sendTo_222 : decode c_D_sendTo 222 = .ok (.iconst 4, 1) := by decide +kernel
theorem d_D_sendTo_223 : decode c_D_sendTo 223 = .ok (.aload_n 0, 1) := by decide +kernel
theorem d_D_sendTo_224 : decode c_D_sendTo 224 = .ok (.getfield 89, 3) := by decide +kernel
theorem d_D_sendTo_227 : decode c_D_sendTo 227 = .ok (.bipush (7), 2) := by decide +kernel
theorem d_D_sendTo_229 : decode c_D_sendTo 229 = .ok (.iaload, 1) := by decide +kernel
theorem d_D_sendTo_230 : decode c_D_sendTo 230 = .ok (.imul, 1) := by decide +kernel
theorem d_D_sendTo_231 : decode c_D_sendTo 231 = .ok (.iadd, 1) := by decide +kernel
theorem d_D_sendTo_232 : decode c_D_sendTo 232 = .ok (.istore 7, 2) := by decide +kernel
theorem d_D_sendTo_234 : decode c_D_sendTo 234 = .ok (.aload_n 0, 1) := by decide +kernel
theorem d_D_sendTo_235 : decode c_D_sendTo 235 = .ok (.getfield 89, 3) := by decide +kernel
theorem d_D_sendTo_238 : decode c_D_sendTo 238 = .ok (.iload 7, 2) := by decide +kernel
theorem d_D_sendTo_240 : decode c_D_sendTo 240 = .ok (.aload_n 0, 1) := by decide +kernel
theorem d_D_sendTo_241 : decode c_D_sendTo 241 = .ok (.getfield 35, 3) := by decide +kernel
theorem d_D_sendTo_244 : decode c_D_sendTo 244 = .ok (.iload 6, 2) := by decide +kernel
theorem d_D_sendTo_246 : decode c_D_sendTo 246 = .ok (.iaload, 1) := by decide +kernel
theorem d_D_sendTo_247 : decode c_D_sendTo 247 = .ok (.iastore, 1) := by decide +kernel
theorem d_D_sendTo_248 : decode c_D_sendTo 248 = .ok (.aload_n 0, 1) := by decide +kernel
theorem d_D_sendTo_249 : decode c_D_sendTo 249 = .ok (.getfield 89, 3) := by decide +kernel
theorem d_D_sendTo_252 : decode c_D_sendTo 252 = .ok (.iload 7, 2) := by decide +kernel
theorem d_D_sendTo_254 : decode c_D_sendTo 254 = .ok (.iconst 1, 1) := by decide +kernel
theorem d_D_sendTo_255 : decode c_D_sendTo 255 = .ok (.iadd, 1) := by decide +kernel
theorem d_D_sendTo_256 : decode c_D_sendTo 256 = .ok (.aload_n 0, 1) := by decide +kernel
theorem d_D_sendTo_257 : decode c_D_sendTo 257 = .ok (.getfield 38, 3) := by decide +kernel
theorem d_D_sendTo_260 : decode c_D_sendTo 260 = .ok (.iload 6, 2) := by decide +kernel
theorem d_D_sendTo_262 : decode c_D_sendTo 262 = .ok (.iaload, 1) := by decide +kernel
theorem d_D_sendTo_263 : decode c_D_sendTo 263 = .ok (.iastore, 1) := by decide +kernel
theorem d_D_sendTo_264 : decode c_D_sendTo 264 = .ok (.aload_n 0, 1) := by decide +kernel
theorem d_D_sendTo_265 : decode c_D_sendTo 265 = .ok (.getfield 89, 3) := by decide +kernel
theorem d_D_sendTo_268 : decode c_D_sendTo 268 = .ok (.iload 7, 2) := by decide +kernel
theorem d_D_sendTo_270 : decode c_D_sendTo 270 = .ok (.iconst 2, 1) := by decide +kernel
theorem d_D_sendTo_271 : decode c_D_sendTo 271 = .ok (.iadd, 1) := by decide +kernel
theorem d_D_sendTo_272 : decode c_D_sendTo 272 = .ok (.aload_n 0, 1) := by decide +kernel
theorem d_D_sendTo_273 : decode c_D_sendTo 273 = .ok (.getfield 41, 3) := by decide +kernel
theorem d_D_sendTo_276 : decode c_D_sendTo 276 = .ok (.iload 6, 2) := by decide +kernel
theorem d_D_sendTo_278 : decode c_D_sendTo 278 = .ok (.iaload, 1) := by decide +kernel
theorem d_D_sendTo_279 : decode c_D_sendTo 279 = .ok (.iastore, 1) := by decide +kernel
theorem d_D_sendTo_280 : decode c_D_sendTo 280 = .ok (.aload_n 0, 1) := by decide +kernel
theorem d_D_sendTo_281 : decode c_D_sendTo 281 = .ok (.getfield 89, 3) := by decide +kernel
theorem d_D_sendTo_284 : decode c_D_sendTo 284 = .ok (.iload 7, 2) := by decide +kernel
theorem d_D_sendTo_286 : decode c_D_sendTo 286 = .ok (.iconst 3, 1) := by decide +kernel
theorem d_D_sendTo_287 : decode c_D_sendTo 287 = .ok (.iadd, 1) := by decide +kernel
theorem d_D_sendTo_288 : decode c_D_sendTo 288 = .ok (.aload_n 0, 1) := by decide +kernel
theorem d_D_sendTo_289 : decode c_D_sendTo 289 = .ok (.getfield 44, 3) := by decide +kernel
theorem d_D_sendTo_292 : decode c_D_sendTo 292 = .ok (.iload 6, 2) := by decide +kernel
theorem d_D_sendTo_294 : decode c_D_sendTo 294 = .ok (.iaload, 1) := by decide +kernel
theorem d_D_sendTo_295 : decode c_D_sendTo 295 = .ok (.iastore, 1) := by decide +kernel
theorem d_D_sendTo_296 : decode c_D_sendTo 296 = .ok (.aload_n 0, 1) := by decide +kernel
theorem d_D_sendTo_297 : decode c_D_sendTo 297 = .ok (.getfield 89, 3) := by decide +kernel
theorem d_D_sendTo_300 : decode c_D_sendTo 300 = .ok (.bipush (7), 2) := by decide +kernel
theorem d_D_sendTo_302 : decode c_D_sendTo 302 = .ok (.dup2, 1) := by decide +kernel
theorem d_D_sendTo_303 : decode c_D_sendTo 303 = .ok (.iaload, 1) := by decide +kernel
theorem d_D_sendTo_304 : decode c_D_sendTo 304 = .ok (.iconst 1, 1) := by decide +kernel
theorem d_D_sendTo_305 : decode c_D_sendTo 305 = .ok (.iadd, 1) := by decide +kernel
theorem d_D_sendTo_306 : decode c_D_sendTo 306 = .ok (.iastore, 1) := by decide +kernel
theorem d_D_sendTo_307 : decode c_D_sendTo 307 = .ok (.iinc 5 (1), 3) := by decide +kernel
theorem d_D_sendTo_310 : decode c_D_sendTo 310 = .ok (.goto (-120), 3) := by decide +kernel
theorem d_D_sendTo_313 : decode c_D_sendTo 313 = .ok (.aload_n 0, 1) := by decide +kernel
theorem d_D_sendTo_314 : decode c_D_sendTo 314 = .ok (.invokevirtual 129, 3) := by decide +kernel
theorem d_D_sendTo_317 : decode c_D_sendTo 317 = .ok (.return_, 1) := by decide +kernel
theorem d_D_beat_0 : decode c_D_beat 0 = .ok (.aload_n 0, 1) := by decide +kernel
theorem d_D_beat_1 : decode c_D_beat 1 = .ok (.iconst 0, 1) := by decide +kernel
theorem d_D_beat_2 : decode c_D_beat 2 = .ok (.putfield 92, 3) := by decide +kernel
theorem d_D_beat_5 : decode c_D_beat 5 = .ok (.iload_n 1, 1) := by decide +kernel
theorem d_D_beat_6 : decode c_D_beat 6 = .ok (.invokestatic 143, 3) := by decide +kernel
theorem d_D_beat_9 : decode c_D_beat 9 = .ok (.ifCond .eq (11), 3) := by decide +kernel
theorem d_D_beat_12 : decode c_D_beat 12 = .ok (.aload_n 0, 1) := by decide +kernel
theorem d_D_beat_13 : decode c_D_beat 13 = .ok (.iload_n 1, 1) := by decide +kernel
theorem d_D_beat_14 : decode c_D_beat 14 = .ok (.invokevirtual 185, 3) := by decide +kernel
theorem d_D_beat_17 : decode c_D_beat 17 = .ok (.ifCond .ne (5), 3) := by decide +kernel
theorem d_D_beat_20 : decode c_D_beat 20 = .ok (.iconst 0, 1) := by decide +kernel
theorem d_D_beat_21 : decode c_D_beat 21 = .ok (.ireturn, 1) := by decide +kernel
theorem d_D_beat_22 : decode c_D_beat 22 = .ok (.aload_n 0, 1) := by decide +kernel
theorem d_D_beat_23 : decode c_D_beat 23 = .ok (.iload_n 1, 1) := by decide +kernel
theorem d_D_beat_24 : decode c_D_beat 24 = .ok (.invokevirtual 175, 3) := by decide +kernel
theorem d_D_beat_27 : decode c_D_beat 27 = .ok (.iconst 1, 1) := by decide +kernel
theorem d_D_beat_28 : decode c_D_beat 28 = .ok (.ireturn, 1) := by decide +kernel
theorem d_D_leads_0 : decode c_D_leads 0 = .ok (.aload_n 0, 1) := by decide +kernel
theorem d_D_leads_1 : decode c_D_leads 1 = .ok (.getfield 7, 3) := by decide +kernel
theorem d_D_leads_4 : decode c_D_leads 4 = .ok (.iload_n 1, 1) := by decide +kernel
theorem d_D_leads_5 : decode c_D_leads 5 = .ok (.baload, 1) := by decide +kernel
theorem d_D_leads_6 : decode c_D_leads 6 = .ok (.ifCond .ne (17), 3) := by decide +kernel
theorem d_D_leads_9 : decode c_D_leads 9 = .ok (.aload_n 0, 1) := by decide +kernel
theorem d_D_leads_10 : decode c_D_leads 10 = .ok (.getfield 47, 3) := by decide +kernel
theorem d_D_leads_13 : decode c_D_leads 13 = .ok (.iload_n 1, 1) := by decide +kernel
theorem d_D_leads_14 : decode c_D_leads 14 = .ok (.iaload, 1) := by decide +kernel
theorem d_D_leads_15 : decode c_D_leads 15 = .ok (.iconst 3, 1) := by decide +kernel
theorem d_D_leads_16 : decode c_D_leads 16 = .ok (.if_icmp .ne (7), 3) := by decide +kernel
theorem d_D_leads_19 : decode c_D_leads 19 = .ok (.iconst 1, 1) := by decide +kernel
theorem d_D_leads_20 : decode c_D_leads 20 = .ok (.goto (4), 3) := by decide +kernel
theorem d_D_leads_23 : decode c_D_leads 23 = .ok (.iconst 0, 1) := by decide +kernel
theorem d_D_leads_24 : decode c_D_leads 24 = .ok (.ireturn, 1) := by decide +kernel
theorem d_D_put_0 : decode c_D_put 0 = .ok (.aload_n 0, 1) := by decide +kernel
theorem d_D_put_1 : decode c_D_put 1 = .ok (.iconst 0, 1) := by decide +kernel
theorem d_D_put_2 : decode c_D_put 2 = .ok (.putfield 92, 3) := by decide +kernel
theorem d_D_put_5 : decode c_D_put 5 = .ok (.iload_n 1, 1) := by decide +kernel
theorem d_D_put_6 : decode c_D_put 6 = .ok (.invokestatic 143, 3) := by decide +kernel
theorem d_D_put_9 : decode c_D_put 9 = .ok (.ifCond .eq (10), 3) := by decide +kernel
theorem d_D_put_12 : decode c_D_put 12 = .ok (.iload_n 2, 1) := by decide +kernel
theorem d_D_put_13 : decode c_D_put 13 = .ok (.invokestatic 188, 3) := by decide +kernel
theorem d_D_put_16 : decode c_D_put 16 = .ok (.ifCond .ne (9), 3) := by decide +kernel
theorem d_D_put_19 : decode c_D_put 19 = .ok (.aload_n 0, 1) := by decide +kernel
theorem d_D_put_20 : decode c_D_put 20 = .ok (.iconst 1, 1) := by decide +kernel
theorem d_D_put_21 : decode c_D_put 21 = .ok (.invokevirtual 191, 3) := by decide +kernel
theorem d_D_put_24 : decode c_D_put 24 = .ok (.ireturn, 1) := by decide +kernel
theorem d_D_put_25 : decode c_D_put 25 = .ok (.aload_n 0, 1) := by decide +kernel
theorem d_D_put_26 : decode c_D_put 26 = .ok (.iload_n 1, 1) := by decide +kernel
theorem d_D_put_27 : decode c_D_put 27 = .ok (.invokevirtual 185, 3) := by decide +kernel
theorem d_D_put_30 : decode c_D_put 30 = .ok (.ifCond .ne (9), 3) := by decide +kernel
theorem d_D_put_33 : decode c_D_put 33 = .ok (.aload_n 0, 1) := by decide +kernel
theorem d_D_put_34 : decode c_D_put 34 = .ok (.iconst 2, 1) := by decide +kernel
theorem d_D_put_35 : decode c_D_put 35 = .ok (.invokevirtual 191, 3) := by decide +kernel
theorem d_D_put_38 : decode c_D_put 38 = .ok (.ireturn, 1) := by decide +kernel
theorem d_D_put_39 : decode c_D_put 39 = .ok (.aload_n 0, 1) := by decide +kernel
theorem d_D_put_40 : decode c_D_put 40 = .ok (.getfield 32, 3) := by decide +kernel
theorem d_D_put_43 : decode c_D_put 43 = .ok (.iload_n 1, 1) := by decide +kernel
theorem d_D_put_44 : decode c_D_put 44 = .ok (.iaload, 1) := by decide +kernel
theorem d_D_put_45 : decode c_D_put 45 = .ok (.bipush (24), 2) := by decide +kernel
theorem d_D_put_47 : decode c_D_put 47 = .ok (.if_icmp .lt (9), 3) := by decide +kernel
theorem d_D_put_50 : decode c_D_put 50 = .ok (.aload_n 0, 1) := by decide +kernel
theorem d_D_put_51 : decode c_D_put 51 = .ok (.iconst 3, 1) := by decide +kernel
theorem d_D_put_52 : decode c_D_put 52 = .ok (.invokevirtual 191, 3) := by decide +kernel
theorem d_D_put_55 : decode c_D_put 55 = .ok (.ireturn, 1) := by decide +kernel
theorem d_D_put_56 : decode c_D_put 56 = .ok (.aload_n 0, 1) := by decide +kernel
theorem d_D_put_57 : decode c_D_put 57 = .ok (.iload_n 1, 1) := by decide +kernel
theorem d_D_put_58 : decode c_D_put 58 = .ok (.iconst 1, 1) := by decide +kernel
theorem d_D_put_59 : decode c_D_put 59 = .ok (.iload_n 2, 1) := by decide +kernel
theorem d_D_put_60 : decode c_D_put 60 = .ok (.iload_n 3, 1) := by decide +kernel
theorem d_D_put_61 : decode c_D_put 61 = .ok (.invokevirtual 164, 3) := by decide +kernel
theorem d_D_put_64 : decode c_D_put 64 = .ok (.ireturn, 1) := by decide +kernel
theorem d_D_isKey_0 : decode c_D_isKey 0 = .ok (.iload_n 0, 1) := by decide +kernel
theorem d_D_isKey_1 : decode c_D_isKey 1 = .ok (.ifCond .lt (12), 3) := by decide +kernel
theorem d_D_isKey_4 : decode c_D_isKey 4 = .ok (.iload_n 0, 1) := by decide +kernel
theorem d_D_isKey_5 : decode c_D_isKey 5 = .ok (.iconst 4, 1) := by decide +kernel
theorem d_D_isKey_6 : decode c_D_isKey 6 = .ok (.if_icmp .ge (7), 3) := by decide +kernel
theorem d_D_isKey_9 : decode c_D_isKey 9 = .ok (.iconst 1, 1) := by decide +kernel
theorem d_D_isKey_10 : decode c_D_isKey 10 = .ok (.goto (4), 3) := by decide +kernel
theorem d_D_isKey_13 : decode c_D_isKey 13 = .ok (.iconst 0, 1) := by decide +kernel
theorem d_D_isKey_14 : decode c_D_isKey 14 = .ok (.ireturn, 1) := by decide +kernel
theorem d_D_fail_0 : decode c_D_fail 0 = .ok (.aload_n 0, 1) := by decide +kernel
theorem d_D_fail_1 : decode c_D_fail 1 = .ok (.iload_n 1, 1) := by decide +kernel
theorem d_D_fail_2 : decode c_D_fail 2 = .ok (.putfield 92, 3) := by decide +kernel
theorem d_D_fail_5 : decode c_D_fail 5 = .ok (.iconst 0, 1) := by decide +kernel
theorem d_D_fail_6 : decode c_D_fail 6 = .ok (.ireturn, 1) := by decide +kernel
theorem d_D_change_0 : decode c_D_change 0 = .ok (.aload_n 0, 1) := by decide +kernel
theorem d_D_change_1 : decode c_D_change 1 = .ok (.iconst 0, 1) := by decide +kernel
theorem d_D_change_2 : decode c_D_change 2 = .ok (.putfield 92, 3) := by decide +kernel
theorem d_D_change_5 : decode c_D_change 5 = .ok (.iload_n 1, 1) := by decide +kernel
theorem d_D_change_6 : decode c_D_change 6 = .ok (.invokestatic 143, 3) := by decide +kernel
theorem d_D_change_9 : decode c_D_change 9 = .ok (.ifCond .eq (10), 3) := by decide +kernel
theorem d_D_change_12 : decode c_D_change 12 = .ok (.iload_n 2, 1) := by decide +kernel
theorem d_D_change_13 : decode c_D_change 13 = .ok (.invokestatic 143, 3) := by decide +kernel
theorem d_D_change_16 : decode c_D_change 16 = .ok (.ifCond .ne (9), 3) := by decide +kernel
theorem d_D_change_19 : decode c_D_change 19 = .ok (.aload_n 0, 1) := by decide +kernel
theorem d_D_change_20 : decode c_D_change 20 = .ok (.iconst 1, 1) := by decide +kernel
theorem d_D_change_21 : decode c_D_change 21 = .ok (.invokevirtual 191, 3) := by decide +kernel
theorem d_D_change_24 : decode c_D_change 24 = .ok (.ireturn, 1) := by decide +kernel
theorem d_D_change_25 : decode c_D_change 25 = .ok (.aload_n 0, 1) := by decide +kernel
theorem d_D_change_26 : decode c_D_change 26 = .ok (.iload_n 1, 1) := by decide +kernel
theorem d_D_change_27 : decode c_D_change 27 = .ok (.invokevirtual 113, 3) := by decide +kernel
theorem d_D_change_30 : decode c_D_change 30 = .ok (.istore 4, 2) := by decide +kernel
theorem d_D_change_32 : decode c_D_change 32 = .ok (.iload 4, 2) := by decide +kernel
theorem d_D_change_34 : decode c_D_change 34 = .ok (.iload_n 2, 1) := by decide +kernel
theorem d_D_change_35 : decode c_D_change 35 = .ok (.ishr, 1) := by decide +kernel
theorem d_D_change_36 : decode c_D_change 36 = .ok (.iconst 1, 1) := by decide +kernel
theorem d_D_change_37 : decode c_D_change 37 = .ok (.iand, 1) := by decide +kernel
theorem d_D_change_38 : decode c_D_change 38 = .ok (.iconst 1, 1) := by decide +kernel
theorem d_D_change_39 : decode c_D_change 39 = .ok (.if_icmp .ne (7), 3) := by decide +kernel
theorem d_D_change_42 : decode c_D_change 42 = .ok (.iconst 1, 1) := by decide +kernel
theorem d_D_change_43 : decode c_D_change 43 = .ok (.goto (4), 3) := by decide +kernel
theorem d_D_change_46 : decode c_D_change 46 = .ok (.iconst 0, 1) := by decide +kernel
theorem d_D_change_47 : decode c_D_change 47 = .ok (.istore 5, 2) := by decide +kernel
theorem d_D_change_49 : decode c_D_change 49 = .ok (.iload 5, 2) := by decide +kernel
theorem d_D_change_51 : decode c_D_change 51 = .ok (.iload_n 3, 1) := by decide +kernel
theorem d_D_change_52 : decode c_D_change 52 = .ok (.if_icmp .eq (15), 3) := by decide +kernel
theorem d_D_change_55 : decode c_D_change 55 = .ok (.iload_n 3, 1) := by decide +kernel
theorem d_D_change_56 : decode c_D_change 56 = .ok (.ifCond .ne (17), 3) := by decide +kernel
theorem d_D_change_59 : decode c_D_change 59 = .ok (.iload 4, 2) := by decide +kernel
theorem d_D_change_61 : decode c_D_change 61 = .ok (.iconst 1, 1) := by decide +kernel
theorem d_D_change_62 : decode c_D_change 62 = .ok (.iload_n 2, 1) := by decide +kernel
theorem d_D_change_63 : decode c_D_change 63 = .ok (.ishl, 1) := by decide +kernel
theorem d_D_change_64 : decode c_D_change 64 = .ok (.if_icmp .ne (9), 3) := by decide +kernel
theorem d_D_change_67 : decode c_D_change 67 = .ok (.aload_n 0, 1) := by decide +kernel
theorem d_D_change_68 : decode c_D_change 68 = .ok (.iconst 1, 1) := by decide +kernel
theorem d_D_change_69 : decode c_D_change 69 = .ok (.invokevirtual 191, 3) := by decide +kernel
theorem d_D_change_72 : decode c_D_change 72 = .ok (.ireturn, 1) := by decide +kernel
theorem d_D_change_73 : decode c_D_change 73 = .ok (.aload_n 0, 1) := by decide +kernel
theorem d_D_change_74 : decode c_D_change 74 = .ok (.iload_n 1, 1) := by decide +kernel
theorem d_D_change_75 : decode c_D_change 75 = .ok (.invokevirtual 185, 3) := by decide +kernel
theorem d_D_change_78 : decode c_D_change 78 = .ok (.ifCond .ne (9), 3) := by decide +kernel
theorem d_D_change_81 : decode c_D_change 81 = .ok (.aload_n 0, 1) := by decide +kernel
theorem d_D_change_82 : decode c_D_change 82 = .ok (.iconst 2, 1) := by decide +kernel
theorem d_D_change_83 : decode c_D_change 83 = .ok (.invokevirtual 191, 3) := by decide +kernel
theorem d_D_change_86 : decode c_D_change 86 = .ok (.ireturn, 1) := by decide +kernel
theorem d_D_change_87 : decode c_D_change 87 = .ok (.aload_n 0, 1) := by decide +kernel
theorem d_D_change_88 : decode c_D_change 88 = .ok (.getfield 32, 3) := by decide +kernel
theorem d_D_change_91 : decode c_D_change 91 = .ok (.iload_n 1, 1) := by decide +kernel
theorem d_D_change_92 : decode c_D_change 92 = .ok (.iaload, 1) := by decide +kernel
theorem d_D_change_93 : decode c_D_change 93 = .ok (.bipush (24), 2) := by decide +kernel
theorem d_D_change_95 : decode c_D_change 95 = .ok (.if_icmp .ge (30), 3) := by decide +kernel
theorem d_D_change_98 : decode c_D_change 98 = .ok (.aload_n 0, 1) := by decide +kernel
theorem d_D_change_99 : decode c_D_change 99 = .ok (.iload_n 1, 1) := by decide +kernel
theorem d_D_change_100 : decode c_D_change 100 = .ok (.aload_n 0, 1) := by decide +kernel
theorem d_D_change_101 : decode c_D_change 101 = .ok (.iload_n 1, 1) := by decide +kernel
theorem d_D_change_102 : decode c_D_change 102 = .ok (.invokevirtual 96, 3) := by decide +kernel
theorem d_D_change_105 : decode c_D_change 105 = .ok (.invokevirtual 107, 3) := by decide +kernel
theorem d_D_change_108 : decode c_D_change 108 = .ok (.aload_n 0, 1) := by decide +kernel
theorem d_D_change_109 : decode c_D_change 109 = .ok (.getfield 50, 3) := by decide +kernel
theorem d_D_change_112 : decode c_D_change 112 = .ok (.iload_n 1, 1) := by decide +kernel
theorem d_D_change_113 : decode c_D_change 113 = .ok (.iaload, 1) := by decide +kernel
theorem d_D_change_114 : decode c_D_change 114 = .ok (.if_icmp .gt (11), 3) := by decide +kernel
theorem d_D_change_117 : decode c_D_change 117 = .ok (.aload_n 0, 1) := by decide +kernel
theorem d_D_change_118 : decode c_D_change 118 = .ok (.iload_n 1, 1) := by decide +kernel
theorem d_D_change_119 : decode c_D_change 119 = .ok (.invokevirtual 194, 3) := by decide +kernel
theorem d_D_change_122 : decode c_D_change 122 = .ok (.ifCond .eq (9), 3) := by decide +kernel
theorem d_D_change_125 : decode c_D_change 125 = .ok (.aload_n 0, 1) := by decide +kernel
theorem d_D_change_126 : decode c_D_change 126 = .ok (.iconst 3, 1) := by decide +kernel
theorem d_D_change_127 : decode c_D_change 127 = .ok (.invokevirtual 191, 3) := by decide +kernel
theorem d_D_change_130 : decode c_D_change 130 = .ok (.ireturn, 1) := by decide +kernel
theorem d_D_change_131 : decode c_D_change 131 = .ok (.aload_n 0, 1) := by decide +kernel
theorem d_D_change_132 : decode c_D_change 132 = .ok (.iload_n 1, 1) := by decide +kernel
theorem d_D_change_133 : decode c_D_change 133 = .ok (.iconst 2, 1) := by decide +kernel
theorem d_D_change_134 : decode c_D_change 134 = .ok (.iload 4, 2) := by decide +kernel
theorem d_D_change_136 : decode c_D_change 136 = .ok (.iconst 1, 1) := by decide +kernel
theorem d_D_change_137 : decode c_D_change 137 = .ok (.iload_n 2, 1) := by decide +kernel
theorem d_D_change_138 : decode c_D_change 138 = .ok (.ishl, 1) := by decide +kernel
theorem d_D_change_139 : decode c_D_change 139 = .ok (.ixor, 1) := by decide +kernel
theorem d_D_change_140 : decode c_D_change 140 = .ok (.iconst 0, 1) := by decide +kernel
theorem d_D_change_141 : decode c_D_change 141 = .ok (.invokevirtual 164, 3) := by decide +kernel
theorem d_D_change_144 : decode c_D_change 144 = .ok (.ireturn, 1) := by decide +kernel
theorem d_D_isOld_0 : decode c_D_isOld 0 = .ok (.aload_n 0, 1) := by decide +kernel
theorem d_D_isOld_1 : decode c_D_isOld 1 = .ok (.iload_n 1, 1) := by decide +kernel
theorem d_D_isOld_2 : decode c_D_isOld 2 = .ok (.aload_n 0, 1) := by decide +kernel
theorem d_D_isOld_3 : decode c_D_isOld 3 = .ok (.getfield 50, 3) := by decide +kernel
theorem d_D_isOld_6 : decode c_D_isOld 6 = .ok (.iload_n 1, 1) := by decide +kernel
theorem d_D_isOld_7 : decode c_D_isOld 7 = .ok (.iaload, 1) := by decide +kernel
theorem d_D_isOld_8 : decode c_D_isOld 8 = .ok (.invokevirtual 104, 3) := by decide +kernel
theorem d_D_isOld_11 : decode c_D_isOld 11 = .ok (.aload_n 0, 1) := by decide +kernel
theorem d_D_isOld_12 : decode c_D_isOld 12 = .ok (.getfield 13, 3) := by decide +kernel
theorem d_D_isOld_15 : decode c_D_isOld 15 = .ok (.iload_n 1, 1) := by decide +kernel
theorem d_D_isOld_16 : decode c_D_isOld 16 = .ok (.iaload, 1) := by decide +kernel
theorem d_D_isOld_17 : decode c_D_isOld 17 = .ok (.if_icmp .eq (7), 3) := by decide +kernel
theorem d_D_isOld_20 : decode c_D_isOld 20 = .ok (.iconst 1, 1) := by decide +kernel
theorem d_D_isOld_21 : decode c_D_isOld 21 = .ok (.goto (4), 3) := by decide +kernel
theorem d_D_isOld_24 : decode c_D_isOld 24 = .ok (.iconst 0, 1) := by decide +kernel
theorem d_D_isOld_25 : decode c_D_isOld 25 = .ok (.ireturn, 1) := by decide +kernel
theorem d_D_read_0 : decode c_D_read 0 = .ok (.aload_n 0, 1) := by decide +kernel
theorem d_D_read_1 : decode c_D_read 1 = .ok (.iconst 0, 1) := by decide +kernel
theorem d_D_read_2 : decode c_D_read 2 = .ok (.putfield 92, 3) := by decide +kernel
theorem d_D_read_5 : decode c_D_read 5 = .ok (.iload_n 1, 1) := by decide +kernel
theorem d_D_read_6 : decode c_D_read 6 = .ok (.invokestatic 143, 3) := by decide +kernel
theorem d_D_read_9 : decode c_D_read 9 = .ok (.ifCond .eq (10), 3) := by decide +kernel
theorem d_D_read_12 : decode c_D_read 12 = .ok (.iload_n 2, 1) := by decide +kernel
theorem d_D_read_13 : decode c_D_read 13 = .ok (.invokestatic 188, 3) := by decide +kernel
theorem d_D_read_16 : decode c_D_read 16 = .ok (.ifCond .ne (9), 3) := by decide +kernel
theorem d_D_read_19 : decode c_D_read 19 = .ok (.aload_n 0, 1) := by decide +kernel
theorem d_D_read_20 : decode c_D_read 20 = .ok (.iconst 1, 1) := by decide +kernel
theorem d_D_read_21 : decode c_D_read 21 = .ok (.invokevirtual 191, 3) := by decide +kernel
theorem d_D_read_24 : decode c_D_read 24 = .ok (.ireturn, 1) := by decide +kernel
theorem d_D_read_25 : decode c_D_read 25 = .ok (.aload_n 0, 1) := by decide +kernel
theorem d_D_read_26 : decode c_D_read 26 = .ok (.iload_n 1, 1) := by decide +kernel
theorem d_D_read_27 : decode c_D_read 27 = .ok (.invokevirtual 185, 3) := by decide +kernel
theorem d_D_read_30 : decode c_D_read 30 = .ok (.ifCond .ne (9), 3) := by decide +kernel
theorem d_D_read_33 : decode c_D_read 33 = .ok (.aload_n 0, 1) := by decide +kernel
theorem d_D_read_34 : decode c_D_read 34 = .ok (.iconst 2, 1) := by decide +kernel
theorem d_D_read_35 : decode c_D_read 35 = .ok (.invokevirtual 191, 3) := by decide +kernel
theorem d_D_read_38 : decode c_D_read 38 = .ok (.ireturn, 1) := by decide +kernel
theorem d_D_read_39 : decode c_D_read 39 = .ok (.iconst 0, 1) := by decide +kernel
theorem d_D_read_40 : decode c_D_read 40 = .ok (.istore_n 3, 1) := by decide +kernel
theorem d_D_read_41 : decode c_D_read 41 = .ok (.iconst 0, 1) := by decide +kernel
theorem d_D_read_42 : decode c_D_read 42 = .ok (.istore 4, 2) := by decide +kernel
theorem d_D_read_44 : decode c_D_read 44 = .ok (.iload 4, 2) := by decide +kernel
theorem d_D_read_46 : decode c_D_read 46 = .ok (.aload_n 0, 1) := by decide +kernel
theorem d_D_read_47 : decode c_D_read 47 = .ok (.getfield 136, 3) := by decide +kernel
theorem d_D_read_50 : decode c_D_read 50 = .ok (.if_icmp .ge (38), 3) := by decide +kernel
theorem d_D_read_53 : decode c_D_read 53 = .ok (.iload_n 3, 1) := by decide +kernel
theorem d_D_read_54 : decode c_D_read 54 = .ok (.aload_n 0, 1) := by decide +kernel
theorem d_D_read_55 : decode c_D_read 55 = .ok (.getfield 71, 3) := by decide +kernel
theorem d_D_read_58 : decode c_D_read 58 = .ok (.iload 4, 2) := by decide +kernel
theorem d_D_read_60 : decode c_D_read 60 = .ok (.iaload, 1) := by decide +kernel
theorem d_D_read_61 : decode c_D_read 61 = .ok (.iload_n 1, 1) := by decide +kernel
theorem d_D_read_62 : decode c_D_read 62 = .ok (.if_icmp .ne (17), 3) := by decide +kernel
theorem d_D_read_65 : decode c_D_read 65 = .ok (.aload_n 0, 1) := by decide +kernel
theorem d_D_read_66 : decode c_D_read 66 = .ok (.getfield 80, 3) := by decide +kernel
theorem d_D_read_69 : decode c_D_read 69 = .ok (.iload 4, 2) := by decide +kernel
theorem d_D_read_71 : decode c_D_read 71 = .ok (.iaload, 1) := by decide +kernel
theorem d_D_read_72 : decode c_D_read 72 = .ok (.ifCond .ne (7), 3) := by decide +kernel
theorem d_D_read_75 : decode c_D_read 75 = .ok (.iconst 1, 1) := by decide +kernel
theorem d_D_read_76 : decode c_D_read 76 = .ok (.goto (4), 3) := by decide +kernel
theorem d_D_read_79 : decode c_D_read 79 = .ok (.iconst 0, 1) := by decide +kernel
theorem d_D_read_80 : decode c_D_read 80 = .ok (.iadd, 1) := by decide +kernel
theorem d_D_read_81 : decode c_D_read 81 = .ok (.istore_n 3, 1) := by decide +kernel
theorem d_D_read_82 : decode c_D_read 82 = .ok (.iinc 4 (1), 3) := by decide +kernel
theorem d_D_read_85 : decode c_D_read 85 = .ok (.goto (-41), 3) := by decide +kernel
theorem d_D_read_88 : decode c_D_read 88 = .ok (.iload_n 3, 1) := by decide +kernel
theorem d_D_read_89 : decode c_D_read 89 = .ok (.iconst 4, 1) := by decide +kernel
theorem d_D_read_90 : decode c_D_read 90 = .ok (.if_icmp .eq (20), 3) := by decide +kernel
theorem d_D_read_93 : decode c_D_read 93 = .ok (.aload_n 0, 1) := by decide +kernel
theorem d_D_read_94 : decode c_D_read 94 = .ok (.getfield 136, 3) := by decide +kernel
theorem d_D_read_97 : decode c_D_read 97 = .ok (.bipush (60), 2) := by decide +kernel
theorem d_D_read_99 : decode c_D_read 99 = .ok (.if_icmp .eq (11), 3) := by decide +kernel
theorem d_D_read_102 : decode c_D_read 102 = .ok (.aload_n 0, 1) := by decide +kernel
theorem d_D_read_103 : decode c_D_read 103 = .ok (.iload_n 1, 1) := by decide +kernel
theorem d_D_read_104 : decode c_D_read 104 = .ok (.invokevirtual 194, 3) := by decide +kernel
theorem d_D_read_107 : decode c_D_read 107 = .ok (.ifCond .eq (9), 3) := by decide +kernel
theorem d_D_read_110 : decode c_D_read 110 = .ok (.aload_n 0, 1) := by decide +kernel
theorem d_D_read_111 : decode c_D_read 111 = .ok (.iconst 3, 1) := by decide +kernel
theorem d_D_read_112 : decode c_D_read 112 = .ok (.invokevirtual 191, 3) := by decide +kernel
theorem d_D_read_115 : decode c_D_read 115 = .ok (.ireturn, 1) := by decide +kernel
theorem d_D_read_116 : decode c_D_read 116 = .ok (.aload_n 0, 1) := by decide +kernel
theorem d_D_read_117 : decode c_D_read 117 = .ok (.getfield 68, 3) := by decide +kernel
theorem d_D_read_120 : decode c_D_read 120 = .ok (.iload_n 1, 1) := by decide +kernel
theorem d_D_read_121 : decode c_D_read 121 = .ok (.dup2, 1) := by decide +kernel
theorem d_D_read_122 : decode c_D_read 122 = .ok (.iaload, 1) := by decide +kernel
theorem d_D_read_123 : decode c_D_read 123 = .ok (.iconst 1, 1) := by decide +kernel
theorem d_D_read_124 : decode c_D_read 124 = .ok (.iadd, 1) := by decide +kernel
theorem d_D_read_125 : decode c_D_read 125 = .ok (.iastore, 1) := by decide +kernel
theorem d_D_read_126 : decode c_D_read 126 = .ok (.aload_n 0, 1) := by decide +kernel
theorem d_D_read_127 : decode c_D_read 127 = .ok (.getfield 136, 3) := by decide +kernel
theorem d_D_read_130 : decode c_D_read 130 = .ok (.istore 4, 2) := by decide +kernel
theorem d_D_read_132 : decode c_D_read 132 = .ok (.aload_n 0, 1) := by decide +kernel
theorem d_D_read_133 : decode c_D_read 133 = .ok (.getfield 71, 3) := by decide +kernel
theorem d_D_read_136 : decode c_D_read 136 = .ok (.iload 4, 2) := by decide +kernel
theorem d_D_read_138 : decode c_D_read 138 = .ok (.iload_n 1, 1) := by decide +kernel
theorem d_D_read_139 : decode c_D_read 139 = .ok (.iastore, 1) := by decide +kernel
theorem d_D_read_140 : decode c_D_read 140 = .ok (.aload_n 0, 1) := by decide +kernel
theorem d_D_read_141 : decode c_D_read 141 = .ok (.getfield 74, 3) := by decide +kernel
theorem d_D_read_144 : decode c_D_read 144 = .ok (.iload 4, 2) := by decide +kernel
theorem d_D_read_146 : decode c_D_read 146 = .ok (.iload_n 2, 1) := by decide +kernel
theorem d_D_read_147 : decode c_D_read 147 = .ok (.iastore, 1) := by decide +kernel
theorem d_D_read_148 : decode c_D_read 148 = .ok (.aload_n 0, 1) := by decide +kernel
theorem d_D_read_149 : decode c_D_read 149 = .ok (.getfield 77, 3) := by decide +kernel
theorem d_D_read_152 : decode c_D_read 152 = .ok (.iload 4, 2) := by decide +kernel
theorem d_D_read_154 : decode c_D_read 154 = .ok (.aload_n 0, 1) := by decide +kernel
theorem d_D_read_155 : decode c_D_read 155 = .ok (.getfield 68, 3) := by decide +kernel
theorem d_D_read_158 : decode c_D_read 158 = .ok (.iload_n 1, 1) := by decide +kernel
theorem d_D_read_159 : decode c_D_read 159 = .ok (.iaload, 1) := by decide +kernel
theorem d_D_read_160 : decode c_D_read 160 = .ok (.iastore, 1) := by decide +kernel
theorem d_D_read_161 : decode c_D_read 161 = .ok (.aload_n 0, 1) := by decide +kernel
theorem d_D_read_162 : decode c_D_read 162 = .ok (.dup, 1) := by decide +kernel
theorem d_D_read_163 : decode c_D_read 163 = .ok (.getfield 136, 3) := by decide +kernel
theorem d_D_read_166 : decode c_D_read 166 = .ok (.iconst 1, 1) := by decide +kernel
theorem d_D_read_167 : decode c_D_read 167 = .ok (.iadd, 1) := by decide +kernel
theorem d_D_read_168 : decode c_D_read 168 = .ok (.putfield 136, 3) := by decide +kernel
theorem d_D_read_171 : decode c_D_read 171 = .ok (.aload_n 0, 1) := by decide +kernel
theorem d_D_read_172 : decode c_D_read 172 = .ok (.iload_n 1, 1) := by decide +kernel
theorem d_D_read_173 : decode c_D_read 173 = .ok (.invokevirtual 175, 3) := by decide +kernel
theorem d_D_read_176 : decode c_D_read 176 = .ok (.aload_n 0, 1) := by decide +kernel
theorem d_D_read_177 : decode c_D_read 177 = .ok (.iload_n 1, 1) := by decide +kernel
theorem d_D_read_178 : decode c_D_read 178 = .ok (.invokevirtual 197, 3) := by decide +kernel
theorem d_D_read_181 : decode c_D_read 181 = .ok (.iload 4, 2) := by decide +kernel
theorem d_D_read_183 : decode c_D_read 183 = .ok (.ireturn, 1) := by decide +kernel
theorem d_D_lookAtReads_0 : decode c_D_lookAtReads 0 = .ok (.iconst 0, 1) := by decide +kernel
theorem d_D_lookAtReads_1 : decode c_D_lookAtReads 1 = .ok (.istore_n 2, 1) := by decide +kernel
theorem d_D_lookAtReads_2 : decode c_D_lookAtReads 2 = .ok (.iload_n 2, 1) := by decide +kernel
theorem d_D_lookAtReads_3 : decode c_D_lookAtReads 3 = .ok (.aload_n 0, 1) := by decide +kernel
theorem d_D_lookAtReads_4 : decode c_D_lookAtReads 4 = .ok (.getfield 136, 3) := by decide +kernel
theorem d_D_lookAtReads_7 : decode c_D_lookAtReads 7 = .ok (.if_icmp .ge (123), 3) := by decide +kernel
theorem d_D_lookAtReads_10 : decode c_D_lookAtReads 10 = .ok (.aload_n 0, 1) := by decide +kernel
theorem d_D_lookAtReads_11 : decode c_D_lookAtReads 11 = .ok (.getfield 71, 3) := by decide +kernel
theorem d_D_lookAtReads_14 : decode c_D_lookAtReads 14 = .ok (.iload_n 2, 1) := by decide +kernel
theorem d_D_lookAtReads_15 : decode c_D_lookAtReads 15 = .ok (.iaload, 1) := by decide +kernel
theorem d_D_lookAtReads_16 : decode c_D_lookAtReads 16 = .ok (.iload_n 1, 1) := by decide +kernel
theorem d_D_lookAtReads_17 : decode c_D_lookAtReads 17 = .ok (.if_icmp .ne (107), 3) := by decide +kernel
theorem d_D_lookAtReads_20 : decode c_D_lookAtReads 20 = .ok (.aload_n 0, 1) := by decide +kernel
theorem d_D_lookAtReads_21 : decode c_D_lookAtReads 21 = .ok (.getfield 80, 3) := by decide +kernel
theorem d_D_lookAtReads_24 : decode c_D_lookAtReads 24 = .ok (.iload_n 2, 1) := by decide +kernel
theorem d_D_lookAtReads_25 : decode c_D_lookAtReads 25 = .ok (.iaload, 1) := by decide +kernel
theorem d_D_lookAtReads_26 : decode c_D_lookAtReads 26 = .ok (.ifCond .eq (6), 3) := by decide +kernel
theorem d_D_lookAtReads_29 : decode c_D_lookAtReads 29 = .ok (.goto (95), 3) := by decide +kernel
theorem d_D_lookAtReads_32 : decode c_D_lookAtReads 32 = .ok (.iconst 1, 1) := by decide +kernel
theorem d_D_lookAtReads_33 : decode c_D_lookAtReads 33 = .ok (.iload_n 1, 1) := by decide +kernel
theorem d_D_lookAtReads_34 : decode c_D_lookAtReads 34 = .ok (.ishl, 1) := by decide +kernel
theorem d_D_lookAtReads_35 : decode c_D_lookAtReads 35 = .ok (.istore_n 3, 1) := by decide +kernel
theorem d_D_lookAtReads_36 : decode c_D_lookAtReads 36 = .ok (.iconst 0, 1) := by decide +kernel
theorem d_D_lookAtReads_37 : decode c_D_lookAtReads 37 = .ok (.istore 4, 2) := by decide +kernel
theorem d_D_lookAtReads_39 : decode c_D_lookAtReads 39 = .ok (.iload 4, 2) := by decide +kernel
theorem d_D_lookAtReads_41 : decode c_D_lookAtReads 41 = .ok (.iconst 5, 1) := by decide +kernel
theorem d_D_lookAtReads_42 : decode c_D_lookAtReads 42 = .ok (.if_icmp .ge (40), 3) := by decide +kernel
theorem d_D_lookAtReads_45 : decode c_D_lookAtReads 45 = .ok (.iload_n 3, 1) := by decide +kernel
theorem d_D_lookAtReads_46 : decode c_D_lookAtReads 46 = .ok (.aload_n 0, 1) := by decide +kernel
theorem d_D_lookAtReads_47 : decode c_D_lookAtReads 47 = .ok (.getfield 65, 3) := by decide +kernel
theorem d_D_lookAtReads_50 : decode c_D_lookAtReads 50 = .ok (.iconst 5, 1) := by decide +kernel
theorem d_D_lookAtReads_51 : decode c_D_lookAtReads 51 = .ok (.iload_n 1, 1) := by decide +kernel
theorem d_D_lookAtReads_52 : decode c_D_lookAtReads 52 = .ok (.imul, 1) := by decide +kernel
theorem d_D_lookAtReads_53 : decode c_D_lookAtReads 53 = .ok (.iload 4, 2) := by decide +kernel
theorem d_D_lookAtReads_55 : decode c_D_lookAtReads 55 = .ok (.iadd, 1) := by decide +kernel
theorem d_D_lookAtReads_56 : decode c_D_lookAtReads 56 = .ok (.iaload, 1) := by decide +kernel
theorem d_D_lookAtReads_57 : decode c_D_lookAtReads 57 = .ok (.aload_n 0, 1) := by decide +kernel
theorem d_D_lookAtReads_58 : decode c_D_lookAtReads 58 = .ok (.getfield 77, 3) := by decide +kernel
theorem d_D_lookAtReads_61 : decode c_D_lookAtReads 61 = .ok (.iload_n 2, 1) := by decide +kernel
theorem d_D_lookAtReads_62 : decode c_D_lookAtReads 62 = .ok (.iaload, 1) := by decide +kernel
theorem d_D_lookAtReads_63 : decode c_D_lookAtReads 63 = .ok (.if_icmp .lt (10), 3) := by decide +kernel
theorem d_D_lookAtReads_66 : decode c_D_lookAtReads 66 = .ok (.iconst 1, 1) := by decide +kernel
theorem d_D_lookAtReads_67 : decode c_D_lookAtReads 67 = .ok (.iload 4, 2) := by decide +kernel
theorem d_D_lookAtReads_69 : decode c_D_lookAtReads 69 = .ok (.ishl, 1) := by decide +kernel
theorem d_D_lookAtReads_70 : decode c_D_lookAtReads 70 = .ok (.goto (4), 3) := by decide +kernel
theorem d_D_lookAtReads_73 : decode c_D_lookAtReads 73 = .ok (.iconst 0, 1) := by decide +kernel
theorem d_D_lookAtReads_74 : decode c_D_lookAtReads 74 = .ok (.ior, 1) := by decide +kernel
theorem d_D_lookAtReads_75 : decode c_D_lookAtReads 75 = .ok (.istore_n 3, 1) := by decide +kernel
theorem d_D_lookAtReads_76 : decode c_D_lookAtReads 76 = .ok (.iinc 4 (1), 3) := by decide +kernel
theorem d_D_lookAtReads_79 : decode c_D_lookAtReads 79 = .ok (.goto (-40), 3) := by decide +kernel
theorem d_D_lookAtReads_82 : decode c_D_lookAtReads 82 = .ok (.aload_n 0, 1) := by decide +kernel
theorem d_D_lookAtReads_83 : decode c_D_lookAtReads 83 = .ok (.iload_n 1, 1) := by decide +kernel
theorem d_D_lookAtReads_84 : decode c_D_lookAtReads 84 = .ok (.iload_n 3, 1) := by decide +kernel
theorem d_D_lookAtReads_85 : decode c_D_lookAtReads 85 = .ok (.invokevirtual 157, 3) := by decide +kernel
theorem d_D_lookAtReads_88 : decode c_D_lookAtReads 88 = .ok (.ifCond .ne (6), 3) := by decide +kernel
theorem d_D_lookAtReads_91 : decode c_D_lookAtReads 91 = .ok (.goto (33), 3) := by decide +kernel
theorem d_D_lookAtReads_94 : decode c_D_lookAtReads 94 = .ok (.aload_n 0, 1) := by decide +kernel
theorem d_D_lookAtReads_95 : decode c_D_lookAtReads 95 = .ok (.getfield 80, 3) := by decide +kernel
theorem d_D_lookAtReads_98 : decode c_D_lookAtReads 98 = .ok (.iload_n 2, 1) := by decide +kernel
theorem d_D_lookAtReads_99 : decode c_D_lookAtReads 99 = .ok (.iconst 1, 1) := by decide +kernel
theorem d_D_lookAtReads_100 : decode c_D_lookAtReads 100 = .ok (.iastore, 1) := by decide +kernel
theorem d_D_lookAtReads_101 : decode c_D_lookAtReads 101 = .ok (.aload_n 0, 1) := by decide +kernel
theorem d_D_lookAtReads_102 : decode c_D_lookAtReads 102 = .ok (.getfield 83, 3) := by decide +kernel
theorem d_D_lookAtReads_105 : decode c_D_lookAtReads 105 = .ok (.iload_n 2, 1) := by decide +kernel
theorem d_D_lookAtReads_106 : decode c_D_lookAtReads 106 = .ok (.aload_n 0, 1) := by decide +kernel
theorem d_D_lookAtReads_107 : decode c_D_lookAtReads 107 = .ok (.iload_n 1, 1) := by decide +kernel
theorem d_D_lookAtReads_108 : decode c_D_lookAtReads 108 = .ok (.aload_n 0, 1) := by decide +kernel
theorem d_D_lookAtReads_109 : decode c_D_lookAtReads 109 = .ok (.getfield 74, 3) := by decide +kernel
theorem d_D_lookAtReads_112 : decode c_D_lookAtReads 112 = .ok (.iload_n 2, 1) := by decide +kernel
theorem d_D_lookAtReads_113 : decode c_D_lookAtReads 113 = .ok (.iaload, 1) := by decide +kernel
theorem d_D_lookAtReads_114 : decode c_D_lookAtReads 114 = .ok (.aload_n 0, 1) := by decide +kernel
theorem d_D_lookAtReads_115 : decode c_D_lookAtReads 115 = .ok (.getfield 50, 3) := by decide +kernel
theorem d_D_lookAtReads_118 : decode c_D_lookAtReads 118 = .ok (.iload_n 1, 1) := by decide +kernel
theorem d_D_lookAtReads_119 : decode c_D_lookAtReads 119 = .ok (.iaload, 1) := by decide +kernel
theorem d_D_lookAtReads_120 : decode c_D_lookAtReads 120 = .ok (.invokevirtual 181, 3) := by decide +kernel
theorem d_D_lookAtReads_123 : decode c_D_lookAtReads 123 = .ok (.iastore, 1) := by decide +kernel
theorem d_D_lookAtReads_124 : decode c_D_lookAtReads 124 = .ok (.iinc 2 (1), 3) := by decide +kernel
theorem d_D_lookAtReads_127 : decode c_D_lookAtReads 127 = .ok (.goto (-125), 3) := by decide +kernel
theorem d_D_lookAtReads_130 : decode c_D_lookAtReads 130 = .ok (.return_, 1) := by decide +kernel
theorem d_D_valueAt_0 : decode c_D_valueAt 0 = .ok (.aload_n 0, 1) := by decide +kernel
theorem d_D_valueAt_1 : decode c_D_valueAt 1 = .ok (.getfield 29, 3) := by decide +kernel
theorem d_D_valueAt_4 : decode c_D_valueAt 4 = .ok (.iconst 4, 1) := by decide +kernel
theorem d_D_valueAt_5 : decode c_D_valueAt 5 = .ok (.iload_n 1, 1) := by decide +kernel
theorem d_D_valueAt_6 : decode c_D_valueAt 6 = .ok (.imul, 1) := by decide +kernel
theorem d_D_valueAt_7 : decode c_D_valueAt 7 = .ok (.iload_n 2, 1) := by decide +kernel
theorem d_D_valueAt_8 : decode c_D_valueAt 8 = .ok (.iadd, 1) := by decide +kernel
theorem d_D_valueAt_9 : decode c_D_valueAt 9 = .ok (.iaload, 1) := by decide +kernel
theorem d_D_valueAt_10 : decode c_D_valueAt 10 = .ok (.istore 4, 2) := by decide +kernel
theorem d_D_valueAt_12 : decode c_D_valueAt 12 = .ok (.aload_n 0, 1) := by decide +kernel
theorem d_D_valueAt_13 : decode c_D_valueAt 13 = .ok (.getfield 20, 3) := by decide +kernel
theorem d_D_valueAt_16 : decode c_D_valueAt 16 = .ok (.iload_n 1, 1) := by decide +kernel
theorem d_D_valueAt_17 : decode c_D_valueAt 17 = .ok (.iaload, 1) := by decide +kernel
theorem d_D_valueAt_18 : decode c_D_valueAt 18 = .ok (.iconst 1, 1) := by decide +kernel
theorem d_D_valueAt_19 : decode c_D_valueAt 19 = .ok (.iadd, 1) := by decide +kernel
theorem d_D_valueAt_20 : decode c_D_valueAt 20 = .ok (.istore 5, 2) := by decide +kernel
theorem d_D_valueAt_22 : decode c_D_valueAt 22 = .ok (.iload 5, 2) := by decide +kernel
theorem d_D_valueAt_24 : decode c_D_valueAt 24 = .ok (.iload_n 3, 1) := by decide +kernel
theorem d_D_valueAt_25 : decode c_D_valueAt 25 = .ok (.if_icmp .gt (49), 3) := by decide +kernel
theorem d_D_valueAt_28 : decode c_D_valueAt 28 = .ok (.aload_n 0, 1) := by decide +kernel
theorem d_D_valueAt_29 : decode c_D_valueAt 29 = .ok (.iload_n 1, 1) := by decide +kernel
theorem d_D_valueAt_30 : decode c_D_valueAt 30 = .ok (.iload 5, 2) := by decide +kernel
theorem d_D_valueAt_32 : decode c_D_valueAt 32 = .ok (.invokevirtual 100, 3) := by decide +kernel
theorem d_D_valueAt_35 : decode c_D_valueAt 35 = .ok (.istore 6, 2) := by decide +kernel
theorem d_D_valueAt_37 : decode c_D_valueAt 37 = .ok (.aload_n 0, 1) := by decide +kernel
theorem d_D_valueAt_38 : decode c_D_valueAt 38 = .ok (.getfield 38, 3) := by decide +kernel
theorem d_D_valueAt_41 : decode c_D_valueAt 41 = .ok (.iload 6, 2) := by decide +kernel
theorem d_D_valueAt_43 : decode c_D_valueAt 43 = .ok (.iaload, 1) := by decide +kernel
theorem d_D_valueAt_44 : decode c_D_valueAt 44 = .ok (.iconst 1, 1) := by decide +kernel
theorem d_D_valueAt_45 : decode c_D_valueAt 45 = .ok (.if_icmp .ne (23), 3) := by decide +kernel
theorem d_D_valueAt_48 : decode c_D_valueAt 48 = .ok (.aload_n 0, 1) := by decide +kernel
theorem d_D_valueAt_49 : decode c_D_valueAt 49 = .ok (.getfield 41, 3) := by decide +kernel
theorem d_D_valueAt_52 : decode c_D_valueAt 52 = .ok (.iload 6, 2) := by decide +kernel
theorem d_D_valueAt_54 : decode c_D_valueAt 54 = .ok (.iaload, 1) := by decide +kernel
theorem d_D_valueAt_55 : decode c_D_valueAt 55 = .ok (.iload_n 2, 1) := by decide +kernel
theorem d_D_valueAt_56 : decode c_D_valueAt 56 = .ok (.if_icmp .ne (12), 3) := by decide +kernel
theorem d_D_valueAt_59 : decode c_D_valueAt 59 = .ok (.aload_n 0, 1) := by decide +kernel
theorem d_D_valueAt_60 : decode c_D_valueAt 60 = .ok (.getfield 44, 3) := by decide +kernel
theorem d_D_valueAt_63 : decode c_D_valueAt 63 = .ok (.iload 6, 2) := by decide +kernel
theorem d_D_valueAt_65 : decode c_D_valueAt 65 = .ok (.iaload, 1) := by decide +kernel
theorem d_D_valueAt_66 : decode c_D_valueAt 66 = .ok (.istore 4, 2) := by decide +kernel
theorem d_D_valueAt_68 : decode c_D_valueAt 68 = .ok (.iinc 5 (1), 3) := by decide +kernel
theorem d_D_valueAt_71 : decode c_D_valueAt 71 = .ok (.goto (-49), 3) := by decide +kernel
theorem d_D_valueAt_74 : decode c_D_valueAt 74 = .ok (.iload 4, 2) := by decide +kernel
theorem d_D_valueAt_76 : decode c_D_valueAt 76 = .ok (.ireturn, 1) := by decide +kernel
theorem d_D_outcome_0 : decode c_D_outcome 0 = .ok (.aload_n 0, 1) := by decide +kernel
theorem d_D_outcome_1 : decode c_D_outcome 1 = .ok (.iconst 0, 1) := by decide +kernel
theorem d_D_outcome_2 : decode c_D_outcome 2 = .ok (.putfield 92, 3) := by decide +kernel
theorem d_D_outcome_5 : decode c_D_outcome 5 = .ok (.iload_n 1, 1) := by decide +kernel
theorem d_D_outcome_6 : decode c_D_outcome 6 = .ok (.ifCond .lt (20), 3) := by decide +kernel
theorem d_D_outcome_9 : decode c_D_outcome 9 = .ok (.iload_n 1, 1) := by decide +kernel
theorem d_D_outcome_10 : decode c_D_outcome 10 = .ok (.aload_n 0, 1) := by decide +kernel
theorem d_D_outcome_11 : decode c_D_outcome 11 = .ok (.getfield 136, 3) := by decide +kernel
theorem d_D_outcome_14 : decode c_D_outcome 14 = .ok (.if_icmp .ge (12), 3) := by decide +kernel
theorem d_D_outcome_17 : decode c_D_outcome 17 = .ok (.aload_n 0, 1) := by decide +kernel
theorem d_D_outcome_18 : decode c_D_outcome 18 = .ok (.getfield 80, 3) := by decide +kernel
theorem d_D_outcome_21 : decode c_D_outcome 21 = .ok (.iload_n 1, 1) := by decide +kernel
theorem d_D_outcome_22 : decode c_D_outcome 22 = .ok (.iaload, 1) := by decide +kernel
theorem d_D_outcome_23 : decode c_D_outcome 23 = .ok (.goto (4), 3) := by decide +kernel
theorem d_D_outcome_26 : decode c_D_outcome 26 = .ok (.iconst (-1), 1) := by decide +kernel
theorem d_D_outcome_27 : decode c_D_outcome 27 = .ok (.ireturn, 1) := by decide +kernel
theorem d_D_value_0 : decode c_D_value 0 = .ok (.aload_n 0, 1) := by decide +kernel
theorem d_D_value_1 : decode c_D_value 1 = .ok (.iconst 0, 1) := by decide +kernel
theorem d_D_value_2 : decode c_D_value 2 = .ok (.putfield 92, 3) := by decide +kernel
theorem d_D_value_5 : decode c_D_value 5 = .ok (.iload_n 1, 1) := by decide +kernel
theorem d_D_value_6 : decode c_D_value 6 = .ok (.ifCond .lt (20), 3) := by decide +kernel
theorem d_D_value_9 : decode c_D_value 9 = .ok (.iload_n 1, 1) := by decide +kernel
theorem d_D_value_10 : decode c_D_value 10 = .ok (.aload_n 0, 1) := by decide +kernel
theorem d_D_value_11 : decode c_D_value 11 = .ok (.getfield 136, 3) := by decide +kernel
theorem d_D_value_14 : decode c_D_value 14 = .ok (.if_icmp .ge (12), 3) := by decide +kernel
theorem d_D_value_17 : decode c_D_value 17 = .ok (.aload_n 0, 1) := by decide +kernel
theorem d_D_value_18 : decode c_D_value 18 = .ok (.getfield 83, 3) := by decide +kernel
theorem d_D_value_21 : decode c_D_value 21 = .ok (.iload_n 1, 1) := by decide +kernel
theorem d_D_value_22 : decode c_D_value 22 = .ok (.iaload, 1) := by decide +kernel
theorem d_D_value_23 : decode c_D_value 23 = .ok (.goto (4), 3) := by decide +kernel
theorem d_D_value_26 : decode c_D_value 26 = .ok (.iconst 0, 1) := by decide +kernel
theorem d_D_value_27 : decode c_D_value 27 = .ok (.ireturn, 1) := by decide +kernel
theorem d_D_compact_0 : decode c_D_compact 0 = .ok (.aload_n 0, 1) := by decide +kernel
theorem d_D_compact_1 : decode c_D_compact 1 = .ok (.iconst 0, 1) := by decide +kernel
theorem d_D_compact_2 : decode c_D_compact 2 = .ok (.putfield 92, 3) := by decide +kernel
theorem d_D_compact_5 : decode c_D_compact 5 = .ok (.iload_n 1, 1) := by decide +kernel
theorem d_D_compact_6 : decode c_D_compact 6 = .ok (.invokestatic 143, 3) := by decide +kernel
theorem d_D_compact_9 : decode c_D_compact 9 = .ok (.ifCond .eq (27), 3) := by decide +kernel
theorem d_D_compact_12 : decode c_D_compact 12 = .ok (.aload_n 0, 1) := by decide +kernel
theorem d_D_compact_13 : decode c_D_compact 13 = .ok (.getfield 7, 3) := by decide +kernel
theorem d_D_compact_16 : decode c_D_compact 16 = .ok (.iload_n 1, 1) := by decide +kernel
theorem d_D_compact_17 : decode c_D_compact 17 = .ok (.baload, 1) := by decide +kernel
theorem d_D_compact_18 : decode c_D_compact 18 = .ok (.ifCond .ne (18), 3) := by decide +kernel
theorem d_D_compact_21 : decode c_D_compact 21 = .ok (.aload_n 0, 1) := by decide +kernel
theorem d_D_compact_22 : decode c_D_compact 22 = .ok (.getfield 50, 3) := by decide +kernel
theorem d_D_compact_25 : decode c_D_compact 25 = .ok (.iload_n 1, 1) := by decide +kernel
theorem d_D_compact_26 : decode c_D_compact 26 = .ok (.iaload, 1) := by decide +kernel
theorem d_D_compact_27 : decode c_D_compact 27 = .ok (.aload_n 0, 1) := by decide +kernel
theorem d_D_compact_28 : decode c_D_compact 28 = .ok (.getfield 20, 3) := by decide +kernel
theorem d_D_compact_31 : decode c_D_compact 31 = .ok (.iload_n 1, 1) := by decide +kernel
theorem d_D_compact_32 : decode c_D_compact 32 = .ok (.iaload, 1) := by decide +kernel
theorem d_D_compact_33 : decode c_D_compact 33 = .ok (.if_icmp .ne (5), 3) := by decide +kernel
theorem d_D_compact_36 : decode c_D_compact 36 = .ok (.iconst 0, 1) := by decide +kernel
theorem d_D_compact_37 : decode c_D_compact 37 = .ok (.ireturn, 1) := by decide +kernel
theorem d_D_compact_38 : decode c_D_compact 38 = .ok (.aload_n 0, 1) := by decide +kernel
theorem d_D_compact_39 : decode c_D_compact 39 = .ok (.getfield 50, 3) := by decide +kernel
theorem d_D_compact_42 : decode c_D_compact 42 = .ok (.iload_n 1, 1) := by decide +kernel
theorem d_D_compact_43 : decode c_D_compact 43 = .ok (.iaload, 1) := by decide +kernel
theorem d_D_compact_44 : decode c_D_compact 44 = .ok (.istore_n 2, 1) := by decide +kernel
theorem d_D_compact_45 : decode c_D_compact 45 = .ok (.aload_n 0, 1) := by decide +kernel
theorem d_D_compact_46 : decode c_D_compact 46 = .ok (.iload_n 1, 1) := by decide +kernel
theorem d_D_compact_47 : decode c_D_compact 47 = .ok (.iload_n 2, 1) := by decide +kernel
theorem d_D_compact_48 : decode c_D_compact 48 = .ok (.invokevirtual 104, 3) := by decide +kernel
theorem d_D_compact_51 : decode c_D_compact 51 = .ok (.istore_n 3, 1) := by decide +kernel
theorem d_D_compact_52 : decode c_D_compact 52 = .ok (.aload_n 0, 1) := by decide +kernel
theorem d_D_compact_53 : decode c_D_compact 53 = .ok (.iload_n 1, 1) := by decide +kernel
theorem d_D_compact_54 : decode c_D_compact 54 = .ok (.iload_n 2, 1) := by decide +kernel
theorem d_D_compact_55 : decode c_D_compact 55 = .ok (.invokevirtual 110, 3) := by decide +kernel
theorem d_D_compact_58 : decode c_D_compact 58 = .ok (.istore 4, 2) := by decide +kernel
theorem d_D_compact_60 : decode c_D_compact 60 = .ok (.iconst 0, 1) := by decide +kernel
theorem d_D_compact_61 : decode c_D_compact 61 = .ok (.istore 5, 2) := by decide +kernel
theorem d_D_compact_63 : decode c_D_compact 63 = .ok (.iload 5, 2) := by decide +kernel
theorem d_D_compact_65 : decode c_D_compact 65 = .ok (.iconst 4, 1) := by decide +kernel
theorem d_D_compact_66 : decode c_D_compact 66 = .ok (.if_icmp .ge (32), 3) := by decide +kernel
theorem d_D_compact_69 : decode c_D_compact 69 = .ok (.aload_n 0, 1) := by decide +kernel
theorem d_D_compact_70 : decode c_D_compact 70 = .ok (.iload_n 1, 1) := by decide +kernel
theorem d_D_compact_71 : decode c_D_compact 71 = .ok (.iload 5, 2) := by decide +kernel
theorem d_D_compact_73 : decode c_D_compact 73 = .ok (.iload_n 2, 1) := by decide +kernel
theorem d_D_compact_74 : decode c_D_compact 74 = .ok (.invokevirtual 181, 3) := by decide +kernel
theorem d_D_compact_77 : decode c_D_compact 77 = .ok (.istore 6, 2) := by decide +kernel
theorem d_D_compact_79 : decode c_D_compact 79 = .ok (.aload_n 0, 1) := by decide +kernel
theorem d_D_compact_80 : decode c_D_compact 80 = .ok (.getfield 29, 3) := by decide +kernel
theorem d_D_compact_83 : decode c_D_compact 83 = .ok (.iconst 4, 1) := by decide +kernel
theorem d_D_compact_84 : decode c_D_compact 84 = .ok (.iload_n 1, 1) := by decide +kernel
theorem d_D_compact_85 : decode c_D_compact 85 = .ok (.imul, 1) := by decide +kernel
theorem d_D_compact_86 : decode c_D_compact 86 = .ok (.iload 5, 2) := by decide +kernel
theorem d_D_compact_88 : decode c_D_compact 88 = .ok (.iadd, 1) := by decide +kernel
theorem d_D_compact_89 : decode c_D_compact 89 = .ok (.iload 6, 2) := by decide +kernel
theorem d_D_compact_91 : decode c_D_compact 91 = .ok (.iastore, 1) := by decide +kernel
theorem d_D_compact_92 : decode c_D_compact 92 = .ok (.iinc 5 (1), 3) := by decide +kernel
theorem d_D_compact_95 : decode c_D_compact 95 = .ok (.goto (-32), 3) := by decide +kernel
theorem d_D_compact_98 : decode c_D_compact 98 = .ok (.aload_n 0, 1) := by decide +kernel
theorem d_D_compact_99 : decode c_D_compact 99 = .ok (.iload_n 1, 1) := by decide +kernel
theorem d_D_compact_100 : decode c_D_compact 100 = .ok (.iload_n 2, 1) := by decide +kernel
theorem d_D_compact_101 : decode c_D_compact 101 = .ok (.invokevirtual 200, 3) := by decide +kernel
theorem d_D_compact_104 : decode c_D_compact 104 = .ok (.aload_n 0, 1) := by decide +kernel
theorem d_D_compact_105 : decode c_D_compact 105 = .ok (.getfield 20, 3) := by decide +kernel
theorem d_D_compact_108 : decode c_D_compact 108 = .ok (.iload_n 1, 1) := by decide +kernel
theorem d_D_compact_109 : decode c_D_compact 109 = .ok (.iload_n 2, 1) := by decide +kernel
theorem d_D_compact_110 : decode c_D_compact 110 = .ok (.iastore, 1) := by decide +kernel
theorem d_D_compact_111 : decode c_D_compact 111 = .ok (.aload_n 0, 1) := by decide +kernel
theorem d_D_compact_112 : decode c_D_compact 112 = .ok (.getfield 23, 3) := by decide +kernel
theorem d_D_compact_115 : decode c_D_compact 115 = .ok (.iload_n 1, 1) := by decide +kernel
theorem d_D_compact_116 : decode c_D_compact 116 = .ok (.iload_n 3, 1) := by decide +kernel
theorem d_D_compact_117 : decode c_D_compact 117 = .ok (.iastore, 1) := by decide +kernel
theorem d_D_compact_118 : decode c_D_compact 118 = .ok (.aload_n 0, 1) := by decide +kernel
theorem d_D_compact_119 : decode c_D_compact 119 = .ok (.getfield 26, 3) := by decide +kernel
theorem d_D_compact_122 : decode c_D_compact 122 = .ok (.iload_n 1, 1) := by decide +kernel
theorem d_D_compact_123 : decode c_D_compact 123 = .ok (.iload 4, 2) := by decide +kernel
theorem d_D_compact_125 : decode c_D_compact 125 = .ok (.iastore, 1) := by decide +kernel
theorem d_D_compact_126 : decode c_D_compact 126 = .ok (.iconst 1, 1) := by decide +kernel
theorem d_D_compact_127 : decode c_D_compact 127 = .ok (.ireturn, 1) := by decide +kernel
theorem d_D_shift_0 : decode c_D_shift 0 = .ok (.iload_n 2, 1) := by decide +kernel
theorem d_D_shift_1 : decode c_D_shift 1 = .ok (.aload_n 0, 1) := by decide +kernel
theorem d_D_shift_2 : decode c_D_shift 2 = .ok (.getfield 20, 3) := by decide +kernel
theorem d_D_shift_5 : decode c_D_shift 5 = .ok (.iload_n 1, 1) := by decide +kernel
theorem d_D_shift_6 : decode c_D_shift 6 = .ok (.iaload, 1) := by decide +kernel
theorem d_D_shift_7 : decode c_D_shift 7 = .ok (.isub, 1) := by decide +kernel
theorem d_D_shift_8 : decode c_D_shift 8 = .ok (.istore_n 3, 1) := by decide +kernel
theorem d_D_shift_9 : decode c_D_shift 9 = .ok (.aload_n 0, 1) := by decide +kernel
theorem d_D_shift_10 : decode c_D_shift 10 = .ok (.getfield 32, 3) := by decide +kernel
theorem d_D_shift_13 : decode c_D_shift 13 = .ok (.iload_n 1, 1) := by decide +kernel
theorem d_D_shift_14 : decode c_D_shift 14 = .ok (.iaload, 1) := by decide +kernel
theorem d_D_shift_15 : decode c_D_shift 15 = .ok (.iload_n 3, 1) := by decide +kernel
theorem d_D_shift_16 : decode c_D_shift 16 = .ok (.isub, 1) := by decide +kernel
theorem d_D_shift_17 : decode c_D_shift 17 = .ok (.istore 4, 2) := by decide +kernel
theorem d_D_shift_19 : decode c_D_shift 19 = .ok (.bipush (48), 2) := by decide +kernel
theorem d_D_shift_21 : decode c_D_shift 21 = .ok (.iload_n 1, 1) := by decide +kernel
theorem d_D_shift_22 : decode c_D_shift 22 = .ok (.imul, 1) := by decide +kernel
theorem d_D_shift_23 : decode c_D_shift 23 = .ok (.istore 5, 2) := by decide +kernel
theorem d_D_shift_25 : decode c_D_shift 25 = .ok (.iload 5, 2) := by decide +kernel
theorem d_D_shift_27 : decode c_D_shift 27 = .ok (.bipush (48), 2) := by decide +kernel
theorem d_D_shift_29 : decode c_D_shift 29 = .ok (.iload_n 1, 1) := by decide +kernel
theorem d_D_shift_30 : decode c_D_shift 30 = .ok (.imul, 1) := by decide +kernel
theorem d_D_shift_31 : decode c_D_shift 31 = .ok (.iload 4, 2) := by decide +kernel
theorem d_D_shift_33 : decode c_D_shift 33 = .ok (.iadd, 1) := by decide +kernel
theorem d_D_shift_34 : decode c_D_shift 34 = .ok (.if_icmp .ge (73), 3) := by decide +kernel
theorem d_D_shift_37 : decode c_D_shift 37 = .ok (.aload_n 0, 1) := by decide +kernel
theorem d_D_shift_38 : decode c_D_shift 38 = .ok (.getfield 35, 3) := by decide +kernel
theorem d_D_shift_41 : decode c_D_shift 41 = .ok (.iload 5, 2) := by decide +kernel
theorem d_D_shift_43 : decode c_D_shift 43 = .ok (.aload_n 0, 1) := by decide +kernel
theorem d_D_shift_44 : decode c_D_shift 44 = .ok (.getfield 35, 3) := by decide +kernel
theorem d_D_shift_47 : decode c_D_shift 47 = .ok (.iload 5, 2) := by decide +kernel
theorem d_D_shift_49 : decode c_D_shift 49 = .ok (.iload_n 3, 1) := by decide +kernel
theorem d_D_shift_50 : decode c_D_shift 50 = .ok (.iadd, 1) := by decide +kernel
theorem d_D_shift_51 : decode c_D_shift 51 = .ok (.iaload, 1) := by decide +kernel
theorem d_D_shift_52 : decode c_D_shift 52 = .ok (.iastore, 1) := by decide +kernel
theorem d_D_shift_53 : decode c_D_shift 53 = .ok (.aload_n 0, 1) := by decide +kernel
theorem d_D_shift_54 : decode c_D_shift 54 = .ok (.getfield 38, 3) := by decide +kernel
theorem d_D_shift_57 : decode c_D_shift 57 = .ok (.iload 5, 2) := by decide +kernel
theorem d_D_shift_59 : decode c_D_shift 59 = .ok (.aload_n 0, 1) := by decide +kernel
theorem d_D_shift_60 : decode c_D_shift 60 = .ok (.getfield 38, 3) := by decide +kernel
theorem d_D_shift_63 : decode c_D_shift 63 = .ok (.iload 5, 2) := by decide +kernel
theorem d_D_shift_65 : decode c_D_shift 65 = .ok (.iload_n 3, 1) := by decide +kernel
theorem d_D_shift_66 : decode c_D_shift 66 = .ok (.iadd, 1) := by decide +kernel
theorem d_D_shift_67 : decode c_D_shift 67 = .ok (.iaload, 1) := by decide +kernel
theorem d_D_shift_68 : decode c_D_shift 68 = .ok (.iastore, 1) := by decide +kernel
theorem d_D_shift_69 : decode c_D_shift 69 = .ok (.aload_n 0, 1) := by decide +kernel
theorem d_D_shift_70 : decode c_D_shift 70 = .ok (.getfield 41, 3) := by decide +kernel
theorem d_D_shift_73 : decode c_D_shift 73 = .ok (.iload 5, 2) := by decide +kernel
theorem d_D_shift_75 : decode c_D_shift 75 = .ok (.aload_n 0, 1) := by decide +kernel
theorem d_D_shift_76 : decode c_D_shift 76 = .ok (.getfield 41, 3) := by decide +kernel
theorem d_D_shift_79 : decode c_D_shift 79 = .ok (.iload 5, 2) := by decide +kernel
theorem d_D_shift_81 : decode c_D_shift 81 = .ok (.iload_n 3, 1) := by decide +kernel
theorem d_D_shift_82 : decode c_D_shift 82 = .ok (.iadd, 1) := by decide +kernel
theorem d_D_shift_83 : decode c_D_shift 83 = .ok (.iaload, 1) := by decide +kernel
theorem d_D_shift_84 : decode c_D_shift 84 = .ok (.iastore, 1) := by decide +kernel
theorem d_D_shift_85 : decode c_D_shift 85 = .ok (.aload_n 0, 1) := by decide +kernel
theorem d_D_shift_86 : decode c_D_shift 86 = .ok (.getfield 44, 3) := by decide +kernel
theorem d_D_shift_89 : decode c_D_shift 89 = .ok (.iload 5, 2) := by decide +kernel
theorem d_D_shift_91 : decode c_D_shift 91 = .ok (.aload_n 0, 1) := by decide +kernel
theorem d_D_shift_92 : decode c_D_shift 92 = .ok (.getfield 44, 3) := by decide +kernel
theorem d_D_shift_95 : decode c_D_shift 95 = .ok (.iload 5, 2) := by decide +kernel
theorem d_D_shift_97 : decode c_D_shift 97 = .ok (.iload_n 3, 1) := by decide +kernel
theorem d_D_shift_98 : decode c_D_shift 98 = .ok (.iadd, 1) := by decide +kernel
theorem d_D_shift_99 : decode c_D_shift 99 = .ok (.iaload, 1) := by decide +kernel
theorem d_D_shift_100 : decode c_D_shift 100 = .ok (.iastore, 1) := by decide +kernel
theorem d_D_shift_101 : decode c_D_shift 101 = .ok (.iinc 5 (1), 3) := by decide +kernel
theorem d_D_shift_104 : decode c_D_shift 104 = .ok (.goto (-79), 3) := by decide +kernel
theorem d_D_shift_107 : decode c_D_shift 107 = .ok (.aload_n 0, 1) := by decide +kernel
theorem d_D_shift_108 : decode c_D_shift 108 = .ok (.getfield 32, 3) := by decide +kernel
theorem d_D_shift_111 : decode c_D_shift 111 = .ok (.iload_n 1, 1) := by decide +kernel
theorem d_D_shift_112 : decode c_D_shift 112 = .ok (.iload 4, 2) := by decide +kernel
theorem d_D_shift_114 : decode c_D_shift 114 = .ok (.iastore, 1) := by decide +kernel
theorem d_D_shift_115 : decode c_D_shift 115 = .ok (.return_, 1) := by decide +kernel
theorem d_D_crash_0 : decode c_D_crash 0 = .ok (.aload_n 0, 1) := by decide +kernel
theorem d_D_crash_1 : decode c_D_crash 1 = .ok (.iconst 0, 1) := by decide +kernel
theorem d_D_crash_2 : decode c_D_crash 2 = .ok (.putfield 92, 3) := by decide +kernel
theorem d_D_crash_5 : decode c_D_crash 5 = .ok (.iload_n 1, 1) := by decide +kernel
theorem d_D_crash_6 : decode c_D_crash 6 = .ok (.invokestatic 143, 3) := by decide +kernel
theorem d_D_crash_9 : decode c_D_crash 9 = .ok (.ifCond .eq (12), 3) := by decide +kernel
theorem d_D_crash_12 : decode c_D_crash 12 = .ok (.aload_n 0, 1) := by decide +kernel
theorem d_D_crash_13 : decode c_D_crash 13 = .ok (.getfield 7, 3) := by decide +kernel
theorem d_D_crash_16 : decode c_D_crash 16 = .ok (.iload_n 1, 1) := by decide +kernel
theorem d_D_crash_17 : decode c_D_crash 17 = .ok (.baload, 1) := by decide +kernel
theorem d_D_crash_18 : decode c_D_crash 18 = .ok (.ifCond .eq (5), 3) := by decide +kernel
theorem d_D_crash_21 : decode c_D_crash 21 = .ok (.iconst 0, 1) := by decide +kernel
theorem d_D_crash_22 : decode c_D_crash 22 = .ok (.ireturn, 1) := by decide +kernel
theorem d_D_crash_23 : decode c_D_crash 23 = .ok (.aload_n 0, 1) := by decide +kernel
theorem d_D_crash_24 : decode c_D_crash 24 = .ok (.getfield 7, 3) := by decide +kernel
theorem d_D_crash_27 : decode c_D_crash 27 = .ok (.iload_n 1, 1) := by decide +kernel
theorem d_D_crash_28 : decode c_D_crash 28 = .ok (.iconst 1, 1) := by decide +kernel
theorem d_D_crash_29 : decode c_D_crash 29 = .ok (.bastore, 1) := by decide +kernel
theorem d_D_crash_30 : decode c_D_crash 30 = .ok (.aload_n 0, 1) := by decide +kernel
theorem d_D_crash_31 : decode c_D_crash 31 = .ok (.iload_n 1, 1) := by decide +kernel
theorem d_D_crash_32 : decode c_D_crash 32 = .ok (.invokevirtual 139, 3) := by decide +kernel
theorem d_D_crash_35 : decode c_D_crash 35 = .ok (.aload_n 0, 1) := by decide +kernel
theorem d_D_crash_36 : decode c_D_crash 36 = .ok (.getfield 50, 3) := by decide +kernel
theorem d_D_crash_39 : decode c_D_crash 39 = .ok (.iload_n 1, 1) := by decide +kernel
theorem d_D_crash_40 : decode c_D_crash 40 = .ok (.aload_n 0, 1) := by decide +kernel
theorem d_D_crash_41 : decode c_D_crash 41 = .ok (.getfield 20, 3) := by decide +kernel
theorem d_D_crash_44 : decode c_D_crash 44 = .ok (.iload_n 1, 1) := by decide +kernel
theorem d_D_crash_45 : decode c_D_crash 45 = .ok (.iaload, 1) := by decide +kernel
theorem d_D_crash_46 : decode c_D_crash 46 = .ok (.iastore, 1) := by decide +kernel
theorem d_D_crash_47 : decode c_D_crash 47 = .ok (.aload_n 0, 1) := by decide +kernel
theorem d_D_crash_48 : decode c_D_crash 48 = .ok (.getfield 53, 3) := by decide +kernel
theorem d_D_crash_51 : decode c_D_crash 51 = .ok (.iload_n 1, 1) := by decide +kernel
theorem d_D_crash_52 : decode c_D_crash 52 = .ok (.iconst 0, 1) := by decide +kernel
theorem d_D_crash_53 : decode c_D_crash 53 = .ok (.bastore, 1) := by decide +kernel
theorem d_D_crash_54 : decode c_D_crash 54 = .ok (.iconst 1, 1) := by decide +kernel
theorem d_D_crash_55 : decode c_D_crash 55 = .ok (.ireturn, 1) := by decide +kernel
theorem d_D_restart_0 : decode c_D_restart 0 = .ok (.aload_n 0, 1) := by decide +kernel
theorem d_D_restart_1 : decode c_D_restart 1 = .ok (.iconst 0, 1) := by decide +kernel
theorem d_D_restart_2 : decode c_D_restart 2 = .ok (.putfield 92, 3) := by decide +kernel
theorem d_D_restart_5 : decode c_D_restart 5 = .ok (.iload_n 1, 1) := by decide +kernel
theorem d_D_restart_6 : decode c_D_restart 6 = .ok (.invokestatic 143, 3) := by decide +kernel
theorem d_D_restart_9 : decode c_D_restart 9 = .ok (.ifCond .eq (12), 3) := by decide +kernel
theorem d_D_restart_12 : decode c_D_restart 12 = .ok (.aload_n 0, 1) := by decide +kernel
theorem d_D_restart_13 : decode c_D_restart 13 = .ok (.getfield 7, 3) := by decide +kernel
theorem d_D_restart_16 : decode c_D_restart 16 = .ok (.iload_n 1, 1) := by decide +kernel
theorem d_D_restart_17 : decode c_D_restart 17 = .ok (.baload, 1) := by decide +kernel
theorem d_D_restart_18 : decode c_D_restart 18 = .ok (.ifCond .ne (5), 3) := by decide +kernel
theorem d_D_restart_21 : decode c_D_restart 21 = .ok (.iconst 0, 1) := by decide +kernel
theorem d_D_restart_22 : decode c_D_restart 22 = .ok (.ireturn, 1) := by decide +kernel
theorem d_D_restart_23 : decode c_D_restart 23 = .ok (.aload_n 0, 1) := by decide +kernel
theorem d_D_restart_24 : decode c_D_restart 24 = .ok (.getfield 7, 3) := by decide +kernel
theorem d_D_restart_27 : decode c_D_restart 27 = .ok (.iload_n 1, 1) := by decide +kernel
theorem d_D_restart_28 : decode c_D_restart 28 = .ok (.iconst 0, 1) := by decide +kernel
theorem d_D_restart_29 : decode c_D_restart 29 = .ok (.bastore, 1) := by decide +kernel
theorem d_D_restart_30 : decode c_D_restart 30 = .ok (.iconst 1, 1) := by decide +kernel
theorem d_D_restart_31 : decode c_D_restart 31 = .ok (.ireturn, 1) := by decide +kernel
theorem d_D_deliver_0 : decode c_D_deliver 0 = .ok (.aload_n 0, 1) := by decide +kernel
theorem d_D_deliver_1 : decode c_D_deliver 1 = .ok (.iconst 0, 1) := by decide +kernel
theorem d_D_deliver_2 : decode c_D_deliver 2 = .ok (.putfield 92, 3) := by decide +kernel
theorem d_D_deliver_5 : decode c_D_deliver 5 = .ok (.iload_n 1, 1) := by decide +kernel
theorem d_D_deliver_6 : decode c_D_deliver 6 = .ok (.ifCond .lt (11), 3) := by decide +kernel
theorem d_D_deliver_9 : decode c_D_deliver 9 = .ok (.iload_n 1, 1) := by decide +kernel
theorem d_D_deliver_10 : decode c_D_deliver 10 = .ok (.aload_n 0, 1) := by decide +kernel
theorem d_D_deliver_11 : decode c_D_deliver 11 = .ok (.getfield 119, 3) := by decide +kernel
theorem d_D_deliver_14 : decode c_D_deliver 14 = .ok (.if_icmp .lt (5), 3) := by decide +kernel
theorem d_D_deliver_17 : decode c_D_deliver 17 = .ok (.iconst (-1), 1) := by decide +kernel
theorem d_D_deliver_18 : decode c_D_deliver 18 = .ok (.ireturn, 1) := by decide +kernel
theorem d_D_deliver_19 : decode c_D_deliver 19 = .ok (.iconst 0, 1) := by decide +kernel
theorem d_D_deliver_20 : decode c_D_deliver 20 = .ok (.istore_n 2, 1) := by decide +kernel
theorem d_D_deliver_21 : decode c_D_deliver 21 = .ok (.iload_n 2, 1) := by decide +kernel
theorem d_D_deliver_22 : decode c_D_deliver 22 = .ok (.bipush (20), 2) := by decide +kernel
theorem d_D_deliver_24 : decode c_D_deliver 24 = .ok (.if_icmp .ge (26), 3) := by decide +kernel
theorem d_D_deliver_27 : decode c_D_deliver 27 = .ok (.aload_n 0, 1) := by decide +kernel
theorem d_D_deliver_28 : decode c_D_deliver 28 = .ok (.getfield 89, 3) := by decide +kernel
theorem d_D_deliver_31 : decode c_D_deliver 31 = .ok (.iload_n 2, 1) := by decide +kernel
theorem d_D_deliver_32 : decode c_D_deliver 32 = .ok (.aload_n 0, 1) := by decide +kernel
theorem d_D_deliver_33 : decode c_D_deliver 33 = .ok (.getfield 86, 3) := by decide +kernel
theorem d_D_deliver_36 : decode c_D_deliver 36 = .ok (.bipush (20), 2) := by decide +kernel
theorem d_D_deliver_38 : decode c_D_deliver 38 = .ok (.iload_n 1, 1) := by decide +kernel
theorem d_D_deliver_39 : decode c_D_deliver 39 = .ok (.imul, 1) := by decide +kernel
theorem d_D_deliver_40 : decode c_D_deliver 40 = .ok (.iload_n 2, 1) := by decide +kernel
theorem d_D_deliver_41 : decode c_D_deliver 41 = .ok (.iadd, 1) := by decide +kernel
theorem d_D_deliver_42 : decode c_D_deliver 42 = .ok (.iaload, 1) := by decide +kernel
theorem d_D_deliver_43 : decode c_D_deliver 43 = .ok (.iastore, 1) := by decide +kernel
theorem d_D_deliver_44 : decode c_D_deliver 44 = .ok (.iinc 2 (1), 3) := by decide +kernel
theorem d_D_deliver_47 : decode c_D_deliver 47 = .ok (.goto (-26), 3) := by decide +kernel
theorem d_D_deliver_50 : decode c_D_deliver 50 = .ok (.aload_n 0, 1) := by decide +kernel
theorem d_D_deliver_51 : decode c_D_deliver 51 = .ok (.iload_n 1, 1) := by decide +kernel
theorem d_D_deliver_52 : decode c_D_deliver 52 = .ok (.invokevirtual 203, 3) := by decide +kernel
theorem d_D_deliver_55 : decode c_D_deliver 55 = .ok (.aload_n 0, 1) := by decide +kernel
theorem d_D_deliver_56 : decode c_D_deliver 56 = .ok (.getfield 89, 3) := by decide +kernel
theorem d_D_deliver_59 : decode c_D_deliver 59 = .ok (.iconst 0, 1) := by decide +kernel
theorem d_D_deliver_60 : decode c_D_deliver 60 = .ok (.iaload, 1) := by decide +kernel
theorem d_D_deliver_61 : decode c_D_deliver 61 = .ok (.istore_n 2, 1) := by decide +kernel
theorem d_D_deliver_62 : decode c_D_deliver 62 = .ok (.aload_n 0, 1) := by decide +kernel
theorem d_D_deliver_63 : decode c_D_deliver 63 = .ok (.getfield 89, 3) := by decide +kernel
theorem d_D_deliver_66 : decode c_D_deliver 66 = .ok (.iconst 2, 1) := by decide +kernel
theorem d_D_deliver_67 : decode c_D_deliver 67 = .ok (.iaload, 1) := by decide +kernel
theorem d_D_deliver_68 : decode c_D_deliver 68 = .ok (.istore_n 3, 1) := by decide +kernel
theorem d_D_deliver_69 : decode c_D_deliver 69 = .ok (.aload_n 0, 1) := by decide +kernel
theorem d_D_deliver_70 : decode c_D_deliver 70 = .ok (.getfield 7, 3) := by decide +kernel
theorem d_D_deliver_73 : decode c_D_deliver 73 = .ok (.iload_n 3, 1) := by decide +kernel
theorem d_D_deliver_74 : decode c_D_deliver 74 = .ok (.baload, 1) := by decide +kernel
theorem d_D_deliver_75 : decode c_D_deliver 75 = .ok (.ifCond .eq (5), 3) := by decide +kernel
theorem d_D_deliver_78 : decode c_D_deliver 78 = .ok (.iload_n 2, 1) := by decide +kernel
theorem d_D_deliver_79 : decode c_D_deliver 79 = .ok (.ireturn, 1) := by decide +kernel
theorem d_D_deliver_80 : decode c_D_deliver 80 = .ok (.iload_n 2, 1) := by decide +kernel
theorem d_D_deliver_81 : decode c_D_deliver 81 = .ok (.iconst 1, 1) := by decide +kernel
theorem d_D_deliver_82 : decode c_D_deliver 82 = .ok (.if_icmp .le (29), 3) := by decide +kernel
theorem d_D_deliver_85 : decode c_D_deliver 85 = .ok (.aload_n 0, 1) := by decide +kernel
theorem d_D_deliver_86 : decode c_D_deliver 86 = .ok (.getfield 89, 3) := by decide +kernel
theorem d_D_deliver_89 : decode c_D_deliver 89 = .ok (.iconst 3, 1) := by decide +kernel
theorem d_D_deliver_90 : decode c_D_deliver 90 = .ok (.iaload, 1) := by decide +kernel
theorem d_D_deliver_91 : decode c_D_deliver 91 = .ok (.aload_n 0, 1) := by decide +kernel
theorem d_D_deliver_92 : decode c_D_deliver 92 = .ok (.getfield 13, 3) := by decide +kernel
theorem d_D_deliver_95 : decode c_D_deliver 95 = .ok (.iload_n 3, 1) := by decide +kernel
theorem d_D_deliver_96 : decode c_D_deliver 96 = .ok (.iaload, 1) := by decide +kernel
theorem d_D_deliver_97 : decode c_D_deliver 97 = .ok (.if_icmp .le (14), 3) := by decide +kernel
theorem d_D_deliver_100 : decode c_D_deliver 100 = .ok (.aload_n 0, 1) := by decide +kernel
theorem d_D_deliver_101 : decode c_D_deliver 101 = .ok (.iload_n 3, 1) := by decide +kernel
theorem d_D_deliver_102 : decode c_D_deliver 102 = .ok (.aload_n 0, 1) := by decide +kernel
theorem d_D_deliver_103 : decode c_D_deliver 103 = .ok (.getfield 89, 3) := by decide +kernel
theorem d_D_deliver_106 : decode c_D_deliver 106 = .ok (.iconst 3, 1) := by decide +kernel
theorem d_D_deliver_107 : decode c_D_deliver 107 = .ok (.iaload, 1) := by decide +kernel
theorem d_D_deliver_108 : decode c_D_deliver 108 = .ok (.invokevirtual 206, 3) := by decide +kernel
theorem d_D_deliver_111 : decode c_D_deliver 111 = .ok (.iload_n 2, 1) := by decide +kernel
theorem d_D_deliver_112 : decode c_D_deliver 112 = .ok (.tableswitch (148) (0) (5) #[40, 60, 80, 100, 120, 134], 40) := by decide +kernel
theorem d_D_deliver_152 : decode c_D_deliver 152 = .ok (.aload_n 0, 1) := by decide +kernel
theorem d_D_deliver_153 : decode c_D_deliver 153 = .ok (.iload_n 3, 1) := by decide +kernel
theorem d_D_deliver_154 : decode c_D_deliver 154 = .ok (.aload_n 0, 1) := by decide +kernel
theorem d_D_deliver_155 : decode c_D_deliver 155 = .ok (.getfield 89, 3) := by decide +kernel
theorem d_D_deliver_158 : decode c_D_deliver 158 = .ok (.iconst 1, 1) := by decide +kernel
theorem d_D_deliver_159 : decode c_D_deliver 159 = .ok (.iaload, 1) := by decide +kernel
theorem d_D_deliver_160 : decode c_D_deliver 160 = .ok (.aload_n 0, 1) := by decide +kernel
theorem d_D_deliver_161 : decode c_D_deliver 161 = .ok (.getfield 89, 3) := by decide +kernel
theorem d_D_deliver_164 : decode c_D_deliver 164 = .ok (.iconst 3, 1) := by decide +kernel
theorem d_D_deliver_165 : decode c_D_deliver 165 = .ok (.iaload, 1) := by decide +kernel
theorem d_D_deliver_166 : decode c_D_deliver 166 = .ok (.invokevirtual 209, 3) := by decide +kernel
theorem d_D_deliver_169 : decode c_D_deliver 169 = .ok (.goto (102), 3) := by decide +kernel
theorem d_D_deliver_172 : decode c_D_deliver 172 = .ok (.aload_n 0, 1) := by decide +kernel
theorem d_D_deliver_173 : decode c_D_deliver 173 = .ok (.iload_n 3, 1) := by decide +kernel
theorem d_D_deliver_174 : decode c_D_deliver 174 = .ok (.aload_n 0, 1) := by decide +kernel
theorem d_D_deliver_175 : decode c_D_deliver 175 = .ok (.getfield 89, 3) := by decide +kernel
theorem d_D_deliver_178 : decode c_D_deliver 178 = .ok (.iconst 1, 1) := by decide +kernel
theorem d_D_deliver_179 : decode c_D_deliver 179 = .ok (.iaload, 1) := by decide +kernel
theorem d_D_deliver_180 : decode c_D_deliver 180 = .ok (.aload_n 0, 1) := by decide +kernel
theorem d_D_deliver_181 : decode c_D_deliver 181 = .ok (.getfield 89, 3) := by decide +kernel
theorem d_D_deliver_184 : decode c_D_deliver 184 = .ok (.iconst 3, 1) := by decide +kernel
theorem d_D_deliver_185 : decode c_D_deliver 185 = .ok (.iaload, 1) := by decide +kernel
theorem d_D_deliver_186 : decode c_D_deliver 186 = .ok (.invokevirtual 212, 3) := by decide +kernel
theorem d_D_deliver_189 : decode c_D_deliver 189 = .ok (.goto (82), 3) := by decide +kernel
theorem d_D_deliver_192 : decode c_D_deliver 192 = .ok (.aload_n 0, 1) := by decide +kernel
theorem d_D_deliver_193 : decode c_D_deliver 193 = .ok (.iload_n 3, 1) := by decide +kernel
theorem d_D_deliver_194 : decode c_D_deliver 194 = .ok (.aload_n 0, 1) := by decide +kernel
theorem d_D_deliver_195 : decode c_D_deliver 195 = .ok (.getfield 89, 3) := by decide +kernel
theorem d_D_deliver_198 : decode c_D_deliver 198 = .ok (.iconst 1, 1) := by decide +kernel
theorem d_D_deliver_199 : decode c_D_deliver 199 = .ok (.iaload, 1) := by decide +kernel
theorem d_D_deliver_200 : decode c_D_deliver 200 = .ok (.aload_n 0, 1) := by decide +kernel
theorem d_D_deliver_201 : decode c_D_deliver 201 = .ok (.getfield 89, 3) := by decide +kernel
theorem d_D_deliver_204 : decode c_D_deliver 204 = .ok (.iconst 3, 1) := by decide +kernel
theorem d_D_deliver_205 : decode c_D_deliver 205 = .ok (.iaload, 1) := by decide +kernel
theorem d_D_deliver_206 : decode c_D_deliver 206 = .ok (.invokevirtual 215, 3) := by decide +kernel
theorem d_D_deliver_209 : decode c_D_deliver 209 = .ok (.goto (62), 3) := by decide +kernel
theorem d_D_deliver_212 : decode c_D_deliver 212 = .ok (.aload_n 0, 1) := by decide +kernel
theorem d_D_deliver_213 : decode c_D_deliver 213 = .ok (.iload_n 3, 1) := by decide +kernel
theorem d_D_deliver_214 : decode c_D_deliver 214 = .ok (.aload_n 0, 1) := by decide +kernel
theorem d_D_deliver_215 : decode c_D_deliver 215 = .ok (.getfield 89, 3) := by decide +kernel
theorem d_D_deliver_218 : decode c_D_deliver 218 = .ok (.iconst 1, 1) := by decide +kernel
theorem d_D_deliver_219 : decode c_D_deliver 219 = .ok (.iaload, 1) := by decide +kernel
theorem d_D_deliver_220 : decode c_D_deliver 220 = .ok (.aload_n 0, 1) := by decide +kernel
theorem d_D_deliver_221 : decode c_D_deliver 221 = .ok (.getfield 89, 3) := by decide +kernel
theorem d_D_deliver_224 : decode c_D_deliver 224 = .ok (.iconst 3, 1) := by decide +kernel
theorem d_D_deliver_225 : decode c_D_deliver 225 = .ok (.iaload, 1) := by decide +kernel
theorem d_D_deliver_226 : decode c_D_deliver 226 = .ok (.invokevirtual 218, 3) := by decide +kernel
theorem d_D_deliver_229 : decode c_D_deliver 229 = .ok (.goto (42), 3) := by decide +kernel
theorem d_D_deliver_232 : decode c_D_deliver 232 = .ok (.aload_n 0, 1) := by decide +kernel
theorem d_D_deliver_233 : decode c_D_deliver 233 = .ok (.iload_n 3, 1) := by decide +kernel
theorem d_D_deliver_234 : decode c_D_deliver 234 = .ok (.aload_n 0, 1) := by decide +kernel
theorem d_D_deliver_235 : decode c_D_deliver 235 = .ok (.getfield 89, 3) := by decide +kernel
theorem d_D_deliver_238 : decode c_D_deliver 238 = .ok (.iconst 1, 1) := by decide +kernel
theorem d_D_deliver_239 : decode c_D_deliver 239 = .ok (.iaload, 1) := by decide +kernel
theorem d_D_deliver_240 : decode c_D_deliver 240 = .ok (.invokevirtual 221, 3) := by decide +kernel
theorem d_D_deliver_243 : decode c_D_deliver 243 = .ok (.goto (28), 3) := by decide +kernel
theorem d_D_deliver_246 : decode c_D_deliver 246 = .ok (.aload_n 0, 1) := by decide +kernel
theorem d_D_deliver_247 : decode c_D_deliver 247 = .ok (.iload_n 3, 1) := by decide +kernel
theorem d_D_deliver_248 : decode c_D_deliver 248 = .ok (.aload_n 0, 1) := by decide +kernel
theorem d_D_deliver_249 : decode c_D_deliver 249 = .ok (.getfield 89, 3) := by decide +kernel
theorem d_D_deliver_252 : decode c_D_deliver 252 = .ok (.iconst 1, 1) := by decide +kernel
theorem d_D_deliver_253 : decode c_D_deliver 253 = .ok (.iaload, 1) := by decide +kernel
theorem d_D_deliver_254 : decode c_D_deliver 254 = .ok (.invokevirtual 224, 3) := by decide +kernel
theorem d_D_deliver_257 : decode c_D_deliver 257 = .ok (.goto (14), 3) := by decide +kernel
theorem d_D_deliver_260 : decode c_D_deliver 260 = .ok (.aload_n 0, 1) := by decide +kernel
theorem d_D_deliver_261 : decode c_D_deliver 261 = .ok (.iload_n 3, 1) := by decide +kernel
theorem d_D_deliver_262 : decode c_D_deliver 262 = .ok (.aload_n 0, 1) := by decide +kernel
theorem d_D_deliver_263 : decode c_D_deliver 263 = .ok (.getfield 89, 3) := by decide +kernel
theorem d_D_deliver_266 : decode c_D_deliver 266 = .ok (.iconst 1, 1) := by decide +kernel
theorem d_D_deliver_267 : decode c_D_deliver 267 = .ok (.iaload, 1) := by decide +kernel
theorem d_D_deliver_268 : decode c_D_deliver 268 = .ok (.invokevirtual 227, 3) := by decide +kernel
theorem d_D_deliver_271 : decode c_D_deliver 271 = .ok (.iload_n 2, 1) := by decide +kernel
theorem d_D_deliver_272 : decode c_D_deliver 272 = .ok (.ireturn, 1) := by decide +kernel
theorem d_D_takeOut_0 : decode c_D_takeOut 0 = .ok (.bipush (20), 2) := by decide +kernel
theorem d_D_takeOut_2 : decode c_D_takeOut 2 = .ok (.iload_n 1, 1) := by decide +kernel
theorem d_D_takeOut_3 : decode c_D_takeOut 3 = .ok (.imul, 1) := by decide +kernel
theorem d_D_takeOut_4 : decode c_D_takeOut 4 = .ok (.istore_n 2, 1) := by decide +kernel
theorem d_D_takeOut_5 : decode c_D_takeOut 5 = .ok (.iload_n 2, 1) := by decide +kernel
theorem d_D_takeOut_6 : decode c_D_takeOut 6 = .ok (.bipush (20), 2) := by decide +kernel
theorem d_D_takeOut_8 : decode c_D_takeOut 8 = .ok (.aload_n 0, 1) := by decide +kernel
theorem d_D_takeOut_9 : decode c_D_takeOut 9 = .ok (.getfield 119, 3) := by decide +kernel
theorem d_D_takeOut_12 : decode c_D_takeOut 12 = .ok (.imul, 1) := by decide +kernel
theorem d_D_takeOut_13 : decode c_D_takeOut 13 = .ok (.bipush (20), 2) := by decide +kernel
theorem d_D_takeOut_15 : decode c_D_takeOut 15 = .ok (.isub, 1) := by decide +kernel
theorem d_D_takeOut_16 : decode c_D_takeOut 16 = .ok (.if_icmp .ge (24), 3) := by decide +kernel
theorem d_D_takeOut_19 : decode c_D_takeOut 19 = .ok (.aload_n 0, 1) := by decide +kernel
theorem d_D_takeOut_20 : decode c_D_takeOut 20 = .ok (.getfield 86, 3) := by decide +kernel
theorem d_D_takeOut_23 : decode c_D_takeOut 23 = .ok (.iload_n 2, 1) := by decide +kernel
theorem d_D_takeOut_24 : decode c_D_takeOut 24 = .ok (.aload_n 0, 1) := by decide +kernel
theorem d_D_takeOut_25 : decode c_D_takeOut 25 = .ok (.getfield 86, 3) := by decide +kernel
theorem d_D_takeOut_28 : decode c_D_takeOut 28 = .ok (.iload_n 2, 1) := by decide +kernel
theorem d_D_takeOut_29 : decode c_D_takeOut 29 = .ok (.bipush (20), 2) := by decide +kernel
theorem d_D_takeOut_31 : decode c_D_takeOut 31 = .ok (.iadd, 1) := by decide +kernel
theorem d_D_takeOut_32 : decode c_D_takeOut 32 = .ok (.iaload, 1) := by decide +kernel
theorem d_D_takeOut_33 : decode c_D_takeOut 33 = .ok (.iastore, 1) := by decide +kernel
theorem d_D_takeOut_34 : decode c_D_takeOut 34 = .ok (.iinc 2 (1), 3) := by decide +kernel
theorem d_D_takeOut_37 : decode c_D_takeOut 37 = .ok (.goto (-32), 3) := by decide +kernel
theorem d_D_takeOut_40 : decode c_D_takeOut 40 = .ok (.aload_n 0, 1) := by decide +kernel
theorem d_D_takeOut_41 : decode c_D_takeOut 41 = .ok (.dup, 1) := by decide +kernel
theorem d_D_takeOut_42 : decode c_D_takeOut 42 = .ok (.getfield 119, 3) := by decide +kernel
theorem d_D_takeOut_45 : decode c_D_takeOut 45 = .ok (.iconst 1, 1) := by decide +kernel
theorem d_D_takeOut_46 : decode c_D_takeOut 46 = .ok (.isub, 1) := by decide +kernel
theorem d_D_takeOut_47 : decode c_D_takeOut 47 = .ok (.putfield 119, 3) := by decide +kernel
theorem d_D_takeOut_50 : decode c_D_takeOut 50 = .ok (.return_, 1) := by decide +kernel
theorem d_D_newTerm_0 : decode c_D_newTerm 0 = .ok (.aload_n 0, 1) := by decide +kernel
theorem d_D_newTerm_1 : decode c_D_newTerm 1 = .ok (.getfield 13, 3) := by decide +kernel
theorem d_D_newTerm_4 : decode c_D_newTerm 4 = .ok (.iload_n 1, 1) := by decide +kernel
theorem d_D_newTerm_5 : decode c_D_newTerm 5 = .ok (.iload_n 2, 1) := by decide +kernel
theorem d_D_newTerm_6 : decode c_D_newTerm 6 = .ok (.iastore, 1) := by decide +kernel
theorem d_D_newTerm_7 : decode c_D_newTerm 7 = .ok (.aload_n 0, 1) := by decide +kernel
theorem d_D_newTerm_8 : decode c_D_newTerm 8 = .ok (.getfield 17, 3) := by decide +kernel
theorem d_D_newTerm_11 : decode c_D_newTerm 11 = .ok (.iload_n 1, 1) := by decide +kernel
theorem d_D_newTerm_12 : decode c_D_newTerm 12 = .ok (.iconst (-1), 1) := by decide +kernel
theorem d_D_newTerm_13 : decode c_D_newTerm 13 = .ok (.iastore, 1) := by decide +kernel
theorem d_D_newTerm_14 : decode c_D_newTerm 14 = .ok (.aload_n 0, 1) := by decide +kernel
theorem d_D_newTerm_15 : decode c_D_newTerm 15 = .ok (.iload_n 1, 1) := by decide +kernel
theorem d_D_newTerm_16 : decode c_D_newTerm 16 = .ok (.invokevirtual 139, 3) := by decide +kernel
theorem d_D_newTerm_19 : decode c_D_newTerm 19 = .ok (.return_, 1) := by decide +kernel
theorem d_D_question_0 : decode c_D_question 0 = .ok (.aload_n 0, 1) := by decide +kernel
theorem d_D_question_1 : decode c_D_question 1 = .ok (.getfield 53, 3) := by decide +kernel
theorem d_D_question_4 : decode c_D_question 4 = .ok (.iload_n 1, 1) := by decide +kernel
theorem d_D_question_5 : decode c_D_question 5 = .ok (.baload, 1) := by decide +kernel
theorem d_D_question_6 : decode c_D_question 6 = .ok (.ifCond .ne (37), 3) := by decide +kernel
theorem d_D_question_9 : decode c_D_question 9 = .ok (.iload_n 3, 1) := by decide +kernel
theorem d_D_question_10 : decode c_D_question 10 = .ok (.aload_n 0, 1) := by decide +kernel
theorem d_D_question_11 : decode c_D_question 11 = .ok (.getfield 13, 3) := by decide +kernel
theorem d_D_question_14 : decode c_D_question 14 = .ok (.iload_n 1, 1) := by decide +kernel
theorem d_D_question_15 : decode c_D_question 15 = .ok (.iaload, 1) := by decide +kernel
theorem d_D_question_16 : decode c_D_question 16 = .ok (.if_icmp .le (27), 3) := by decide +kernel
theorem d_D_question_19 : decode c_D_question 19 = .ok (.aload_n 0, 1) := by decide +kernel
theorem d_D_question_20 : decode c_D_question 20 = .ok (.aload_n 0, 1) := by decide +kernel
theorem d_D_question_21 : decode c_D_question 21 = .ok (.getfield 89, 3) := by decide +kernel
theorem d_D_question_24 : decode c_D_question 24 = .ok (.iconst 4, 1) := by decide +kernel
theorem d_D_question_25 : decode c_D_question 25 = .ok (.iaload, 1) := by decide +kernel
theorem d_D_question_26 : decode c_D_question 26 = .ok (.aload_n 0, 1) := by decide +kernel
theorem d_D_question_27 : decode c_D_question 27 = .ok (.getfield 89, 3) := by decide +kernel
theorem d_D_question_30 : decode c_D_question 30 = .ok (.iconst 5, 1) := by decide +kernel
theorem d_D_question_31 : decode c_D_question 31 = .ok (.iaload, 1) := by decide +kernel
theorem d_D_question_32 : decode c_D_question 32 = .ok (.iload_n 1, 1) := by decide +kernel
theorem d_D_question_33 : decode c_D_question 33 = .ok (.invokevirtual 230, 3) := by decide +kernel
theorem d_D_question_36 : decode c_D_question 36 = .ok (.ifCond .ne (7), 3) := by decide +kernel
theorem d_D_question_39 : decode c_D_question 39 = .ok (.iconst 1, 1) := by decide +kernel
theorem d_D_question_40 : decode c_D_question 40 = .ok (.goto (4), 3) := by decide +kernel
theorem d_D_question_43 : decode c_D_question 43 = .ok (.iconst 0, 1) := by decide +kernel
theorem d_D_question_44 : decode c_D_question 44 = .ok (.istore 4, 2) := by decide +kernel
theorem d_D_question_46 : decode c_D_question 46 = .ok (.aload_n 0, 1) := by decide +kernel
theorem d_D_question_47 : decode c_D_question 47 = .ok (.iconst 1, 1) := by decide +kernel
theorem d_D_question_48 : decode c_D_question 48 = .ok (.iload_n 1, 1) := by decide +kernel
theorem d_D_question_49 : decode c_D_question 49 = .ok (.iload_n 2, 1) := by decide +kernel
theorem d_D_question_50 : decode c_D_question 50 = .ok (.iload 4, 2) := by decide +kernel
theorem d_D_question_52 : decode c_D_question 52 = .ok (.iload 4, 2) := by decide +kernel
theorem d_D_question_54 : decode c_D_question 54 = .ok (.ifCond .eq (7), 3) := by decide +kernel
theorem d_D_question_57 : decode c_D_question 57 = .ok (.iload_n 3, 1) := by decide +kernel
theorem d_D_question_58 : decode c_D_question 58 = .ok (.goto (9), 3) := by decide +kernel
theorem d_D_question_61 : decode c_D_question 61 = .ok (.aload_n 0, 1) := by decide +kernel
theorem d_D_question_62 : decode c_D_question 62 = .ok (.getfield 13, 3) := by decide +kernel
theorem d_D_question_65 : decode c_D_question 65 = .ok (.iload_n 1, 1) := by decide +kernel
theorem d_D_question_66 : decode c_D_question 66 = .ok (.iaload, 1) := by decide +kernel
theorem d_D_question_67 : decode c_D_question 67 = .ok (.invokevirtual 234, 3) := by decide +kernel
theorem d_D_question_70 : decode c_D_question 70 = .ok (.return_, 1) := by decide +kernel
theorem d_D_liesBefore_0 : decode c_D_liesBefore 0 = .ok (.iload_n 2, 1) := by decide +kernel
theorem d_D_liesBefore_1 : decode c_D_liesBefore 1 = .ok (.aload_n 0, 1) := by decide +kernel
theorem d_D_liesBefore_2 : decode c_D_liesBefore 2 = .ok (.iload_n 3, 1) := by decide +kernel
theorem d_D_liesBefore_3 : decode c_D_liesBefore 3 = .ok (.invokevirtual 126, 3) := by decide +kernel
theorem d_D_liesBefore_6 : decode c_D_liesBefore 6 = .ok (.if_icmp .lt (21), 3) := by decide +kernel
theorem d_D_liesBefore_9 : decode c_D_liesBefore 9 = .ok (.iload_n 2, 1) := by decide +kernel
theorem d_D_liesBefore_10 : decode c_D_liesBefore 10 = .ok (.aload_n 0, 1) := by decide +kernel
theorem d_D_liesBefore_11 : decode c_D_liesBefore 11 = .ok (.iload_n 3, 1) := by decide +kernel
theorem d_D_liesBefore_12 : decode c_D_liesBefore 12 = .ok (.invokevirtual 126, 3) := by decide +kernel
theorem d_D_liesBefore_15 : decode c_D_liesBefore 15 = .ok (.if_icmp .ne (16), 3) := by decide +kernel
theorem d_D_liesBefore_18 : decode c_D_liesBefore 18 = .ok (.iload_n 1, 1) := by decide +kernel
theorem d_D_liesBefore_19 : decode c_D_liesBefore 19 = .ok (.aload_n 0, 1) := by decide +kernel
theorem d_D_liesBefore_20 : decode c_D_liesBefore 20 = .ok (.iload_n 3, 1) := by decide +kernel
theorem d_D_liesBefore_21 : decode c_D_liesBefore 21 = .ok (.invokevirtual 96, 3) := by decide +kernel
theorem d_D_liesBefore_24 : decode c_D_liesBefore 24 = .ok (.if_icmp .ge (7), 3) := by decide +kernel
theorem d_D_liesBefore_27 : decode c_D_liesBefore 27 = .ok (.iconst 1, 1) := by decide +kernel
theorem d_D_liesBefore_28 : decode c_D_liesBefore 28 = .ok (.goto (4), 3) := by decide +kernel
theorem d_D_liesBefore_31 : decode c_D_liesBefore 31 = .ok (.iconst 0, 1) := by decide +kernel
theorem d_D_liesBefore_32 : decode c_D_liesBefore 32 = .ok (.ireturn, 1) := by decide +kernel
theorem d_D_reply_0 : decode c_D_reply 0 = .ok (.aload_n 0, 1) := by decide +kernel
theorem d_D_reply_1 : decode c_D_reply 1 = .ok (.iload_n 1, 1) := by decide +kernel
theorem d_D_reply_2 : decode c_D_reply 2 = .ok (.iload_n 2, 1) := by decide +kernel
theorem d_D_reply_3 : decode c_D_reply 3 = .ok (.iload_n 3, 1) := by decide +kernel
theorem d_D_reply_4 : decode c_D_reply 4 = .ok (.iload 5, 2) := by decide +kernel
theorem d_D_reply_6 : decode c_D_reply 6 = .ok (.invokevirtual 122, 3) := by decide +kernel
theorem d_D_reply_9 : decode c_D_reply 9 = .ok (.aload_n 0, 1) := by decide +kernel
theorem d_D_reply_10 : decode c_D_reply 10 = .ok (.getfield 89, 3) := by decide +kernel
theorem d_D_reply_13 : decode c_D_reply 13 = .ok (.bipush (6), 2) := by decide +kernel
theorem d_D_reply_15 : decode c_D_reply 15 = .ok (.iload 4, 2) := by decide +kernel
theorem d_D_reply_17 : decode c_D_reply 17 = .ok (.ifCond .eq (7), 3) := by decide +kernel
theorem d_D_reply_20 : decode c_D_reply 20 = .ok (.iconst 1, 1) := by decide +kernel
theorem d_D_reply_21 : decode c_D_reply 21 = .ok (.goto (4), 3) := by decide +kernel
theorem d_D_reply_24 : decode c_D_reply 24 = .ok (.iconst 0, 1) := by decide +kernel
theorem d_D_reply_25 : decode c_D_reply 25 = .ok (.iastore, 1) := by decide +kernel
theorem d_D_reply_26 : decode c_D_reply 26 = .ok (.aload_n 0, 1) := by decide +kernel
theorem d_D_reply_27 : decode c_D_reply 27 = .ok (.invokevirtual 129, 3) := by decide +kernel
theorem d_D_reply_30 : decode c_D_reply 30 = .ok (.return_, 1) := by decide +kernel
theorem d_D_answered_0 : decode c_D_answered 0 = .ok (.aload_n 0, 1) := by decide +kernel
theorem d_D_answered_1 : decode c_D_answered 1 = .ok (.getfield 89, 3) := by decide +kernel
theorem d_D_answered_4 : decode c_D_answered 4 = .ok (.bipush (6), 2) := by decide +kernel
theorem d_D_answered_6 : decode c_D_answered 6 = .ok (.iaload, 1) := by decide +kernel
theorem d_D_answered_7 : decode c_D_answered 7 = .ok (.iconst 1, 1) := by decide +kernel
theorem d_D_answered_8 : decode c_D_answered 8 = .ok (.if_icmp .ne (46), 3) := by decide +kernel
theorem d_D_answered_11 : decode c_D_answered 11 = .ok (.aload_n 0, 1) := by decide +kernel
theorem d_D_answered_12 : decode c_D_answered 12 = .ok (.getfield 47, 3) := by decide +kernel
theorem d_D_answered_15 : decode c_D_answered 15 = .ok (.iload_n 1, 1) := by decide +kernel
theorem d_D_answered_16 : decode c_D_answered 16 = .ok (.iaload, 1) := by decide +kernel
theorem d_D_answered_17 : decode c_D_answered 17 = .ok (.iconst 1, 1) := by decide +kernel
theorem d_D_answered_18 : decode c_D_answered 18 = .ok (.if_icmp .ne (15), 3) := by decide +kernel
theorem d_D_answered_21 : decode c_D_answered 21 = .ok (.iload_n 3, 1) := by decide +kernel
theorem d_D_answered_22 : decode c_D_answered 22 = .ok (.aload_n 0, 1) := by decide +kernel
theorem d_D_answered_23 : decode c_D_answered 23 = .ok (.getfield 13, 3) := by decide +kernel
theorem d_D_answered_26 : decode c_D_answered 26 = .ok (.iload_n 1, 1) := by decide +kernel
theorem d_D_answered_27 : decode c_D_answered 27 = .ok (.iaload, 1) := by decide +kernel
theorem d_D_answered_28 : decode c_D_answered 28 = .ok (.iconst 1, 1) := by decide +kernel
theorem d_D_answered_29 : decode c_D_answered 29 = .ok (.iadd, 1) := by decide +kernel
theorem d_D_answered_30 : decode c_D_answered 30 = .ok (.if_icmp .eq (4), 3) := by decide +kernel
theorem d_D_answered_33 : decode c_D_answered 33 = .ok (.return_, 1) := by decide +kernel
theorem d_D_answered_34 : decode c_D_answered 34 = .ok (.aload_n 0, 1) := by decide +kernel
theorem d_D_answered_35 : decode c_D_answered 35 = .ok (.getfield 56, 3) := by decide +kernel
theorem d_D_answered_38 : decode c_D_answered 38 = .ok (.iload_n 1, 1) := by decide +kernel
theorem d_D_answered_39 : decode c_D_answered 39 = .ok (.dup2, 1) := by decide +kernel
theorem d_D_answered_40 : decode c_D_answered 40 = .ok (.iaload, 1) := by decide +kernel
theorem d_D_answered_41 : decode c_D_answered 41 = .ok (.iconst 1, 1) := by decide +kernel
theorem d_D_answered_42 : decode c_D_answered 42 = .ok (.iload_n 2, 1) := by decide +kernel
theorem d_D_answered_43 : decode c_D_answered 43 = .ok (.ishl, 1) := by decide +kernel
theorem d_D_answered_44 : decode c_D_answered 44 = .ok (.ior, 1) := by decide +kernel
theorem d_D_answered_45 : decode c_D_answered 45 = .ok (.iastore, 1) := by decide +kernel
theorem d_D_answered_46 : decode c_D_answered 46 = .ok (.aload_n 0, 1) := by decide +kernel
theorem d_D_answered_47 : decode c_D_answered 47 = .ok (.iload_n 1, 1) := by decide +kernel
theorem d_D_answered_48 : decode c_D_answered 48 = .ok (.invokevirtual 154, 3) := by decide +kernel
theorem d_D_answered_51 : decode c_D_answered 51 = .ok (.goto (19), 3) := by decide +kernel
theorem d_D_answered_54 : decode c_D_answered 54 = .ok (.iload_n 3, 1) := by decide +kernel
theorem d_D_answered_55 : decode c_D_answered 55 = .ok (.aload_n 0, 1) := by decide +kernel
theorem d_D_answered_56 : decode c_D_answered 56 = .ok (.getfield 13, 3) := by decide +kernel
theorem d_D_answered_59 : decode c_D_answered 59 = .ok (.iload_n 1, 1) := by decide +kernel
theorem d_D_answered_60 : decode c_D_answered 60 = .ok (.iaload, 1) := by decide +kernel
theorem d_D_answered_61 : decode c_D_answered 61 = .ok (.if_icmp .le (9), 3) := by decide +kernel
theorem d_D_answered_64 : decode c_D_answered 64 = .ok (.aload_n 0, 1) := by decide +kernel
theorem d_D_answered_65 : decode c_D_answered 65 = .ok (.iload_n 1, 1) := by decide +kernel
theorem d_D_answered_66 : decode c_D_answered 66 = .ok (.iload_n 3, 1) := by decide +kernel
theorem d_D_answered_67 : decode c_D_answered 67 = .ok (.invokevirtual 206, 3) := by decide +kernel
theorem d_D_answered_70 : decode c_D_answered 70 = .ok (.return_, 1) := by decide +kernel
theorem d_D_called_0 : decode c_D_called 0 = .ok (.iload_n 3, 1) := by decide +kernel
theorem d_D_called_1 : decode c_D_called 1 = .ok (.aload_n 0, 1) := by decide +kernel
theorem d_D_called_2 : decode c_D_called 2 = .ok (.getfield 13, 3) := by decide +kernel
theorem d_D_called_5 : decode c_D_called 5 = .ok (.iload_n 1, 1) := by decide +kernel
theorem d_D_called_6 : decode c_D_called 6 = .ok (.iaload, 1) := by decide +kernel
theorem d_D_called_7 : decode c_D_called 7 = .ok (.if_icmp .ne (47), 3) := by decide +kernel
theorem d_D_called_10 : decode c_D_called 10 = .ok (.aload_n 0, 1) := by decide +kernel
theorem d_D_called_11 : decode c_D_called 11 = .ok (.getfield 17, 3) := by decide +kernel
theorem d_D_called_14 : decode c_D_called 14 = .ok (.iload_n 1, 1) := by decide +kernel
theorem d_D_called_15 : decode c_D_called 15 = .ok (.iaload, 1) := by decide +kernel
theorem d_D_called_16 : decode c_D_called 16 = .ok (.iconst (-1), 1) := by decide +kernel
theorem d_D_called_17 : decode c_D_called 17 = .ok (.if_icmp .eq (13), 3) := by decide +kernel
theorem d_D_called_20 : decode c_D_called 20 = .ok (.aload_n 0, 1) := by decide +kernel
theorem d_D_called_21 : decode c_D_called 21 = .ok (.getfield 17, 3) := by decide +kernel
theorem d_D_called_24 : decode c_D_called 24 = .ok (.iload_n 1, 1) := by decide +kernel
theorem d_D_called_25 : decode c_D_called 25 = .ok (.iaload, 1) := by decide +kernel
theorem d_D_called_26 : decode c_D_called 26 = .ok (.iload_n 2, 1) := by decide +kernel
theorem d_D_called_27 : decode c_D_called 27 = .ok (.if_icmp .ne (27), 3) := by decide +kernel
theorem d_D_called_30 : decode c_D_called 30 = .ok (.aload_n 0, 1) := by decide +kernel
theorem d_D_called_31 : decode c_D_called 31 = .ok (.aload_n 0, 1) := by decide +kernel
theorem d_D_called_32 : decode c_D_called 32 = .ok (.getfield 89, 3) := by decide +kernel
theorem d_D_called_35 : decode c_D_called 35 = .ok (.iconst 4, 1) := by decide +kernel
theorem d_D_called_36 : decode c_D_called 36 = .ok (.iaload, 1) := by decide +kernel
theorem d_D_called_37 : decode c_D_called 37 = .ok (.aload_n 0, 1) := by decide +kernel
theorem d_D_called_38 : decode c_D_called 38 = .ok (.getfield 89, 3) := by decide +kernel
theorem d_D_called_41 : decode c_D_called 41 = .ok (.iconst 5, 1) := by decide +kernel
theorem d_D_called_42 : decode c_D_called 42 = .ok (.iaload, 1) := by decide +kernel
theorem d_D_called_43 : decode c_D_called 43 = .ok (.iload_n 1, 1) := by decide +kernel
theorem d_D_called_44 : decode c_D_called 44 = .ok (.invokevirtual 230, 3) := by decide +kernel
theorem d_D_called_47 : decode c_D_called 47 = .ok (.ifCond .ne (7), 3) := by decide +kernel
theorem d_D_called_50 : decode c_D_called 50 = .ok (.iconst 1, 1) := by decide +kernel
theorem d_D_called_51 : decode c_D_called 51 = .ok (.goto (4), 3) := by decide +kernel
theorem d_D_called_54 : decode c_D_called 54 = .ok (.iconst 0, 1) := by decide +kernel
theorem d_D_called_55 : decode c_D_called 55 = .ok (.istore 4, 2) := by decide +kernel
theorem d_D_called_57 : decode c_D_called 57 = .ok (.iload 4, 2) := by decide +kernel
theorem d_D_called_59 : decode c_D_called 59 = .ok (.ifCond .eq (10), 3) := by decide +kernel
theorem d_D_called_62 : decode c_D_called 62 = .ok (.aload_n 0, 1) := by decide +kernel
theorem d_D_called_63 : decode c_D_called 63 = .ok (.getfield 17, 3) := by decide +kernel
theorem d_D_called_66 : decode c_D_called 66 = .ok (.iload_n 1, 1) := by decide +kernel
theorem d_D_called_67 : decode c_D_called 67 = .ok (.iload_n 2, 1) := by decide +kernel
theorem d_D_called_68 : decode c_D_called 68 = .ok (.iastore, 1) := by decide +kernel
theorem d_D_called_69 : decode c_D_called 69 = .ok (.aload_n 0, 1) := by decide +kernel
theorem d_D_called_70 : decode c_D_called 70 = .ok (.iconst 3, 1) := by decide +kernel
theorem d_D_called_71 : decode c_D_called 71 = .ok (.iload_n 1, 1) := by decide +kernel
theorem d_D_called_72 : decode c_D_called 72 = .ok (.iload_n 2, 1) := by decide +kernel
theorem d_D_called_73 : decode c_D_called 73 = .ok (.iload 4, 2) := by decide +kernel
theorem d_D_called_75 : decode c_D_called 75 = .ok (.aload_n 0, 1) := by decide +kernel
theorem d_D_called_76 : decode c_D_called 76 = .ok (.getfield 13, 3) := by decide +kernel
theorem d_D_called_79 : decode c_D_called 79 = .ok (.iload_n 1, 1) := by decide +kernel
theorem d_D_called_80 : decode c_D_called 80 = .ok (.iaload, 1) := by decide +kernel
theorem d_D_called_81 : decode c_D_called 81 = .ok (.invokevirtual 234, 3) := by decide +kernel
theorem d_D_called_84 : decode c_D_called 84 = .ok (.return_, 1) := by decide +kernel
theorem d_D_voted_0 : decode c_D_voted 0 = .ok (.aload_n 0, 1) := by decide +kernel
theorem d_D_voted_1 : decode c_D_voted 1 = .ok (.getfield 89, 3) := by decide +kernel
theorem d_D_voted_4 : decode c_D_voted 4 = .ok (.bipush (6), 2) := by decide +kernel
theorem d_D_voted_6 : decode c_D_voted 6 = .ok (.iaload, 1) := by decide +kernel
theorem d_D_voted_7 : decode c_D_voted 7 = .ok (.ifCond .eq (23), 3) := by decide +kernel
theorem d_D_voted_10 : decode c_D_voted 10 = .ok (.aload_n 0, 1) := by decide +kernel
theorem d_D_voted_11 : decode c_D_voted 11 = .ok (.getfield 47, 3) := by decide +kernel
theorem d_D_voted_14 : decode c_D_voted 14 = .ok (.iload_n 1, 1) := by decide +kernel
theorem d_D_voted_15 : decode c_D_voted 15 = .ok (.iaload, 1) := by decide +kernel
theorem d_D_voted_16 : decode c_D_voted 16 = .ok (.iconst 2, 1) := by decide +kernel
theorem d_D_voted_17 : decode c_D_voted 17 = .ok (.if_icmp .ne (13), 3) := by decide +kernel
theorem d_D_voted_20 : decode c_D_voted 20 = .ok (.iload_n 3, 1) := by decide +kernel
theorem d_D_voted_21 : decode c_D_voted 21 = .ok (.aload_n 0, 1) := by decide +kernel
theorem d_D_voted_22 : decode c_D_voted 22 = .ok (.getfield 13, 3) := by decide +kernel
theorem d_D_voted_25 : decode c_D_voted 25 = .ok (.iload_n 1, 1) := by decide +kernel
theorem d_D_voted_26 : decode c_D_voted 26 = .ok (.iaload, 1) := by decide +kernel
theorem d_D_voted_27 : decode c_D_voted 27 = .ok (.if_icmp .eq (4), 3) := by decide +kernel
theorem d_D_voted_30 : decode c_D_voted 30 = .ok (.return_, 1) := by decide +kernel
theorem d_D_voted_31 : decode c_D_voted 31 = .ok (.aload_n 0, 1) := by decide +kernel
theorem d_D_voted_32 : decode c_D_voted 32 = .ok (.getfield 56, 3) := by decide +kernel
theorem d_D_voted_35 : decode c_D_voted 35 = .ok (.iload_n 1, 1) := by decide +kernel
theorem d_D_voted_36 : decode c_D_voted 36 = .ok (.dup2, 1) := by decide +kernel
theorem d_D_voted_37 : decode c_D_voted 37 = .ok (.iaload, 1) := by decide +kernel
theorem d_D_voted_38 : decode c_D_voted 38 = .ok (.iconst 1, 1) := by decide +kernel
theorem d_D_voted_39 : decode c_D_voted 39 = .ok (.iload_n 2, 1) := by decide +kernel
theorem d_D_voted_40 : decode c_D_voted 40 = .ok (.ishl, 1) := by decide +kernel
theorem d_D_voted_41 : decode c_D_voted 41 = .ok (.ior, 1) := by decide +kernel
theorem d_D_voted_42 : decode c_D_voted 42 = .ok (.iastore, 1) := by decide +kernel
theorem d_D_voted_43 : decode c_D_voted 43 = .ok (.aload_n 0, 1) := by decide +kernel
theorem d_D_voted_44 : decode c_D_voted 44 = .ok (.iload_n 1, 1) := by decide +kernel
theorem d_D_voted_45 : decode c_D_voted 45 = .ok (.invokevirtual 154, 3) := by decide +kernel
theorem d_D_voted_48 : decode c_D_voted 48 = .ok (.return_, 1) := by decide +kernel
theorem d_D_appended_0 : decode c_D_appended 0 = .ok (.aload_n 0, 1) := by decide +kernel
theorem d_D_appended_1 : decode c_D_appended 1 = .ok (.getfield 89, 3) := by decide +kernel
theorem d_D_appended_4 : decode c_D_appended 4 = .ok (.iconst 4, 1) := by decide +kernel
theorem d_D_appended_5 : decode c_D_appended 5 = .ok (.iaload, 1) := by decide +kernel
theorem d_D_appended_6 : decode c_D_appended 6 = .ok (.istore_n 3, 1) := by decide +kernel
theorem d_D_appended_7 : decode c_D_appended 7 = .ok (.aload_n 0, 1) := by decide +kernel
theorem d_D_appended_8 : decode c_D_appended 8 = .ok (.getfield 89, 3) := by decide +kernel
theorem d_D_appended_11 : decode c_D_appended 11 = .ok (.bipush (9), 2) := by decide +kernel
theorem d_D_appended_13 : decode c_D_appended 13 = .ok (.iaload, 1) := by decide +kernel
theorem d_D_appended_14 : decode c_D_appended 14 = .ok (.istore 4, 2) := by decide +kernel
theorem d_D_appended_16 : decode c_D_appended 16 = .ok (.aload_n 0, 1) := by decide +kernel
theorem d_D_appended_17 : decode c_D_appended 17 = .ok (.getfield 89, 3) := by decide +kernel
theorem d_D_appended_20 : decode c_D_appended 20 = .ok (.iconst 3, 1) := by decide +kernel
theorem d_D_appended_21 : decode c_D_appended 21 = .ok (.iaload, 1) := by decide +kernel
theorem d_D_appended_22 : decode c_D_appended 22 = .ok (.aload_n 0, 1) := by decide +kernel
theorem d_D_appended_23 : decode c_D_appended 23 = .ok (.getfield 13, 3) := by decide +kernel
theorem d_D_appended_26 : decode c_D_appended 26 = .ok (.iload_n 1, 1) := by decide +kernel
theorem d_D_appended_27 : decode c_D_appended 27 = .ok (.iaload, 1) := by decide +kernel
theorem d_D_appended_28 : decode c_D_appended 28 = .ok (.if_icmp .ge (13), 3) := by decide +kernel
theorem d_D_appended_31 : decode c_D_appended 31 = .ok (.aload_n 0, 1) := by decide +kernel
theorem d_D_appended_32 : decode c_D_appended 32 = .ok (.iload_n 1, 1) := by decide +kernel
theorem d_D_appended_33 : decode c_D_appended 33 = .ok (.iload_n 2, 1) := by decide +kernel
theorem d_D_appended_34 : decode c_D_appended 34 = .ok (.iconst 0, 1) := by decide +kernel
theorem d_D_appended_35 : decode c_D_appended 35 = .ok (.iconst 0, 1) := by decide +kernel
theorem d_D_appended_36 : decode c_D_appended 36 = .ok (.iconst 0, 1) := by decide +kernel
theorem d_D_appended_37 : decode c_D_appended 37 = .ok (.invokevirtual 238, 3) := by decide +kernel
theorem d_D_appended_40 : decode c_D_appended 40 = .ok (.return_, 1) := by decide +kernel
theorem d_D_appended_41 : decode c_D_appended 41 = .ok (.aload_n 0, 1) := by decide +kernel
theorem d_D_appended_42 : decode c_D_appended 42 = .ok (.iload_n 1, 1) := by decide +kernel
theorem d_D_appended_43 : decode c_D_appended 43 = .ok (.invokevirtual 139, 3) := by decide +kernel
theorem d_D_appended_46 : decode c_D_appended 46 = .ok (.aload_n 0, 1) := by decide +kernel
theorem d_D_appended_47 : decode c_D_appended 47 = .ok (.getfield 53, 3) := by decide +kernel
theorem d_D_appended_50 : decode c_D_appended 50 = .ok (.iload_n 1, 1) := by decide +kernel
theorem d_D_appended_51 : decode c_D_appended 51 = .ok (.iconst 1, 1) := by decide +kernel
theorem d_D_appended_52 : decode c_D_appended 52 = .ok (.bastore, 1) := by decide +kernel
theorem d_D_appended_53 : decode c_D_appended 53 = .ok (.iload_n 3, 1) := by decide +kernel
theorem d_D_appended_54 : decode c_D_appended 54 = .ok (.aload_n 0, 1) := by decide +kernel
theorem d_D_appended_55 : decode c_D_appended 55 = .ok (.iload_n 1, 1) := by decide +kernel
theorem d_D_appended_56 : decode c_D_appended 56 = .ok (.invokevirtual 96, 3) := by decide +kernel
theorem d_D_appended_59 : decode c_D_appended 59 = .ok (.if_icmp .gt (28), 3) := by decide +kernel
theorem d_D_appended_62 : decode c_D_appended 62 = .ok (.iload_n 3, 1) := by decide +kernel
theorem d_D_appended_63 : decode c_D_appended 63 = .ok (.aload_n 0, 1) := by decide +kernel
theorem d_D_appended_64 : decode c_D_appended 64 = .ok (.getfield 20, 3) := by decide +kernel
theorem d_D_appended_67 : decode c_D_appended 67 = .ok (.iload_n 1, 1) := by decide +kernel
theorem d_D_appended_68 : decode c_D_appended 68 = .ok (.iaload, 1) := by decide +kernel
theorem d_D_appended_69 : decode c_D_appended 69 = .ok (.if_icmp .lt (63), 3) := by decide +kernel
theorem d_D_appended_72 : decode c_D_appended 72 = .ok (.aload_n 0, 1) := by decide +kernel
theorem d_D_appended_73 : decode c_D_appended 73 = .ok (.iload_n 1, 1) := by decide +kernel
theorem d_D_appended_74 : decode c_D_appended 74 = .ok (.iload_n 3, 1) := by decide +kernel
theorem d_D_appended_75 : decode c_D_appended 75 = .ok (.invokevirtual 104, 3) := by decide +kernel
theorem d_D_appended_78 : decode c_D_appended 78 = .ok (.aload_n 0, 1) := by decide +kernel
theorem d_D_appended_79 : decode c_D_appended 79 = .ok (.getfield 89, 3) := by decide +kernel
theorem d_D_appended_82 : decode c_D_appended 82 = .ok (.iconst 5, 1) := by decide +kernel
theorem d_D_appended_83 : decode c_D_appended 83 = .ok (.iaload, 1) := by decide +kernel
theorem d_D_appended_84 : decode c_D_appended 84 = .ok (.if_icmp .eq (48), 3) := by decide +kernel
theorem d_D_appended_87 : decode c_D_appended 87 = .ok (.aload_n 0, 1) := by decide +kernel
theorem d_D_appended_88 : decode c_D_appended 88 = .ok (.iload_n 1, 1) := by decide +kernel
theorem d_D_appended_89 : decode c_D_appended 89 = .ok (.invokevirtual 96, 3) := by decide +kernel
theorem d_D_appended_92 : decode c_D_appended 92 = .ok (.iload_n 3, 1) := by decide +kernel
theorem d_D_appended_93 : decode c_D_appended 93 = .ok (.iconst 1, 1) := by decide +kernel
theorem d_D_appended_94 : decode c_D_appended 94 = .ok (.isub, 1) := by decide +kernel
theorem d_D_appended_95 : decode c_D_appended 95 = .ok (.if_icmp .ge (11), 3) := by decide +kernel
theorem d_D_appended_98 : decode c_D_appended 98 = .ok (.aload_n 0, 1) := by decide +kernel
theorem d_D_appended_99 : decode c_D_appended 99 = .ok (.iload_n 1, 1) := by decide +kernel
theorem d_D_appended_100 : decode c_D_appended 100 = .ok (.invokevirtual 96, 3) := by decide +kernel
theorem d_D_appended_103 : decode c_D_appended 103 = .ok (.goto (6), 3) := by decide +kernel
theorem d_D_appended_106 : decode c_D_appended 106 = .ok (.iload_n 3, 1) := by decide +kernel
theorem d_D_appended_107 : decode c_D_appended 107 = .ok (.iconst 1, 1) := by decide +kernel
theorem d_D_appended_108 : decode c_D_appended 108 = .ok (.isub, 1) := by decide +kernel
theorem d_D_appended_109 : decode c_D_appended 109 = .ok (.istore 5, 2) := by decide +kernel
theorem d_D_appended_111 : decode c_D_appended 111 = .ok (.aload_n 0, 1) := by decide +kernel
theorem d_D_appended_112 : decode c_D_appended 112 = .ok (.iload_n 1, 1) := by decide +kernel
theorem d_D_appended_113 : decode c_D_appended 113 = .ok (.iload_n 2, 1) := by decide +kernel
theorem d_D_appended_114 : decode c_D_appended 114 = .ok (.iconst 0, 1) := by decide +kernel
theorem d_D_appended_115 : decode c_D_appended 115 = .ok (.iload 5, 2) := by decide +kernel
theorem d_D_appended_117 : decode c_D_appended 117 = .ok (.ifCond .ge (7), 3) := by decide +kernel
theorem d_D_appended_120 : decode c_D_appended 120 = .ok (.iconst 0, 1) := by decide +kernel
theorem d_D_appended_121 : decode c_D_appended 121 = .ok (.goto (5), 3) := by decide +kernel
theorem d_D_appended_124 : decode c_D_appended 124 = .ok (.iload 5, 2) := by decide +kernel
theorem d_D_appended_126 : decode c_D_appended 126 = .ok (.iload 4, 2) := by decide +kernel
theorem d_D_appended_128 : decode c_D_appended 128 = .ok (.invokevirtual 238, 3) := by decide +kernel
theorem d_D_appended_131 : decode c_D_appended 131 = .ok (.return_, 1) := by decide +kernel
theorem d_D_appended_132 : decode c_D_appended 132 = .ok (.iload_n 3, 1) := by decide +kernel
theorem d_D_appended_133 : decode c_D_appended 133 = .ok (.istore 5, 2) := by decide +kernel
theorem d_D_appended_135 : decode c_D_appended 135 = .ok (.iconst 0, 1) := by decide +kernel
theorem d_D_appended_136 : decode c_D_appended 136 = .ok (.istore 6, 2) := by decide +kernel
theorem d_D_appended_138 : decode c_D_appended 138 = .ok (.iload 6, 2) := by decide +kernel
theorem d_D_appended_140 : decode c_D_appended 140 = .ok (.aload_n 0, 1) := by decide +kernel
theorem d_D_appended_141 : decode c_D_appended 141 = .ok (.getfield 89, 3) := by decide +kernel
theorem d_D_appended_144 : decode c_D_appended 144 = .ok (.bipush (7), 2) := by decide +kernel
theorem d_D_appended_146 : decode c_D_appended 146 = .ok (.iaload, 1) := by decide +kernel
theorem d_D_appended_147 : decode c_D_appended 147 = .ok (.if_icmp .ge (34), 3) := by decide +kernel
theorem d_D_appended_150 : decode c_D_appended 150 = .ok (.aload_n 0, 1) := by decide +kernel
theorem d_D_appended_151 : decode c_D_appended 151 = .ok (.iload_n 1, 1) := by decide +kernel
theorem d_D_appended_152 : decode c_D_appended 152 = .ok (.iload 5, 2) := by decide +kernel
theorem d_D_appended_154 : decode c_D_appended 154 = .ok (.iconst 1, 1) := by decide +kernel
theorem d_D_appended_155 : decode c_D_appended 155 = .ok (.iadd, 1) := by decide +kernel
theorem d_D_appended_156 : decode c_D_appended 156 = .ok (.bipush (10), 2) := by decide +kernel
theorem d_D_appended_158 : decode c_D_appended 158 = .ok (.iconst 4, 1) := by decide +kernel
theorem d_D_appended_159 : decode c_D_appended 159 = .ok (.iload 6, 2) := by decide +kernel
theorem d_D_appended_161 : decode c_D_appended 161 = .ok (.imul, 1) := by decide +kernel
theorem d_D_appended_162 : decode c_D_appended 162 = .ok (.iadd, 1) := by decide +kernel
theorem d_D_appended_163 : decode c_D_appended 163 = .ok (.invokevirtual 242, 3) := by decide +kernel
theorem d_D_appended_166 : decode c_D_appended 166 = .ok (.ifCond .ne (6), 3) := by decide +kernel
theorem d_D_appended_169 : decode c_D_appended 169 = .ok (.goto (12), 3) := by decide +kernel
theorem d_D_appended_172 : decode c_D_appended 172 = .ok (.iinc 5 (1), 3) := by decide +kernel
theorem d_D_appended_175 : decode c_D_appended 175 = .ok (.iinc 6 (1), 3) := by decide +kernel
theorem d_D_appended_178 : decode c_D_appended 178 = .ok (.goto (-40), 3) := by decide +kernel
theorem d_D_appended_181 : decode c_D_appended 181 = .ok (.aload_n 0, 1) := by decide +kernel
theorem d_D_appended_182 : decode c_D_appended 182 = .ok (.getfield 89, 3) := by decide +kernel
theorem d_D_appended_185 : decode c_D_appended 185 = .ok (.bipush (8), 2) := by decide +kernel
theorem d_D_appended_187 : decode c_D_appended 187 = .ok (.iaload, 1) := by decide +kernel
theorem d_D_appended_188 : decode c_D_appended 188 = .ok (.iload 5, 2) := by decide +kernel
theorem d_D_appended_190 : decode c_D_appended 190 = .ok (.if_icmp .ge (13), 3) := by decide +kernel
theorem d_D_appended_193 : decode c_D_appended 193 = .ok (.aload_n 0, 1) := by decide +kernel
theorem d_D_appended_194 : decode c_D_appended 194 = .ok (.getfield 89, 3) := by decide +kernel
theorem d_D_appended_197 : decode c_D_appended 197 = .ok (.bipush (8), 2) := by decide +kernel
theorem d_D_appended_199 : decode c_D_appended 199 = .ok (.iaload, 1) := by decide +kernel
theorem d_D_appended_200 : decode c_D_appended 200 = .ok (.goto (5), 3) := by decide +kernel
theorem d_D_appended_203 : decode c_D_appended 203 = .ok (.iload 5, 2) := by decide +kernel
theorem d_D_appended_205 : decode c_D_appended 205 = .ok (.istore 6, 2) := by decide +kernel
theorem d_D_appended_207 : decode c_D_appended 207 = .ok (.aload_n 0, 1) := by decide +kernel
theorem d_D_appended_208 : decode c_D_appended 208 = .ok (.getfield 50, 3) := by decide +kernel
theorem d_D_appended_211 : decode c_D_appended 211 = .ok (.iload_n 1, 1) := by decide +kernel
theorem d_D_appended_212 : decode c_D_appended 212 = .ok (.iload 6, 2) := by decide +kernel
theorem d_D_appended_214 : decode c_D_appended 214 = .ok (.aload_n 0, 1) := by decide +kernel
theorem d_D_appended_215 : decode c_D_appended 215 = .ok (.getfield 50, 3) := by decide +kernel
theorem d_D_appended_218 : decode c_D_appended 218 = .ok (.iload_n 1, 1) := by decide +kernel
theorem d_D_appended_219 : decode c_D_appended 219 = .ok (.iaload, 1) := by decide +kernel
theorem d_D_appended_220 : decode c_D_appended 220 = .ok (.if_icmp .le (8), 3) := by decide +kernel
theorem d_D_appended_223 : decode c_D_appended 223 = .ok (.iload 6, 2) := by decide +kernel
theorem d_D_appended_225 : decode c_D_appended 225 = .ok (.goto (9), 3) := by decide +kernel
theorem d_D_appended_228 : decode c_D_appended 228 = .ok (.aload_n 0, 1) := by decide +kernel
theorem d_D_appended_229 : decode c_D_appended 229 = .ok (.getfield 50, 3) := by decide +kernel
theorem d_D_appended_232 : decode c_D_appended 232 = .ok (.iload_n 1, 1) := by decide +kernel
theorem d_D_appended_233 : decode c_D_appended 233 = .ok (.iaload, 1) := by decide +kernel
theorem d_D_appended_234 : decode c_D_appended 234 = .ok (.iastore, 1) := by decide +kernel
theorem d_D_appended_235 : decode c_D_appended 235 = .ok (.aload_n 0, 1) := by decide +kernel
theorem d_D_appended_236 : decode c_D_appended 236 = .ok (.iload_n 1, 1) := by decide +kernel
theorem d_D_appended_237 : decode c_D_appended 237 = .ok (.iload_n 2, 1) := by decide +kernel
theorem d_D_appended_238 : decode c_D_appended 238 = .ok (.iconst 1, 1) := by decide +kernel
theorem d_D_appended_239 : decode c_D_appended 239 = .ok (.iload 5, 2) := by decide +kernel
theorem d_D_appended_241 : decode c_D_appended 241 = .ok (.iload 4, 2) := by decide +kernel
theorem d_D_appended_243 : decode c_D_appended 243 = .ok (.invokevirtual 238, 3) := by decide +kernel
theorem d_D_appended_246 : decode c_D_appended 246 = .ok (.return_, 1) := by decide +kernel
theorem d_D_result_0 : decode c_D_result 0 = .ok (.aload_n 0, 1) := by decide +kernel
theorem d_D_result_1 : decode c_D_result 1 = .ok (.iconst 5, 1) := by decide +kernel
theorem d_D_result_2 : decode c_D_result 2 = .ok (.iload_n 1, 1) := by decide +kernel
theorem d_D_result_3 : decode c_D_result 3 = .ok (.iload_n 2, 1) := by decide +kernel
theorem d_D_result_4 : decode c_D_result 4 = .ok (.aload_n 0, 1) := by decide +kernel
theorem d_D_result_5 : decode c_D_result 5 = .ok (.getfield 13, 3) := by decide +kernel
theorem d_D_result_8 : decode c_D_result 8 = .ok (.iload_n 1, 1) := by decide +kernel
theorem d_D_result_9 : decode c_D_result 9 = .ok (.iaload, 1) := by decide +kernel
theorem d_D_result_10 : decode c_D_result 10 = .ok (.invokevirtual 122, 3) := by decide +kernel
theorem d_D_result_13 : decode c_D_result 13 = .ok (.aload_n 0, 1) := by decide +kernel
theorem d_D_result_14 : decode c_D_result 14 = .ok (.getfield 89, 3) := by decide +kernel
theorem d_D_result_17 : decode c_D_result 17 = .ok (.iconst 4, 1) := by decide +kernel
theorem d_D_result_18 : decode c_D_result 18 = .ok (.iload 4, 2) := by decide +kernel
theorem d_D_result_20 : decode c_D_result 20 = .ok (.iastore, 1) := by decide +kernel
theorem d_D_result_21 : decode c_D_result 21 = .ok (.aload_n 0, 1) := by decide +kernel
theorem d_D_result_22 : decode c_D_result 22 = .ok (.getfield 89, 3) := by decide +kernel
theorem d_D_result_25 : decode c_D_result 25 = .ok (.bipush (6), 2) := by decide +kernel
theorem d_D_result_27 : decode c_D_result 27 = .ok (.iload_n 3, 1) := by decide +kernel
theorem d_D_result_28 : decode c_D_result 28 = .ok (.ifCond .eq (7), 3) := by decide +kernel
theorem d_D_result_31 : decode c_D_result 31 = .ok (.iconst 1, 1) := by decide +kernel
theorem d_D_result_32 : decode c_D_result 32 = .ok (.goto (4), 3) := by decide +kernel
theorem d_D_result_35 : decode c_D_result 35 = .ok (.iconst 0, 1) := by decide +kernel
theorem d_D_result_36 : decode c_D_result 36 = .ok (.iastore, 1) := by decide +kernel
theorem d_D_result_37 : decode c_D_result 37 = .ok (.aload_n 0, 1) := by decide +kernel
theorem d_D_result_38 : decode c_D_result 38 = .ok (.getfield 89, 3) := by decide +kernel
theorem d_D_result_41 : decode c_D_result 41 = .ok (.bipush (9), 2) := by decide +kernel
theorem d_D_result_43 : decode c_D_result 43 = .ok (.iload 5, 2) := by decide +kernel
theorem d_D_result_45 : decode c_D_result 45 = .ok (.iastore, 1) := by decide +kernel
theorem d_D_result_46 : decode c_D_result 46 = .ok (.aload_n 0, 1) := by decide +kernel
theorem d_D_result_47 : decode c_D_result 47 = .ok (.invokevirtual 129, 3) := by decide +kernel
theorem d_D_result_50 : decode c_D_result 50 = .ok (.return_, 1) := by decide +kernel
theorem d_D_takeEntry_0 : decode c_D_takeEntry 0 = .ok (.iload_n 2, 1) := by decide +kernel
theorem d_D_takeEntry_1 : decode c_D_takeEntry 1 = .ok (.aload_n 0, 1) := by decide +kernel
theorem d_D_takeEntry_2 : decode c_D_takeEntry 2 = .ok (.getfield 20, 3) := by decide +kernel
theorem d_D_takeEntry_5 : decode c_D_takeEntry 5 = .ok (.iload_n 1, 1) := by decide +kernel
theorem d_D_takeEntry_6 : decode c_D_takeEntry 6 = .ok (.iaload, 1) := by decide +kernel
theorem d_D_takeEntry_7 : decode c_D_takeEntry 7 = .ok (.if_icmp .gt (5), 3) := by decide +kernel
theorem d_D_takeEntry_10 : decode c_D_takeEntry 10 = .ok (.iconst 1, 1) := by decide +kernel
theorem d_D_takeEntry_11 : decode c_D_takeEntry 11 = .ok (.ireturn, 1) := by decide +kernel
theorem d_D_takeEntry_12 : decode c_D_takeEntry 12 = .ok (.iload_n 2, 1) := by decide +kernel
theorem d_D_takeEntry_13 : decode c_D_takeEntry 13 = .ok (.aload_n 0, 1) := by decide +kernel
theorem d_D_takeEntry_14 : decode c_D_takeEntry 14 = .ok (.iload_n 1, 1) := by decide +kernel
theorem d_D_takeEntry_15 : decode c_D_takeEntry 15 = .ok (.invokevirtual 96, 3) := by decide +kernel
theorem d_D_takeEntry_18 : decode c_D_takeEntry 18 = .ok (.if_icmp .gt (20), 3) := by decide +kernel
theorem d_D_takeEntry_21 : decode c_D_takeEntry 21 = .ok (.aload_n 0, 1) := by decide +kernel
theorem d_D_takeEntry_22 : decode c_D_takeEntry 22 = .ok (.iload_n 1, 1) := by decide +kernel
theorem d_D_takeEntry_23 : decode c_D_takeEntry 23 = .ok (.iload_n 2, 1) := by decide +kernel
theorem d_D_takeEntry_24 : decode c_D_takeEntry 24 = .ok (.invokevirtual 104, 3) := by decide +kernel
theorem d_D_takeEntry_27 : decode c_D_takeEntry 27 = .ok (.aload_n 0, 1) := by decide +kernel
theorem d_D_takeEntry_28 : decode c_D_takeEntry 28 = .ok (.getfield 89, 3) := by decide +kernel
theorem d_D_takeEntry_31 : decode c_D_takeEntry 31 = .ok (.iload_n 3, 1) := by decide +kernel
theorem d_D_takeEntry_32 : decode c_D_takeEntry 32 = .ok (.iaload, 1) := by decide +kernel
theorem d_D_takeEntry_33 : decode c_D_takeEntry 33 = .ok (.if_icmp .ne (5), 3) := by decide +kernel
theorem d_D_takeEntry_36 : decode c_D_takeEntry 36 = .ok (.iconst 1, 1) := by decide +kernel
theorem d_D_takeEntry_37 : decode c_D_takeEntry 37 = .ok (.ireturn, 1) := by decide +kernel
theorem d_D_takeEntry_38 : decode c_D_takeEntry 38 = .ok (.iload_n 2, 1) := by decide +kernel
theorem d_D_takeEntry_39 : decode c_D_takeEntry 39 = .ok (.aload_n 0, 1) := by decide +kernel
theorem d_D_takeEntry_40 : decode c_D_takeEntry 40 = .ok (.iload_n 1, 1) := by decide +kernel
theorem d_D_takeEntry_41 : decode c_D_takeEntry 41 = .ok (.invokevirtual 96, 3) := by decide +kernel
theorem d_D_takeEntry_44 : decode c_D_takeEntry 44 = .ok (.if_icmp .gt (19), 3) := by decide +kernel
theorem d_D_takeEntry_47 : decode c_D_takeEntry 47 = .ok (.aload_n 0, 1) := by decide +kernel
theorem d_D_takeEntry_48 : decode c_D_takeEntry 48 = .ok (.getfield 32, 3) := by decide +kernel
theorem d_D_takeEntry_51 : decode c_D_takeEntry 51 = .ok (.iload_n 1, 1) := by decide +kernel
theorem d_D_takeEntry_52 : decode c_D_takeEntry 52 = .ok (.iload_n 2, 1) := by decide +kernel
theorem d_D_takeEntry_53 : decode c_D_takeEntry 53 = .ok (.aload_n 0, 1) := by decide +kernel
theorem d_D_takeEntry_54 : decode c_D_takeEntry 54 = .ok (.getfield 20, 3) := by decide +kernel
theorem d_D_takeEntry_57 : decode c_D_takeEntry 57 = .ok (.iload_n 1, 1) := by decide +kernel
theorem d_D_takeEntry_58 : decode c_D_takeEntry 58 = .ok (.iaload, 1) := by decide +kernel
theorem d_D_takeEntry_59 : decode c_D_takeEntry 59 = .ok (.isub, 1) := by decide +kernel
theorem d_D_takeEntry_60 : decode c_D_takeEntry 60 = .ok (.iconst 1, 1) := by decide +kernel
theorem d_D_takeEntry_61 : decode c_D_takeEntry 61 = .ok (.isub, 1) := by decide +kernel
theorem d_D_takeEntry_62 : decode c_D_takeEntry 62 = .ok (.iastore, 1) := by decide +kernel
theorem d_D_takeEntry_63 : decode c_D_takeEntry 63 = .ok (.aload_n 0, 1) := by decide +kernel
theorem d_D_takeEntry_64 : decode c_D_takeEntry 64 = .ok (.getfield 32, 3) := by decide +kernel
theorem d_D_takeEntry_67 : decode c_D_takeEntry 67 = .ok (.iload_n 1, 1) := by decide +kernel
theorem d_D_takeEntry_68 : decode c_D_takeEntry 68 = .ok (.iaload, 1) := by decide +kernel
theorem d_D_takeEntry_69 : decode c_D_takeEntry 69 = .ok (.bipush (48), 2) := by decide +kernel
theorem d_D_takeEntry_71 : decode c_D_takeEntry 71 = .ok (.if_icmp .lt (5), 3) := by decide +kernel
theorem d_D_takeEntry_74 : decode c_D_takeEntry 74 = .ok (.iconst 0, 1) := by decide +kernel
theorem d_D_takeEntry_75 : decode c_D_takeEntry 75 = .ok (.ireturn, 1) := by decide +kernel
theorem d_D_takeEntry_76 : decode c_D_takeEntry 76 = .ok (.aload_n 0, 1) := by decide +kernel
theorem d_D_takeEntry_77 : decode c_D_takeEntry 77 = .ok (.iload_n 1, 1) := by decide +kernel
theorem d_D_takeEntry_78 : decode c_D_takeEntry 78 = .ok (.aload_n 0, 1) := by decide +kernel
theorem d_D_takeEntry_79 : decode c_D_takeEntry 79 = .ok (.getfield 89, 3) := by decide +kernel
theorem d_D_takeEntry_82 : decode c_D_takeEntry 82 = .ok (.iload_n 3, 1) := by decide +kernel
theorem d_D_takeEntry_83 : decode c_D_takeEntry 83 = .ok (.iaload, 1) := by decide +kernel
theorem d_D_takeEntry_84 : decode c_D_takeEntry 84 = .ok (.aload_n 0, 1) := by decide +kernel
theorem d_D_takeEntry_85 : decode c_D_takeEntry 85 = .ok (.getfield 89, 3) := by decide +kernel
theorem d_D_takeEntry_88 : decode c_D_takeEntry 88 = .ok (.iload_n 3, 1) := by decide +kernel
theorem d_D_takeEntry_89 : decode c_D_takeEntry 89 = .ok (.iconst 1, 1) := by decide +kernel
theorem d_D_takeEntry_90 : decode c_D_takeEntry 90 = .ok (.iadd, 1) := by decide +kernel
theorem d_D_takeEntry_91 : decode c_D_takeEntry 91 = .ok (.iaload, 1) := by decide +kernel
theorem d_D_takeEntry_92 : decode c_D_takeEntry 92 = .ok (.aload_n 0, 1) := by decide +kernel
theorem d_D_takeEntry_93 : decode c_D_takeEntry 93 = .ok (.getfield 89, 3) := by decide +kernel
theorem d_D_takeEntry_96 : decode c_D_takeEntry 96 = .ok (.iload_n 3, 1) := by decide +kernel
theorem d_D_takeEntry_97 : decode c_D_takeEntry 97 = .ok (.iconst 2, 1) := by decide +kernel
theorem d_D_takeEntry_98 : decode c_D_takeEntry 98 = .ok (.iadd, 1) := by decide +kernel
theorem d_D_takeEntry_99 : decode c_D_takeEntry 99 = .ok (.iaload, 1) := by decide +kernel
theorem d_D_takeEntry_100 : decode c_D_takeEntry 100 = .ok (.aload_n 0, 1) := by decide +kernel
theorem d_D_takeEntry_101 : decode c_D_takeEntry 101 = .ok (.getfield 89, 3) := by decide +kernel
theorem d_D_takeEntry_104 : decode c_D_takeEntry 104 = .ok (.iload_n 3, 1) := by decide +kernel
theorem d_D_takeEntry_105 : decode c_D_takeEntry 105 = .ok (.iconst 3, 1) := by decide +kernel
theorem d_D_takeEntry_106 : decode c_D_takeEntry 106 = .ok (.iadd, 1) := by decide +kernel
theorem d_D_takeEntry_107 : decode c_D_takeEntry 107 = .ok (.iaload, 1) := by decide +kernel
theorem d_D_takeEntry_108 : decode c_D_takeEntry 108 = .ok (.invokevirtual 168, 3) := by decide +kernel
theorem d_D_takeEntry_111 : decode c_D_takeEntry 111 = .ok (.iconst 1, 1) := by decide +kernel
theorem d_D_takeEntry_112 : decode c_D_takeEntry 112 = .ok (.ireturn, 1) := by decide +kernel
theorem d_D_resulted_0 : decode c_D_resulted 0 = .ok (.aload_n 0, 1) := by decide +kernel
theorem d_D_resulted_1 : decode c_D_resulted 1 = .ok (.getfield 47, 3) := by decide +kernel
theorem d_D_resulted_4 : decode c_D_resulted 4 = .ok (.iload_n 1, 1) := by decide +kernel
theorem d_D_resulted_5 : decode c_D_resulted 5 = .ok (.iaload, 1) := by decide +kernel
theorem d_D_resulted_6 : decode c_D_resulted 6 = .ok (.iconst 3, 1) := by decide +kernel
theorem d_D_resulted_7 : decode c_D_resulted 7 = .ok (.if_icmp .ne (18), 3) := by decide +kernel
theorem d_D_resulted_10 : decode c_D_resulted 10 = .ok (.aload_n 0, 1) := by decide +kernel
theorem d_D_resulted_11 : decode c_D_resulted 11 = .ok (.getfield 89, 3) := by decide +kernel
theorem d_D_resulted_14 : decode c_D_resulted 14 = .ok (.iconst 3, 1) := by decide +kernel
theorem d_D_resulted_15 : decode c_D_resulted 15 = .ok (.iaload, 1) := by decide +kernel
theorem d_D_resulted_16 : decode c_D_resulted 16 = .ok (.aload_n 0, 1) := by decide +kernel
theorem d_D_resulted_17 : decode c_D_resulted 17 = .ok (.getfield 13, 3) := by decide +kernel
theorem d_D_resulted_20 : decode c_D_resulted 20 = .ok (.iload_n 1, 1) := by decide +kernel
theorem d_D_resulted_21 : decode c_D_resulted 21 = .ok (.iaload, 1) := by decide +kernel
theorem d_D_resulted_22 : decode c_D_resulted 22 = .ok (.if_icmp .eq (4), 3) := by decide +kernel
theorem d_D_resulted_25 : decode c_D_resulted 25 = .ok (.return_, 1) := by decide +kernel
theorem d_D_resulted_26 : decode c_D_resulted 26 = .ok (.iconst 5, 1) := by decide +kernel
theorem d_D_resulted_27 : decode c_D_resulted 27 = .ok (.iload_n 1, 1) := by decide +kernel
theorem d_D_resulted_28 : decode c_D_resulted 28 = .ok (.imul, 1) := by decide +kernel
theorem d_D_resulted_29 : decode c_D_resulted 29 = .ok (.iload_n 2, 1) := by decide +kernel
theorem d_D_resulted_30 : decode c_D_resulted 30 = .ok (.iadd, 1) := by decide +kernel
theorem d_D_resulted_31 : decode c_D_resulted 31 = .ok (.istore_n 3, 1) := by decide +kernel
theorem d_D_resulted_32 : decode c_D_resulted 32 = .ok (.aload_n 0, 1) := by decide +kernel
theorem d_D_resulted_33 : decode c_D_resulted 33 = .ok (.getfield 89, 3) := by decide +kernel
theorem d_D_resulted_36 : decode c_D_resulted 36 = .ok (.iconst 4, 1) := by decide +kernel
theorem d_D_resulted_37 : decode c_D_resulted 37 = .ok (.iaload, 1) := by decide +kernel
theorem d_D_resulted_38 : decode c_D_resulted 38 = .ok (.istore 4, 2) := by decide +kernel
theorem d_D_resulted_40 : decode c_D_resulted 40 = .ok (.aload_n 0, 1) := by decide +kernel
theorem d_D_resulted_41 : decode c_D_resulted 41 = .ok (.getfield 65, 3) := by decide +kernel
theorem d_D_resulted_44 : decode c_D_resulted 44 = .ok (.iload_n 3, 1) := by decide +kernel
theorem d_D_resulted_45 : decode c_D_resulted 45 = .ok (.aload_n 0, 1) := by decide +kernel
theorem d_D_resulted_46 : decode c_D_resulted 46 = .ok (.getfield 89, 3) := by decide +kernel
theorem d_D_resulted_49 : decode c_D_resulted 49 = .ok (.bipush (9), 2) := by decide +kernel
theorem d_D_resulted_51 : decode c_D_resulted 51 = .ok (.iaload, 1) := by decide +kernel
theorem d_D_resulted_52 : decode c_D_resulted 52 = .ok (.aload_n 0, 1) := by decide +kernel
theorem d_D_resulted_53 : decode c_D_resulted 53 = .ok (.getfield 65, 3) := by decide +kernel
theorem d_D_resulted_56 : decode c_D_resulted 56 = .ok (.iload_n 3, 1) := by decide +kernel
theorem d_D_resulted_57 : decode c_D_resulted 57 = .ok (.iaload, 1) := by decide +kernel
theorem d_D_resulted_58 : decode c_D_resulted 58 = .ok (.if_icmp .le (13), 3) := by decide +kernel
theorem d_D_resulted_61 : decode c_D_resulted 61 = .ok (.aload_n 0, 1) := by decide +kernel
theorem d_D_resulted_62 : decode c_D_resulted 62 = .ok (.getfield 89, 3) := by decide +kernel
theorem d_D_resulted_65 : decode c_D_resulted 65 = .ok (.bipush (9), 2) := by decide +kernel
theorem d_D_resulted_67 : decode c_D_resulted 67 = .ok (.iaload, 1) := by decide +kernel
theorem d_D_resulted_68 : decode c_D_resulted 68 = .ok (.goto (9), 3) := by decide +kernel
theorem d_D_resulted_71 : decode c_D_resulted 71 = .ok (.aload_n 0, 1) := by decide +kernel
theorem d_D_resulted_72 : decode c_D_resulted 72 = .ok (.getfield 65, 3) := by decide +kernel
theorem d_D_resulted_75 : decode c_D_resulted 75 = .ok (.iload_n 3, 1) := by decide +kernel
theorem d_D_resulted_76 : decode c_D_resulted 76 = .ok (.iaload, 1) := by decide +kernel
theorem d_D_resulted_77 : decode c_D_resulted 77 = .ok (.iastore, 1) := by decide +kernel
theorem d_D_resulted_78 : decode c_D_resulted 78 = .ok (.aload_n 0, 1) := by decide +kernel
theorem d_D_resulted_79 : decode c_D_resulted 79 = .ok (.iload_n 1, 1) := by decide +kernel
theorem d_D_resulted_80 : decode c_D_resulted 80 = .ok (.invokevirtual 113, 3) := by decide +kernel
theorem d_D_resulted_83 : decode c_D_resulted 83 = .ok (.iload_n 2, 1) := by decide +kernel
theorem d_D_resulted_84 : decode c_D_resulted 84 = .ok (.ishr, 1) := by decide +kernel
theorem d_D_resulted_85 : decode c_D_resulted 85 = .ok (.iconst 1, 1) := by decide +kernel
theorem d_D_resulted_86 : decode c_D_resulted 86 = .ok (.iand, 1) := by decide +kernel
theorem d_D_resulted_87 : decode c_D_resulted 87 = .ok (.iconst 1, 1) := by decide +kernel
theorem d_D_resulted_88 : decode c_D_resulted 88 = .ok (.if_icmp .ne (7), 3) := by decide +kernel
theorem d_D_resulted_91 : decode c_D_resulted 91 = .ok (.iconst 1, 1) := by decide +kernel
theorem d_D_resulted_92 : decode c_D_resulted 92 = .ok (.goto (4), 3) := by decide +kernel
theorem d_D_resulted_95 : decode c_D_resulted 95 = .ok (.iconst 0, 1) := by decide +kernel
theorem d_D_resulted_96 : decode c_D_resulted 96 = .ok (.istore 5, 2) := by decide +kernel
theorem d_D_resulted_98 : decode c_D_resulted 98 = .ok (.aload_n 0, 1) := by decide +kernel
theorem d_D_resulted_99 : decode c_D_resulted 99 = .ok (.getfield 89, 3) := by decide +kernel
theorem d_D_resulted_102 : decode c_D_resulted 102 = .ok (.bipush (6), 2) := by decide +kernel
theorem d_D_resulted_104 : decode c_D_resulted 104 = .ok (.iaload, 1) := by decide +kernel
theorem d_D_resulted_105 : decode c_D_resulted 105 = .ok (.iconst 1, 1) := by decide +kernel
theorem d_D_resulted_106 : decode c_D_resulted 106 = .ok (.if_icmp .ne (88), 3) := by decide +kernel
theorem d_D_resulted_109 : decode c_D_resulted 109 = .ok (.aload_n 0, 1) := by decide +kernel
theorem d_D_resulted_110 : decode c_D_resulted 110 = .ok (.getfield 62, 3) := by decide +kernel
theorem d_D_resulted_113 : decode c_D_resulted 113 = .ok (.iload_n 3, 1) := by decide +kernel
theorem d_D_resulted_114 : decode c_D_resulted 114 = .ok (.iload 4, 2) := by decide +kernel
theorem d_D_resulted_116 : decode c_D_resulted 116 = .ok (.aload_n 0, 1) := by decide +kernel
theorem d_D_resulted_117 : decode c_D_resulted 117 = .ok (.getfield 62, 3) := by decide +kernel
theorem d_D_resulted_120 : decode c_D_resulted 120 = .ok (.iload_n 3, 1) := by decide +kernel
theorem d_D_resulted_121 : decode c_D_resulted 121 = .ok (.iaload, 1) := by decide +kernel
theorem d_D_resulted_122 : decode c_D_resulted 122 = .ok (.if_icmp .le (8), 3) := by decide +kernel
theorem d_D_resulted_125 : decode c_D_resulted 125 = .ok (.iload 4, 2) := by decide +kernel
theorem d_D_resulted_127 : decode c_D_resulted 127 = .ok (.goto (9), 3) := by decide +kernel
theorem d_D_resulted_130 : decode c_D_resulted 130 = .ok (.aload_n 0, 1) := by decide +kernel
theorem d_D_resulted_131 : decode c_D_resulted 131 = .ok (.getfield 62, 3) := by decide +kernel
theorem d_D_resulted_134 : decode c_D_resulted 134 = .ok (.iload_n 3, 1) := by decide +kernel
theorem d_D_resulted_135 : decode c_D_resulted 135 = .ok (.iaload, 1) := by decide +kernel
theorem d_D_resulted_136 : decode c_D_resulted 136 = .ok (.iastore, 1) := by decide +kernel
theorem d_D_resulted_137 : decode c_D_resulted 137 = .ok (.aload_n 0, 1) := by decide +kernel
theorem d_D_resulted_138 : decode c_D_resulted 138 = .ok (.getfield 59, 3) := by decide +kernel
theorem d_D_resulted_141 : decode c_D_resulted 141 = .ok (.iload_n 3, 1) := by decide +kernel
theorem d_D_resulted_142 : decode c_D_resulted 142 = .ok (.aload_n 0, 1) := by decide +kernel
theorem d_D_resulted_143 : decode c_D_resulted 143 = .ok (.getfield 62, 3) := by decide +kernel
theorem d_D_resulted_146 : decode c_D_resulted 146 = .ok (.iload_n 3, 1) := by decide +kernel
theorem d_D_resulted_147 : decode c_D_resulted 147 = .ok (.iaload, 1) := by decide +kernel
theorem d_D_resulted_148 : decode c_D_resulted 148 = .ok (.iconst 1, 1) := by decide +kernel
theorem d_D_resulted_149 : decode c_D_resulted 149 = .ok (.iadd, 1) := by decide +kernel
theorem d_D_resulted_150 : decode c_D_resulted 150 = .ok (.iastore, 1) := by decide +kernel
theorem d_D_resulted_151 : decode c_D_resulted 151 = .ok (.aload_n 0, 1) := by decide +kernel
theorem d_D_resulted_152 : decode c_D_resulted 152 = .ok (.iload_n 1, 1) := by decide +kernel
theorem d_D_resulted_153 : decode c_D_resulted 153 = .ok (.invokevirtual 172, 3) := by decide +kernel
theorem d_D_resulted_156 : decode c_D_resulted 156 = .ok (.aload_n 0, 1) := by decide +kernel
theorem d_D_resulted_157 : decode c_D_resulted 157 = .ok (.getfield 47, 3) := by decide +kernel
theorem d_D_resulted_160 : decode c_D_resulted 160 = .ok (.iload_n 1, 1) := by decide +kernel
theorem d_D_resulted_161 : decode c_D_resulted 161 = .ok (.iaload, 1) := by decide +kernel
theorem d_D_resulted_162 : decode c_D_resulted 162 = .ok (.iconst 3, 1) := by decide +kernel
theorem d_D_resulted_163 : decode c_D_resulted 163 = .ok (.if_icmp .ne (92), 3) := by decide +kernel
theorem d_D_resulted_166 : decode c_D_resulted 166 = .ok (.aload_n 0, 1) := by decide +kernel
theorem d_D_resulted_167 : decode c_D_resulted 167 = .ok (.getfield 59, 3) := by decide +kernel
theorem d_D_resulted_170 : decode c_D_resulted 170 = .ok (.iload_n 3, 1) := by decide +kernel
theorem d_D_resulted_171 : decode c_D_resulted 171 = .ok (.iaload, 1) := by decide +kernel
theorem d_D_resulted_172 : decode c_D_resulted 172 = .ok (.aload_n 0, 1) := by decide +kernel
theorem d_D_resulted_173 : decode c_D_resulted 173 = .ok (.iload_n 1, 1) := by decide +kernel
theorem d_D_resulted_174 : decode c_D_resulted 174 = .ok (.invokevirtual 96, 3) := by decide +kernel
theorem d_D_resulted_177 : decode c_D_resulted 177 = .ok (.if_icmp .gt (78), 3) := by decide +kernel
theorem d_D_resulted_180 : decode c_D_resulted 180 = .ok (.iload 5, 2) := by decide +kernel
theorem d_D_resulted_182 : decode c_D_resulted 182 = .ok (.ifCond .eq (73), 3) := by decide +kernel
theorem d_D_resulted_185 : decode c_D_resulted 185 = .ok (.aload_n 0, 1) := by decide +kernel
theorem d_D_resulted_186 : decode c_D_resulted 186 = .ok (.iload_n 1, 1) := by decide +kernel
theorem d_D_resulted_187 : decode c_D_resulted 187 = .ok (.iload_n 2, 1) := by decide +kernel
theorem d_D_resulted_188 : decode c_D_resulted 188 = .ok (.invokevirtual 132, 3) := by decide +kernel
theorem d_D_resulted_191 : decode c_D_resulted 191 = .ok (.goto (64), 3) := by decide +kernel
theorem d_D_resulted_194 : decode c_D_resulted 194 = .ok (.aload_n 0, 1) := by decide +kernel
theorem d_D_resulted_195 : decode c_D_resulted 195 = .ok (.getfield 59, 3) := by decide +kernel
theorem d_D_resulted_198 : decode c_D_resulted 198 = .ok (.iload_n 3, 1) := by decide +kernel
theorem d_D_resulted_199 : decode c_D_resulted 199 = .ok (.iaload, 1) := by decide +kernel
theorem d_D_resulted_200 : decode c_D_resulted 200 = .ok (.iconst 1, 1) := by decide +kernel
theorem d_D_resulted_201 : decode c_D_resulted 201 = .ok (.isub, 1) := by decide +kernel
theorem d_D_resulted_202 : decode c_D_resulted 202 = .ok (.iload 4, 2) := by decide +kernel
theorem d_D_resulted_204 : decode c_D_resulted 204 = .ok (.iconst 1, 1) := by decide +kernel
theorem d_D_resulted_205 : decode c_D_resulted 205 = .ok (.iadd, 1) := by decide +kernel
theorem d_D_resulted_206 : decode c_D_resulted 206 = .ok (.if_icmp .ge (14), 3) := by decide +kernel
theorem d_D_resulted_209 : decode c_D_resulted 209 = .ok (.aload_n 0, 1) := by decide +kernel
theorem d_D_resulted_210 : decode c_D_resulted 210 = .ok (.getfield 59, 3) := by decide +kernel
theorem d_D_resulted_213 : decode c_D_resulted 213 = .ok (.iload_n 3, 1) := by decide +kernel
theorem d_D_resulted_214 : decode c_D_resulted 214 = .ok (.iaload, 1) := by decide +kernel
theorem d_D_resulted_215 : decode c_D_resulted 215 = .ok (.iconst 1, 1) := by decide +kernel
theorem d_D_resulted_216 : decode c_D_resulted 216 = .ok (.isub, 1) := by decide +kernel
theorem d_D_resulted_217 : decode c_D_resulted 217 = .ok (.goto (7), 3) := by decide +kernel
theorem d_D_resulted_220 : decode c_D_resulted 220 = .ok (.iload 4, 2) := by decide +kernel
theorem d_D_resulted_222 : decode c_D_resulted 222 = .ok (.iconst 1, 1) := by decide +kernel
theorem d_D_resulted_223 : decode c_D_resulted 223 = .ok (.iadd, 1) := by decide +kernel
theorem d_D_resulted_224 : decode c_D_resulted 224 = .ok (.istore 6, 2) := by decide +kernel
theorem d_D_resulted_226 : decode c_D_resulted 226 = .ok (.aload_n 0, 1) := by decide +kernel
theorem d_D_resulted_227 : decode c_D_resulted 227 = .ok (.getfield 59, 3) := by decide +kernel
theorem d_D_resulted_230 : decode c_D_resulted 230 = .ok (.iload_n 3, 1) := by decide +kernel
theorem d_D_resulted_231 : decode c_D_resulted 231 = .ok (.iload 6, 2) := by decide +kernel
theorem d_D_resulted_233 : decode c_D_resulted 233 = .ok (.iconst 1, 1) := by decide +kernel
theorem d_D_resulted_234 : decode c_D_resulted 234 = .ok (.if_icmp .ge (7), 3) := by decide +kernel
theorem d_D_resulted_237 : decode c_D_resulted 237 = .ok (.iconst 1, 1) := by decide +kernel
theorem d_D_resulted_238 : decode c_D_resulted 238 = .ok (.goto (5), 3) := by decide +kernel
theorem d_D_resulted_241 : decode c_D_resulted 241 = .ok (.iload 6, 2) := by decide +kernel
theorem d_D_resulted_243 : decode c_D_resulted 243 = .ok (.iastore, 1) := by decide +kernel
theorem d_D_resulted_244 : decode c_D_resulted 244 = .ok (.iload 5, 2) := by decide +kernel
theorem d_D_resulted_246 : decode c_D_resulted 246 = .ok (.ifCond .eq (9), 3) := by decide +kernel
theorem d_D_resulted_249 : decode c_D_resulted 249 = .ok (.aload_n 0, 1) := by decide +kernel
theorem d_D_resulted_250 : decode c_D_resulted 250 = .ok (.iload_n 1, 1) := by decide +kernel
theorem d_D_resulted_251 : decode c_D_resulted 251 = .ok (.iload_n 2, 1) := by decide +kernel
theorem d_D_resulted_252 : decode c_D_resulted 252 = .ok (.invokevirtual 132, 3) := by decide +kernel
theorem d_D_resulted_255 : decode c_D_resulted 255 = .ok (.aload_n 0, 1) := by decide +kernel
theorem d_D_resulted_256 : decode c_D_resulted 256 = .ok (.getfield 47, 3) := by decide +kernel
theorem d_D_resulted_259 : decode c_D_resulted 259 = .ok (.iload_n 1, 1) := by decide +kernel
theorem d_D_resulted_260 : decode c_D_resulted 260 = .ok (.iaload, 1) := by decide +kernel
theorem d_D_resulted_261 : decode c_D_resulted 261 = .ok (.iconst 3, 1) := by decide +kernel
theorem d_D_resulted_262 : decode c_D_resulted 262 = .ok (.if_icmp .ne (8), 3) := by decide +kernel
theorem d_D_resulted_265 : decode c_D_resulted 265 = .ok (.aload_n 0, 1) := by decide +kernel
theorem d_D_resulted_266 : decode c_D_resulted 266 = .ok (.iload_n 1, 1) := by decide +kernel
theorem d_D_resulted_267 : decode c_D_resulted 267 = .ok (.invokevirtual 197, 3) := by decide +kernel
theorem d_D_resulted_270 : decode c_D_resulted 270 = .ok (.return_, 1) := by decide +kernel
theorem d_D_installed_0 : decode c_D_installed 0 = .ok (.aload_n 0, 1) := by decide +kernel
theorem d_D_installed_1 : decode c_D_installed 1 = .ok (.getfield 89, 3) := by decide +kernel
theorem d_D_installed_4 : decode c_D_installed 4 = .ok (.iconst 3, 1) := by decide +kernel
theorem d_D_installed_5 : decode c_D_installed 5 = .ok (.iaload, 1) := by decide +kernel
theorem d_D_installed_6 : decode c_D_installed 6 = .ok (.aload_n 0, 1) := by decide +kernel
theorem d_D_installed_7 : decode c_D_installed 7 = .ok (.getfield 13, 3) := by decide +kernel
theorem d_D_installed_10 : decode c_D_installed 10 = .ok (.iload_n 1, 1) := by decide +kernel
theorem d_D_installed_11 : decode c_D_installed 11 = .ok (.iaload, 1) := by decide +kernel
theorem d_D_installed_12 : decode c_D_installed 12 = .ok (.if_icmp .ge (13), 3) := by decide +kernel
theorem d_D_installed_15 : decode c_D_installed 15 = .ok (.aload_n 0, 1) := by decide +kernel
theorem d_D_installed_16 : decode c_D_installed 16 = .ok (.iload_n 1, 1) := by decide +kernel
theorem d_D_installed_17 : decode c_D_installed 17 = .ok (.iload_n 2, 1) := by decide +kernel
theorem d_D_installed_18 : decode c_D_installed 18 = .ok (.iconst 0, 1) := by decide +kernel
theorem d_D_installed_19 : decode c_D_installed 19 = .ok (.iconst 0, 1) := by decide +kernel
theorem d_D_installed_20 : decode c_D_installed 20 = .ok (.iconst 0, 1) := by decide +kernel
theorem d_D_installed_21 : decode c_D_installed 21 = .ok (.invokevirtual 238, 3) := by decide +kernel
theorem d_D_installed_24 : decode c_D_installed 24 = .ok (.return_, 1) := by decide +kernel
theorem d_D_installed_25 : decode c_D_installed 25 = .ok (.aload_n 0, 1) := by decide +kernel
theorem d_D_installed_26 : decode c_D_installed 26 = .ok (.iload_n 1, 1) := by decide +kernel
theorem d_D_installed_27 : decode c_D_installed 27 = .ok (.invokevirtual 139, 3) := by decide +kernel
theorem d_D_installed_30 : decode c_D_installed 30 = .ok (.aload_n 0, 1) := by decide +kernel
theorem d_D_installed_31 : decode c_D_installed 31 = .ok (.getfield 53, 3) := by decide +kernel
theorem d_D_installed_34 : decode c_D_installed 34 = .ok (.iload_n 1, 1) := by decide +kernel
theorem d_D_installed_35 : decode c_D_installed 35 = .ok (.iconst 1, 1) := by decide +kernel
theorem d_D_installed_36 : decode c_D_installed 36 = .ok (.bastore, 1) := by decide +kernel
theorem d_D_installed_37 : decode c_D_installed 37 = .ok (.aload_n 0, 1) := by decide +kernel
theorem d_D_installed_38 : decode c_D_installed 38 = .ok (.getfield 89, 3) := by decide +kernel
theorem d_D_installed_41 : decode c_D_installed 41 = .ok (.iconst 4, 1) := by decide +kernel
theorem d_D_installed_42 : decode c_D_installed 42 = .ok (.iaload, 1) := by decide +kernel
theorem d_D_installed_43 : decode c_D_installed 43 = .ok (.istore_n 3, 1) := by decide +kernel
theorem d_D_installed_44 : decode c_D_installed 44 = .ok (.iload_n 3, 1) := by decide +kernel
theorem d_D_installed_45 : decode c_D_installed 45 = .ok (.aload_n 0, 1) := by decide +kernel
theorem d_D_installed_46 : decode c_D_installed 46 = .ok (.getfield 50, 3) := by decide +kernel
theorem d_D_installed_49 : decode c_D_installed 49 = .ok (.iload_n 1, 1) := by decide +kernel
theorem d_D_installed_50 : decode c_D_installed 50 = .ok (.iaload, 1) := by decide +kernel
theorem d_D_installed_51 : decode c_D_installed 51 = .ok (.if_icmp .le (109), 3) := by decide +kernel
theorem d_D_installed_54 : decode c_D_installed 54 = .ok (.aload_n 0, 1) := by decide +kernel
theorem d_D_installed_55 : decode c_D_installed 55 = .ok (.iload_n 1, 1) := by decide +kernel
theorem d_D_installed_56 : decode c_D_installed 56 = .ok (.iload_n 3, 1) := by decide +kernel
theorem d_D_installed_57 : decode c_D_installed 57 = .ok (.invokevirtual 104, 3) := by decide +kernel
theorem d_D_installed_60 : decode c_D_installed 60 = .ok (.aload_n 0, 1) := by decide +kernel
theorem d_D_installed_61 : decode c_D_installed 61 = .ok (.getfield 89, 3) := by decide +kernel
theorem d_D_installed_64 : decode c_D_installed 64 = .ok (.iconst 5, 1) := by decide +kernel
theorem d_D_installed_65 : decode c_D_installed 65 = .ok (.iaload, 1) := by decide +kernel
theorem d_D_installed_66 : decode c_D_installed 66 = .ok (.if_icmp .ne (12), 3) := by decide +kernel
theorem d_D_installed_69 : decode c_D_installed 69 = .ok (.aload_n 0, 1) := by decide +kernel
theorem d_D_installed_70 : decode c_D_installed 70 = .ok (.iload_n 1, 1) := by decide +kernel
theorem d_D_installed_71 : decode c_D_installed 71 = .ok (.iload_n 3, 1) := by decide +kernel
theorem d_D_installed_72 : decode c_D_installed 72 = .ok (.invokevirtual 200, 3) := by decide +kernel
theorem d_D_installed_75 : decode c_D_installed 75 = .ok (.goto (10), 3) := by decide +kernel
theorem d_D_installed_78 : decode c_D_installed 78 = .ok (.aload_n 0, 1) := by decide +kernel
theorem d_D_installed_79 : decode c_D_installed 79 = .ok (.getfield 32, 3) := by decide +kernel
theorem d_D_installed_82 : decode c_D_installed 82 = .ok (.iload_n 1, 1) := by decide +kernel
theorem d_D_installed_83 : decode c_D_installed 83 = .ok (.iconst 0, 1) := by decide +kernel
theorem d_D_installed_84 : decode c_D_installed 84 = .ok (.iastore, 1) := by decide +kernel
theorem d_D_installed_85 : decode c_D_installed 85 = .ok (.aload_n 0, 1) := by decide +kernel
theorem d_D_installed_86 : decode c_D_installed 86 = .ok (.getfield 20, 3) := by decide +kernel
theorem d_D_installed_89 : decode c_D_installed 89 = .ok (.iload_n 1, 1) := by decide +kernel
theorem d_D_installed_90 : decode c_D_installed 90 = .ok (.iload_n 3, 1) := by decide +kernel
theorem d_D_installed_91 : decode c_D_installed 91 = .ok (.iastore, 1) := by decide +kernel
theorem d_D_installed_92 : decode c_D_installed 92 = .ok (.aload_n 0, 1) := by decide +kernel
theorem d_D_installed_93 : decode c_D_installed 93 = .ok (.getfield 23, 3) := by decide +kernel
theorem d_D_installed_96 : decode c_D_installed 96 = .ok (.iload_n 1, 1) := by decide +kernel
theorem d_D_installed_97 : decode c_D_installed 97 = .ok (.aload_n 0, 1) := by decide +kernel
theorem d_D_installed_98 : decode c_D_installed 98 = .ok (.getfield 89, 3) := by decide +kernel
theorem d_D_installed_101 : decode c_D_installed 101 = .ok (.iconst 5, 1) := by decide +kernel
theorem d_D_installed_102 : decode c_D_installed 102 = .ok (.iaload, 1) := by decide +kernel
theorem d_D_installed_103 : decode c_D_installed 103 = .ok (.iastore, 1) := by decide +kernel
theorem d_D_installed_104 : decode c_D_installed 104 = .ok (.aload_n 0, 1) := by decide +kernel
theorem d_D_installed_105 : decode c_D_installed 105 = .ok (.getfield 26, 3) := by decide +kernel
theorem d_D_installed_108 : decode c_D_installed 108 = .ok (.iload_n 1, 1) := by decide +kernel
theorem d_D_installed_109 : decode c_D_installed 109 = .ok (.aload_n 0, 1) := by decide +kernel
theorem d_D_installed_110 : decode c_D_installed 110 = .ok (.getfield 89, 3) := by decide +kernel
theorem d_D_installed_113 : decode c_D_installed 113 = .ok (.bipush (10), 2) := by decide +kernel
theorem d_D_installed_115 : decode c_D_installed 115 = .ok (.iaload, 1) := by decide +kernel
theorem d_D_installed_116 : decode c_D_installed 116 = .ok (.iastore, 1) := by decide +kernel
theorem d_D_installed_117 : decode c_D_installed 117 = .ok (.iconst 0, 1) := by decide +kernel
theorem d_D_installed_118 : decode c_D_installed 118 = .ok (.istore 4, 2) := by decide +kernel
theorem d_D_installed_120 : decode c_D_installed 120 = .ok (.iload 4, 2) := by decide +kernel
theorem d_D_installed_122 : decode c_D_installed 122 = .ok (.iconst 4, 1) := by decide +kernel
theorem d_D_installed_123 : decode c_D_installed 123 = .ok (.if_icmp .ge (30), 3) := by decide +kernel
theorem d_D_installed_126 : decode c_D_installed 126 = .ok (.aload_n 0, 1) := by decide +kernel
theorem d_D_installed_127 : decode c_D_installed 127 = .ok (.getfield 29, 3) := by decide +kernel
theorem d_D_installed_130 : decode c_D_installed 130 = .ok (.iconst 4, 1) := by decide +kernel
theorem d_D_installed_131 : decode c_D_installed 131 = .ok (.iload_n 1, 1) := by decide +kernel
theorem d_D_installed_132 : decode c_D_installed 132 = .ok (.imul, 1) := by decide +kernel
theorem d_D_installed_133 : decode c_D_installed 133 = .ok (.iload 4, 2) := by decide +kernel
theorem d_D_installed_135 : decode c_D_installed 135 = .ok (.iadd, 1) := by decide +kernel
theorem d_D_installed_136 : decode c_D_installed 136 = .ok (.aload_n 0, 1) := by decide +kernel
theorem d_D_installed_137 : decode c_D_installed 137 = .ok (.getfield 89, 3) := by decide +kernel
theorem d_D_installed_140 : decode c_D_installed 140 = .ok (.bipush (11), 2) := by decide +kernel
theorem d_D_installed_142 : decode c_D_installed 142 = .ok (.iload 4, 2) := by decide +kernel
theorem d_D_installed_144 : decode c_D_installed 144 = .ok (.iadd, 1) := by decide +kernel
theorem d_D_installed_145 : decode c_D_installed 145 = .ok (.iaload, 1) := by decide +kernel
theorem d_D_installed_146 : decode c_D_installed 146 = .ok (.iastore, 1) := by decide +kernel
theorem d_D_installed_147 : decode c_D_installed 147 = .ok (.iinc 4 (1), 3) := by decide +kernel
theorem d_D_installed_150 : decode c_D_installed 150 = .ok (.goto (-30), 3) := by decide +kernel
theorem d_D_installed_153 : decode c_D_installed 153 = .ok (.aload_n 0, 1) := by decide +kernel
theorem d_D_installed_154 : decode c_D_installed 154 = .ok (.getfield 50, 3) := by decide +kernel
theorem d_D_installed_157 : decode c_D_installed 157 = .ok (.iload_n 1, 1) := by decide +kernel
theorem d_D_installed_158 : decode c_D_installed 158 = .ok (.iload_n 3, 1) := by decide +kernel
theorem d_D_installed_159 : decode c_D_installed 159 = .ok (.iastore, 1) := by decide +kernel
theorem d_D_installed_160 : decode c_D_installed 160 = .ok (.aload_n 0, 1) := by decide +kernel
theorem d_D_installed_161 : decode c_D_installed 161 = .ok (.iload_n 1, 1) := by decide +kernel
theorem d_D_installed_162 : decode c_D_installed 162 = .ok (.iload_n 2, 1) := by decide +kernel
theorem d_D_installed_163 : decode c_D_installed 163 = .ok (.iconst 1, 1) := by decide +kernel
theorem d_D_installed_164 : decode c_D_installed 164 = .ok (.iload_n 3, 1) := by decide +kernel
theorem d_D_installed_165 : decode c_D_installed 165 = .ok (.aload_n 0, 1) := by decide +kernel
theorem d_D_installed_166 : decode c_D_installed 166 = .ok (.getfield 89, 3) := by decide +kernel
theorem d_D_installed_169 : decode c_D_installed 169 = .ok (.bipush (9), 2) := by decide +kernel
theorem d_D_installed_171 : decode c_D_installed 171 = .ok (.iaload, 1) := by decide +kernel
theorem d_D_installed_172 : decode c_D_installed 172 = .ok (.invokevirtual 238, 3) := by decide +kernel
theorem d_D_installed_175 : decode c_D_installed 175 = .ok (.return_, 1) := by decide +kernel
theorem d_D_lose_0 : decode c_D_lose 0 = .ok (.aload_n 0, 1) := by decide +kernel
theorem d_D_lose_1 : decode c_D_lose 1 = .ok (.iconst 0, 1) := by decide +kernel
theorem d_D_lose_2 : decode c_D_lose 2 = .ok (.putfield 92, 3) := by decide +kernel
theorem d_D_lose_5 : decode c_D_lose 5 = .ok (.iload_n 1, 1) := by decide +kernel
theorem d_D_lose_6 : decode c_D_lose 6 = .ok (.ifCond .lt (11), 3) := by decide +kernel
theorem d_D_lose_9 : decode c_D_lose 9 = .ok (.iload_n 1, 1) := by decide +kernel
theorem d_D_lose_10 : decode c_D_lose 10 = .ok (.aload_n 0, 1) := by decide +kernel
theorem d_D_lose_11 : decode c_D_lose 11 = .ok (.getfield 119, 3) := by decide +kernel
theorem d_D_lose_14 : decode c_D_lose 14 = .ok (.if_icmp .lt (5), 3) := by decide +kernel
theorem d_D_lose_17 : decode c_D_lose 17 = .ok (.iconst 0, 1) := by decide +kernel
theorem d_D_lose_18 : decode c_D_lose 18 = .ok (.ireturn, 1) := by decide +kernel
theorem d_D_lose_19 : decode c_D_lose 19 = .ok (.aload_n 0, 1) := by decide +kernel
theorem d_D_lose_20 : decode c_D_lose 20 = .ok (.iload_n 1, 1) := by decide +kernel
theorem d_D_lose_21 : decode c_D_lose 21 = .ok (.invokevirtual 203, 3) := by decide +kernel
theorem d_D_lose_24 : decode c_D_lose 24 = .ok (.iconst 1, 1) := by decide +kernel
theorem d_D_lose_25 : decode c_D_lose 25 = .ok (.ireturn, 1) := by decide +kernel
theorem d_D_waiting_0 : decode c_D_waiting 0 = .ok (.aload_n 0, 1) := by decide +kernel
theorem d_D_waiting_1 : decode c_D_waiting 1 = .ok (.iconst 0, 1) := by decide +kernel
theorem d_D_waiting_2 : decode c_D_waiting 2 = .ok (.putfield 92, 3) := by decide +kernel
theorem d_D_waiting_5 : decode c_D_waiting 5 = .ok (.aload_n 0, 1) := by decide +kernel
theorem d_D_waiting_6 : decode c_D_waiting 6 = .ok (.getfield 119, 3) := by decide +kernel
theorem d_D_waiting_9 : decode c_D_waiting 9 = .ok (.ireturn, 1) := by decide +kernel
theorem d_D_message_0 : decode c_D_message 0 = .ok (.aload_n 0, 1) := by decide +kernel
theorem d_D_message_1 : decode c_D_message 1 = .ok (.iconst 0, 1) := by decide +kernel
theorem d_D_message_2 : decode c_D_message 2 = .ok (.putfield 92, 3) := by decide +kernel
theorem d_D_message_5 : decode c_D_message 5 = .ok (.iload_n 1, 1) := by decide +kernel
theorem d_D_message_6 : decode c_D_message 6 = .ok (.ifCond .lt (21), 3) := by decide +kernel
theorem d_D_message_9 : decode c_D_message 9 = .ok (.iload_n 1, 1) := by decide +kernel
theorem d_D_message_10 : decode c_D_message 10 = .ok (.aload_n 0, 1) := by decide +kernel
theorem d_D_message_11 : decode c_D_message 11 = .ok (.getfield 119, 3) := by decide +kernel
theorem d_D_message_14 : decode c_D_message 14 = .ok (.if_icmp .ge (13), 3) := by decide +kernel
theorem d_D_message_17 : decode c_D_message 17 = .ok (.iload_n 2, 1) := by decide +kernel
theorem d_D_message_18 : decode c_D_message 18 = .ok (.ifCond .lt (9), 3) := by decide +kernel
theorem d_D_message_21 : decode c_D_message 21 = .ok (.iload_n 2, 1) := by decide +kernel
theorem d_D_message_22 : decode c_D_message 22 = .ok (.bipush (6), 2) := by decide +kernel
theorem d_D_message_24 : decode c_D_message 24 = .ok (.if_icmp .le (5), 3) := by decide +kernel
theorem d_D_message_27 : decode c_D_message 27 = .ok (.iconst (-1), 1) := by decide +kernel
theorem d_D_message_28 : decode c_D_message 28 = .ok (.ireturn, 1) := by decide +kernel
theorem d_D_message_29 : decode c_D_message 29 = .ok (.bipush (20), 2) := by decide +kernel
theorem d_D_message_31 : decode c_D_message 31 = .ok (.iload_n 1, 1) := by decide +kernel
theorem d_D_message_32 : decode c_D_message 32 = .ok (.imul, 1) := by decide +kernel
theorem d_D_message_33 : decode c_D_message 33 = .ok (.istore_n 3, 1) := by decide +kernel
theorem d_D_message_34 : decode c_D_message 34 = .ok (.iload_n 2, 1) := by decide +kernel
theorem d_D_message_35 : decode c_D_message 35 = .ok (.iconst 5, 1) := by decide +kernel
theorem d_D_message_36 : decode c_D_message 36 = .ok (.if_icmp .ge (12), 3) := by decide +kernel
theorem d_D_message_39 : decode c_D_message 39 = .ok (.aload_n 0, 1) := by decide +kernel
theorem d_D_message_40 : decode c_D_message 40 = .ok (.getfield 86, 3) := by decide +kernel
theorem d_D_message_43 : decode c_D_message 43 = .ok (.iload_n 3, 1) := by decide +kernel
theorem d_D_message_44 : decode c_D_message 44 = .ok (.iload_n 2, 1) := by decide +kernel
theorem d_D_message_45 : decode c_D_message 45 = .ok (.iadd, 1) := by decide +kernel
theorem d_D_message_46 : decode c_D_message 46 = .ok (.iaload, 1) := by decide +kernel
theorem d_D_message_47 : decode c_D_message 47 = .ok (.ireturn, 1) := by decide +kernel
theorem d_D_message_48 : decode c_D_message 48 = .ok (.iload_n 2, 1) := by decide +kernel
theorem d_D_message_49 : decode c_D_message 49 = .ok (.bipush (6), 2) := by decide +kernel
theorem d_D_message_51 : decode c_D_message 51 = .ok (.if_icmp .ne (13), 3) := by decide +kernel
theorem d_D_message_54 : decode c_D_message 54 = .ok (.aload_n 0, 1) := by decide +kernel
theorem d_D_message_55 : decode c_D_message 55 = .ok (.getfield 86, 3) := by decide +kernel
theorem d_D_message_58 : decode c_D_message 58 = .ok (.iload_n 3, 1) := by decide +kernel
theorem d_D_message_59 : decode c_D_message 59 = .ok (.bipush (9), 2) := by decide +kernel
theorem d_D_message_61 : decode c_D_message 61 = .ok (.iadd, 1) := by decide +kernel
theorem d_D_message_62 : decode c_D_message 62 = .ok (.iaload, 1) := by decide +kernel
theorem d_D_message_63 : decode c_D_message 63 = .ok (.ireturn, 1) := by decide +kernel
theorem d_D_message_64 : decode c_D_message 64 = .ok (.aload_n 0, 1) := by decide +kernel
theorem d_D_message_65 : decode c_D_message 65 = .ok (.getfield 86, 3) := by decide +kernel
theorem d_D_message_68 : decode c_D_message 68 = .ok (.iload_n 3, 1) := by decide +kernel
theorem d_D_message_69 : decode c_D_message 69 = .ok (.iaload, 1) := by decide +kernel
theorem d_D_message_70 : decode c_D_message 70 = .ok (.iconst 4, 1) := by decide +kernel
theorem d_D_message_71 : decode c_D_message 71 = .ok (.if_icmp .ne (15), 3) := by decide +kernel
theorem d_D_message_74 : decode c_D_message 74 = .ok (.aload_n 0, 1) := by decide +kernel
theorem d_D_message_75 : decode c_D_message 75 = .ok (.getfield 86, 3) := by decide +kernel
theorem d_D_message_78 : decode c_D_message 78 = .ok (.iload_n 3, 1) := by decide +kernel
theorem d_D_message_79 : decode c_D_message 79 = .ok (.bipush (7), 2) := by decide +kernel
theorem d_D_message_81 : decode c_D_message 81 = .ok (.iadd, 1) := by decide +kernel
theorem d_D_message_82 : decode c_D_message 82 = .ok (.iaload, 1) := by decide +kernel
theorem d_D_message_83 : decode c_D_message 83 = .ok (.goto (12), 3) := by decide +kernel
theorem d_D_message_86 : decode c_D_message 86 = .ok (.aload_n 0, 1) := by decide +kernel
theorem d_D_message_87 : decode c_D_message 87 = .ok (.getfield 86, 3) := by decide +kernel
theorem d_D_message_90 : decode c_D_message 90 = .ok (.iload_n 3, 1) := by decide +kernel
theorem d_D_message_91 : decode c_D_message 91 = .ok (.bipush (6), 2) := by decide +kernel
theorem d_D_message_93 : decode c_D_message 93 = .ok (.iadd, 1) := by decide +kernel
theorem d_D_message_94 : decode c_D_message 94 = .ok (.iaload, 1) := by decide +kernel
theorem d_D_message_95 : decode c_D_message 95 = .ok (.ireturn, 1) := by decide +kernel
theorem d_D_state_0 : decode c_D_state 0 = .ok (.aload_n 0, 1) := by decide +kernel
theorem d_D_state_1 : decode c_D_state 1 = .ok (.iconst 0, 1) := by decide +kernel
theorem d_D_state_2 : decode c_D_state 2 = .ok (.putfield 92, 3) := by decide +kernel
theorem d_D_state_5 : decode c_D_state 5 = .ok (.iload_n 1, 1) := by decide +kernel
theorem d_D_state_6 : decode c_D_state 6 = .ok (.invokestatic 143, 3) := by decide +kernel
theorem d_D_state_9 : decode c_D_state 9 = .ok (.ifCond .ne (5), 3) := by decide +kernel
theorem d_D_state_12 : decode c_D_state 12 = .ok (.iconst (-1), 1) := by decide +kernel
theorem d_D_state_13 : decode c_D_state 13 = .ok (.ireturn, 1) := by decide +kernel
theorem d_D_state_14 : decode c_D_state 14 = .ok (.iload_n 2, 1) := by decide +kernel
theorem d_D_state_15 : decode c_D_state 15 = .ok (.tableswitch (126) (0) (8) #[49, 56, 63, 70, 77, 84, 90, 96, 111], 49) := by decide +kernel
theorem d_D_state_64 : decode c_D_state 64 = .ok (.aload_n 0, 1) := by decide +kernel
theorem d_D_state_65 : decode c_D_state 65 = .ok (.getfield 47, 3) := by decide +kernel
theorem d_D_state_68 : decode c_D_state 68 = .ok (.iload_n 1, 1) := by decide +kernel
theorem d_D_state_69 : decode c_D_state 69 = .ok (.iaload, 1) := by decide +kernel
theorem d_D_state_70 : decode c_D_state 70 = .ok (.ireturn, 1) := by decide +kernel
theorem d_D_state_71 : decode c_D_state 71 = .ok (.aload_n 0, 1) := by decide +kernel
theorem d_D_state_72 : decode c_D_state 72 = .ok (.getfield 13, 3) := by decide +kernel
theorem d_D_state_75 : decode c_D_state 75 = .ok (.iload_n 1, 1) := by decide +kernel
theorem d_D_state_76 : decode c_D_state 76 = .ok (.iaload, 1) := by decide +kernel
theorem d_D_state_77 : decode c_D_state 77 = .ok (.ireturn, 1) := by decide +kernel
theorem d_D_state_78 : decode c_D_state 78 = .ok (.aload_n 0, 1) := by decide +kernel
theorem d_D_state_79 : decode c_D_state 79 = .ok (.getfield 17, 3) := by decide +kernel
theorem d_D_state_82 : decode c_D_state 82 = .ok (.iload_n 1, 1) := by decide +kernel
theorem d_D_state_83 : decode c_D_state 83 = .ok (.iaload, 1) := by decide +kernel
theorem d_D_state_84 : decode c_D_state 84 = .ok (.ireturn, 1) := by decide +kernel
theorem d_D_state_85 : decode c_D_state 85 = .ok (.aload_n 0, 1) := by decide +kernel
theorem d_D_state_86 : decode c_D_state 86 = .ok (.getfield 50, 3) := by decide +kernel
theorem d_D_state_89 : decode c_D_state 89 = .ok (.iload_n 1, 1) := by decide +kernel
theorem d_D_state_90 : decode c_D_state 90 = .ok (.iaload, 1) := by decide +kernel
theorem d_D_state_91 : decode c_D_state 91 = .ok (.ireturn, 1) := by decide +kernel
theorem d_D_state_92 : decode c_D_state 92 = .ok (.aload_n 0, 1) := by decide +kernel
theorem d_D_state_93 : decode c_D_state 93 = .ok (.getfield 20, 3) := by decide +kernel
theorem d_D_state_96 : decode c_D_state 96 = .ok (.iload_n 1, 1) := by decide +kernel
theorem d_D_state_97 : decode c_D_state 97 = .ok (.iaload, 1) := by decide +kernel
theorem d_D_state_98 : decode c_D_state 98 = .ok (.ireturn, 1) := by decide +kernel
theorem d_D_state_99 : decode c_D_state 99 = .ok (.aload_n 0, 1) := by decide +kernel
theorem d_D_state_100 : decode c_D_state 100 = .ok (.iload_n 1, 1) := by decide +kernel
theorem d_D_state_101 : decode c_D_state 101 = .ok (.invokevirtual 96, 3) := by decide +kernel
theorem d_D_state_104 : decode c_D_state 104 = .ok (.ireturn, 1) := by decide +kernel
theorem d_D_state_105 : decode c_D_state 105 = .ok (.aload_n 0, 1) := by decide +kernel
theorem d_D_state_106 : decode c_D_state 106 = .ok (.iload_n 1, 1) := by decide +kernel
theorem d_D_state_107 : decode c_D_state 107 = .ok (.invokevirtual 113, 3) := by decide +kernel
theorem d_D_state_110 : decode c_D_state 110 = .ok (.ireturn, 1) := by decide +kernel
theorem d_D_state_111 : decode c_D_state 111 = .ok (.aload_n 0, 1) := by decide +kernel
theorem d_D_state_112 : decode c_D_state 112 = .ok (.getfield 53, 3) := by decide +kernel
theorem d_D_state_115 : decode c_D_state 115 = .ok (.iload_n 1, 1) := by decide +kernel
theorem d_D_state_116 : decode c_D_state 116 = .ok (.baload, 1) := by decide +kernel
theorem d_D_state_117 : decode c_D_state 117 = .ok (.ifCond .eq (7), 3) := by decide +kernel
theorem d_D_state_120 : decode c_D_state 120 = .ok (.iconst 1, 1) := by decide +kernel
theorem d_D_state_121 : decode c_D_state 121 = .ok (.goto (4), 3) := by decide +kernel
theorem d_D_state_124 : decode c_D_state 124 = .ok (.iconst 0, 1) := by decide +kernel
theorem d_D_state_125 : decode c_D_state 125 = .ok (.ireturn, 1) := by decide +kernel
theorem d_D_state_126 : decode c_D_state 126 = .ok (.aload_n 0, 1) := by decide +kernel
theorem d_D_state_127 : decode c_D_state 127 = .ok (.getfield 7, 3) := by decide +kernel
theorem d_D_state_130 : decode c_D_state 130 = .ok (.iload_n 1, 1) := by decide +kernel
theorem d_D_state_131 : decode c_D_state 131 = .ok (.baload, 1) := by decide +kernel
theorem d_D_state_132 : decode c_D_state 132 = .ok (.ifCond .eq (7), 3) := by decide +kernel
theorem d_D_state_135 : decode c_D_state 135 = .ok (.iconst 0, 1) := by decide +kernel
theorem d_D_state_136 : decode c_D_state 136 = .ok (.goto (4), 3) := by decide +kernel
theorem d_D_state_139 : decode c_D_state 139 = .ok (.iconst 1, 1) := by decide +kernel
theorem d_D_state_140 : decode c_D_state 140 = .ok (.ireturn, 1) := by decide +kernel
theorem d_D_state_141 : decode c_D_state 141 = .ok (.iconst (-1), 1) := by decide +kernel
theorem d_D_state_142 : decode c_D_state 142 = .ok (.ireturn, 1) := by decide +kernel
theorem d_D_entry_0 : decode c_D_entry 0 = .ok (.aload_n 0, 1) := by decide +kernel
theorem d_D_entry_1 : decode c_D_entry 1 = .ok (.iconst 0, 1) := by decide +kernel
theorem d_D_entry_2 : decode c_D_entry 2 = .ok (.putfield 92, 3) := by decide +kernel
theorem d_D_entry_5 : decode c_D_entry 5 = .ok (.iload_n 1, 1) := by decide +kernel
theorem d_D_entry_6 : decode c_D_entry 6 = .ok (.invokestatic 143, 3) := by decide +kernel
theorem d_D_entry_9 : decode c_D_entry 9 = .ok (.ifCond .eq (12), 3) := by decide +kernel
theorem d_D_entry_12 : decode c_D_entry 12 = .ok (.aload_n 0, 1) := by decide +kernel
theorem d_D_entry_13 : decode c_D_entry 13 = .ok (.iload_n 1, 1) := by decide +kernel
theorem d_D_entry_14 : decode c_D_entry 14 = .ok (.iload_n 2, 1) := by decide +kernel
theorem d_D_entry_15 : decode c_D_entry 15 = .ok (.invokevirtual 100, 3) := by decide +kernel
theorem d_D_entry_18 : decode c_D_entry 18 = .ok (.goto (4), 3) := by decide +kernel
theorem d_D_entry_21 : decode c_D_entry 21 = .ok (.iconst (-1), 1) := by decide +kernel
theorem d_D_entry_22 : decode c_D_entry 22 = .ok (.istore 4, 2) := by decide +kernel
theorem d_D_entry_24 : decode c_D_entry 24 = .ok (.iload 4, 2) := by decide +kernel
theorem d_D_entry_26 : decode c_D_entry 26 = .ok (.ifCond .ge (5), 3) := by decide +kernel
theorem d_D_entry_29 : decode c_D_entry 29 = .ok (.iconst (-1), 1) := by decide +kernel
theorem d_D_entry_30 : decode c_D_entry 30 = .ok (.ireturn, 1) := by decide +kernel
theorem d_D_entry_31 : decode c_D_entry 31 = .ok (.iload_n 3, 1) := by decide +kernel
theorem d_D_entry_32 : decode c_D_entry 32 = .ok (.tableswitch (64) (0) (3) #[32, 40, 48, 56], 32) := by decide +kernel
theorem d_D_entry_64 : decode c_D_entry 64 = .ok (.aload_n 0, 1) := by decide +kernel
theorem d_D_entry_65 : decode c_D_entry 65 = .ok (.getfield 35, 3) := by decide +kernel
theorem d_D_entry_68 : decode c_D_entry 68 = .ok (.iload 4, 2) := by decide +kernel
theorem d_D_entry_70 : decode c_D_entry 70 = .ok (.iaload, 1) := by decide +kernel
theorem d_D_entry_71 : decode c_D_entry 71 = .ok (.ireturn, 1) := by decide +kernel
theorem d_D_entry_72 : decode c_D_entry 72 = .ok (.aload_n 0, 1) := by decide +kernel
theorem d_D_entry_73 : decode c_D_entry 73 = .ok (.getfield 38, 3) := by decide +kernel
theorem d_D_entry_76 : decode c_D_entry 76 = .ok (.iload 4, 2) := by decide +kernel
theorem d_D_entry_78 : decode c_D_entry 78 = .ok (.iaload, 1) := by decide +kernel
theorem d_D_entry_79 : decode c_D_entry 79 = .ok (.ireturn, 1) := by decide +kernel
theorem d_D_entry_80 : decode c_D_entry 80 = .ok (.aload_n 0, 1) := by decide +kernel
theorem d_D_entry_81 : decode c_D_entry 81 = .ok (.getfield 41, 3) := by decide +kernel
theorem d_D_entry_84 : decode c_D_entry 84 = .ok (.iload 4, 2) := by decide +kernel
theorem d_D_entry_86 : decode c_D_entry 86 = .ok (.iaload, 1) := by decide +kernel
theorem d_D_entry_87 : decode c_D_entry 87 = .ok (.ireturn, 1) := by decide +kernel
theorem d_D_entry_88 : decode c_D_entry 88 = .ok (.aload_n 0, 1) := by decide +kernel
theorem d_D_entry_89 : decode c_D_entry 89 = .ok (.getfield 44, 3) := by decide +kernel
theorem d_D_entry_92 : decode c_D_entry 92 = .ok (.iload 4, 2) := by decide +kernel
theorem d_D_entry_94 : decode c_D_entry 94 = .ok (.iaload, 1) := by decide +kernel
theorem d_D_entry_95 : decode c_D_entry 95 = .ok (.ireturn, 1) := by decide +kernel
theorem d_D_entry_96 : decode c_D_entry 96 = .ok (.iconst (-1), 1) := by decide +kernel
theorem d_D_entry_97 : decode c_D_entry 97 = .ok (.ireturn, 1) := by decide +kernel
theorem d_D_stored_0 : decode c_D_stored 0 = .ok (.aload_n 0, 1) := by decide +kernel
theorem d_D_stored_1 : decode c_D_stored 1 = .ok (.iconst 0, 1) := by decide +kernel
theorem d_D_stored_2 : decode c_D_stored 2 = .ok (.putfield 92, 3) := by decide +kernel
theorem d_D_stored_5 : decode c_D_stored 5 = .ok (.iload_n 1, 1) := by decide +kernel
theorem d_D_stored_6 : decode c_D_stored 6 = .ok (.invokestatic 143, 3) := by decide +kernel
theorem d_D_stored_9 : decode c_D_stored 9 = .ok (.ifCond .eq (25), 3) := by decide +kernel
theorem d_D_stored_12 : decode c_D_stored 12 = .ok (.iload_n 2, 1) := by decide +kernel
theorem d_D_stored_13 : decode c_D_stored 13 = .ok (.invokestatic 188, 3) := by decide +kernel
theorem d_D_stored_16 : decode c_D_stored 16 = .ok (.ifCond .eq (18), 3) := by decide +kernel
theorem d_D_stored_19 : decode c_D_stored 19 = .ok (.aload_n 0, 1) := by decide +kernel
theorem d_D_stored_20 : decode c_D_stored 20 = .ok (.iload_n 1, 1) := by decide +kernel
theorem d_D_stored_21 : decode c_D_stored 21 = .ok (.iload_n 2, 1) := by decide +kernel
theorem d_D_stored_22 : decode c_D_stored 22 = .ok (.aload_n 0, 1) := by decide +kernel
theorem d_D_stored_23 : decode c_D_stored 23 = .ok (.getfield 50, 3) := by decide +kernel
theorem d_D_stored_26 : decode c_D_stored 26 = .ok (.iload_n 1, 1) := by decide +kernel
theorem d_D_stored_27 : decode c_D_stored 27 = .ok (.iaload, 1) := by decide +kernel
theorem d_D_stored_28 : decode c_D_stored 28 = .ok (.invokevirtual 181, 3) := by decide +kernel
theorem d_D_stored_31 : decode c_D_stored 31 = .ok (.goto (4), 3) := by decide +kernel
theorem d_D_stored_34 : decode c_D_stored 34 = .ok (.iconst 0, 1) := by decide +kernel
theorem d_D_stored_35 : decode c_D_stored 35 = .ok (.ireturn, 1) := by decide +kernel
theorem oi_D_1 : Cond.methodLink "QuorumLogModel" 1 Lib.objectInit ∈ qu_W := qm_716
theorem fp_D_7 : qx_FP "QuorumLogModel" 7 8 1 (.array .boolean) true := ⟨"QuorumLogModel", T_D, 30, t_D, rfl, by decide, uw_D, qm_718, k_D, n_D, by decide +kernel, rfl, fun _ => rfl⟩
theorem fp_D_13 : qx_FP "QuorumLogModel" 13 8 2 (.array .int) true := ⟨"QuorumLogModel", T_D, 30, t_D, rfl, by decide, uw_D, qm_719, k_D, n_D, by decide +kernel, rfl, fun _ => rfl⟩
theorem fp_D_17 : qx_FP "QuorumLogModel" 17 8 3 (.array .int) true := ⟨"QuorumLogModel", T_D, 30, t_D, rfl, by decide, uw_D, qm_720, k_D, n_D, by decide +kernel, rfl, fun _ => rfl⟩
theorem fp_D_20 : qx_FP "QuorumLogModel" 20 8 4 (.array .int) true := ⟨"QuorumLogModel", T_D, 30, t_D, rfl, by decide, uw_D, qm_721, k_D, n_D, by decide +kernel, rfl, fun _ => rfl⟩
theorem fp_D_23 : qx_FP "QuorumLogModel" 23 8 5 (.array .int) true := ⟨"QuorumLogModel", T_D, 30, t_D, rfl, by decide, uw_D, qm_722, k_D, n_D, by decide +kernel, rfl, fun _ => rfl⟩
theorem fp_D_26 : qx_FP "QuorumLogModel" 26 8 6 (.array .int) true := ⟨"QuorumLogModel", T_D, 30, t_D, rfl, by decide, uw_D, qm_723, k_D, n_D, by decide +kernel, rfl, fun _ => rfl⟩
theorem fp_D_29 : qx_FP "QuorumLogModel" 29 8 7 (.array .int) true := ⟨"QuorumLogModel", T_D, 30, t_D, rfl, by decide, uw_D, qm_724, k_D, n_D, by decide +kernel, rfl, fun _ => rfl⟩
theorem fp_D_32 : qx_FP "QuorumLogModel" 32 8 8 (.array .int) true := ⟨"QuorumLogModel", T_D, 30, t_D, rfl, by decide, uw_D, qm_725, k_D, n_D, by decide +kernel, rfl, fun _ => rfl⟩
theorem fp_D_35 : qx_FP "QuorumLogModel" 35 8 9 (.array .int) true := ⟨"QuorumLogModel", T_D, 30, t_D, rfl, by decide, uw_D, qm_726, k_D, n_D, by decide +kernel, rfl, fun _ => rfl⟩
theorem fp_D_38 : qx_FP "QuorumLogModel" 38 8 10 (.array .int) true := ⟨"QuorumLogModel", T_D, 30, t_D, rfl, by decide, uw_D, qm_727, k_D, n_D, by decide +kernel, rfl, fun _ => rfl⟩
theorem fp_D_41 : qx_FP "QuorumLogModel" 41 8 11 (.array .int) true := ⟨"QuorumLogModel", T_D, 30, t_D, rfl, by decide, uw_D, qm_728, k_D, n_D, by decide +kernel, rfl, fun _ => rfl⟩
theorem fp_D_44 : qx_FP "QuorumLogModel" 44 8 12 (.array .int) true := ⟨"QuorumLogModel", T_D, 30, t_D, rfl, by decide, uw_D, qm_729, k_D, n_D, by decide +kernel, rfl, fun _ => rfl⟩
theorem fp_D_47 : qx_FP "QuorumLogModel" 47 8 13 (.array .int) true := ⟨"QuorumLogModel", T_D, 30, t_D, rfl, by decide, uw_D, qm_730, k_D, n_D, by decide +kernel, rfl, fun _ => rfl⟩
theorem fp_D_50 : qx_FP "QuorumLogModel" 50 8 14 (.array .int) true := ⟨"QuorumLogModel", T_D, 30, t_D, rfl, by decide, uw_D, qm_731, k_D, n_D, by decide +kernel, rfl, fun _ => rfl⟩
theorem fp_D_53 : qx_FP "QuorumLogModel" 53 8 15 (.array .boolean) true := ⟨"QuorumLogModel", T_D, 30, t_D, rfl, by decide, uw_D, qm_732, k_D, n_D, by decide +kernel, rfl, fun _ => rfl⟩
theorem fp_D_56 : qx_FP "QuorumLogModel" 56 8 16 (.array .int) true := ⟨"QuorumLogModel", T_D, 30, t_D, rfl, by decide, uw_D, qm_733, k_D, n_D, by decide +kernel, rfl, fun _ => rfl⟩
theorem fp_D_59 : qx_FP "QuorumLogModel" 59 8 17 (.array .int) true := ⟨"QuorumLogModel", T_D, 30, t_D, rfl, by decide, uw_D, qm_734, k_D, n_D, by decide +kernel, rfl, fun _ => rfl⟩
theorem fp_D_62 : qx_FP "QuorumLogModel" 62 8 18 (.array .int) true := ⟨"QuorumLogModel", T_D, 30, t_D, rfl, by decide, uw_D, qm_735, k_D, n_D, by decide +kernel, rfl, fun _ => rfl⟩
theorem fp_D_65 : qx_FP "QuorumLogModel" 65 8 19 (.array .int) true := ⟨"QuorumLogModel", T_D, 30, t_D, rfl, by decide, uw_D, qm_736, k_D, n_D, by decide +kernel, rfl, fun _ => rfl⟩
theorem fp_D_68 : qx_FP "QuorumLogModel" 68 8 20 (.array .int) true := ⟨"QuorumLogModel", T_D, 30, t_D, rfl, by decide, uw_D, qm_737, k_D, n_D, by decide +kernel, rfl, fun _ => rfl⟩
theorem fp_D_71 : qx_FP "QuorumLogModel" 71 8 22 (.array .int) true := ⟨"QuorumLogModel", T_D, 30, t_D, rfl, by decide, uw_D, qm_739, k_D, n_D, by decide +kernel, rfl, fun _ => rfl⟩
theorem fp_D_74 : qx_FP "QuorumLogModel" 74 8 23 (.array .int) true := ⟨"QuorumLogModel", T_D, 30, t_D, rfl, by decide, uw_D, qm_740, k_D, n_D, by decide +kernel, rfl, fun _ => rfl⟩
theorem fp_D_77 : qx_FP "QuorumLogModel" 77 8 24 (.array .int) true := ⟨"QuorumLogModel", T_D, 30, t_D, rfl, by decide, uw_D, qm_741, k_D, n_D, by decide +kernel, rfl, fun _ => rfl⟩
theorem fp_D_80 : qx_FP "QuorumLogModel" 80 8 25 (.array .int) true := ⟨"QuorumLogModel", T_D, 30, t_D, rfl, by decide, uw_D, qm_742, k_D, n_D, by decide +kernel, rfl, fun _ => rfl⟩
theorem fp_D_83 : qx_FP "QuorumLogModel" 83 8 26 (.array .int) true := ⟨"QuorumLogModel", T_D, 30, t_D, rfl, by decide, uw_D, qm_743, k_D, n_D, by decide +kernel, rfl, fun _ => rfl⟩
theorem fp_D_86 : qx_FP "QuorumLogModel" 86 8 28 (.array .int) true := ⟨"QuorumLogModel", T_D, 30, t_D, rfl, by decide, uw_D, qm_745, k_D, n_D, by decide +kernel, rfl, fun _ => rfl⟩
theorem fp_D_89 : qx_FP "QuorumLogModel" 89 8 29 (.array .int) true := ⟨"QuorumLogModel", T_D, 30, t_D, rfl, by decide, uw_D, qm_746, k_D, n_D, by decide +kernel, rfl, fun _ => rfl⟩
theorem fl_D_17 : qx_FL "QuorumLogModel" 17 8 3 := ⟨"QuorumLogModel", T_D, 30, rfl, by decide, uw_D, qm_720⟩
theorem fl_D_26 : qx_FL "QuorumLogModel" 26 8 6 := ⟨"QuorumLogModel", T_D, 30, rfl, by decide, uw_D, qm_723⟩
theorem fl_D_92 : qx_FL "QuorumLogModel" 92 8 0 := ⟨"QuorumLogModel", T_D, 30, rfl, by decide, uw_D, qm_717⟩
theorem fp_D_92 : qx_FP "QuorumLogModel" 92 8 0 (.int) false := ⟨"QuorumLogModel", T_D, 30, t_D, rfl, by decide, uw_D, qm_717, k_D, n_D, by decide +kernel, rfl, fun _ => by contradiction⟩
theorem s_D_timer_6 {l : Launch} {G : qh_G} {h : qh_H} {rest : List Value} {v0 : Value} : qx_Site l G "QuorumLogModel" c_D_timer 6 y_D_isServer [v0] rest h := qx_siteS (As := [v0]) d_D_timer_6 qm_817 qm_818 qm_8 w_D_isServer.1 (by decide) p_D_isServer
theorem fl_D_7 : qx_FL "QuorumLogModel" 7 8 1 := ⟨"QuorumLogModel", T_D, 30, rfl, by decide, uw_D, qm_718⟩
theorem fl_D_47 : qx_FL "QuorumLogModel" 47 8 13 := ⟨"QuorumLogModel", T_D, 30, rfl, by decide, uw_D, qm_730⟩
theorem s_D_timer_33 {l : Launch} {G : qh_G} {h : qh_H} {b0 : Nat} {fs rest : List Value} {v0 : Value} (hb0 : h b0 = some (.inr (8, fs))) : qx_Site l G "QuorumLogModel" c_D_timer 33 y_D_isMine (.ref b0 :: [v0]) rest h := qx_siteV (As := [v0]) (E := "QuorumLogModel") (ci := 8) d_D_timer_33 qm_820 qm_822 qs_23 w_D_isMine.1 (by decide) rfl p_D_isMine hb0
theorem fl_D_32 : qx_FL "QuorumLogModel" 32 8 8 := ⟨"QuorumLogModel", T_D, 30, rfl, by decide, uw_D, qm_725⟩
theorem fl_D_53 : qx_FL "QuorumLogModel" 53 8 15 := ⟨"QuorumLogModel", T_D, 30, rfl, by decide, uw_D, qm_732⟩
theorem fl_D_56 : qx_FL "QuorumLogModel" 56 8 16 := ⟨"QuorumLogModel", T_D, 30, rfl, by decide, uw_D, qm_733⟩
theorem fl_D_13 : qx_FL "QuorumLogModel" 13 8 2 := ⟨"QuorumLogModel", T_D, 30, rfl, by decide, uw_D, qm_719⟩
theorem s_D_timer_86 {l : Launch} {G : qh_G} {h : qh_H} {b0 : Nat} {fs rest : List Value} {v0 v1 v2 : Value} (hb0 : h b0 = some (.inr (8, fs))) : qx_Site l G "QuorumLogModel" c_D_timer 86 y_D_askAll (.ref b0 :: [v0, v1, v2]) rest h := qx_siteV (As := [v0, v1, v2]) (E := "QuorumLogModel") (ci := 8) d_D_timer_86 qm_844 qm_846 qs_29 w_D_askAll.1 (by decide) rfl p_D_askAll hb0
theorem s_D_timer_91 {l : Launch} {G : qh_G} {h : qh_H} {b0 : Nat} {fs rest : List Value} {v0 : Value} (hb0 : h b0 = some (.inr (8, fs))) : qx_Site l G "QuorumLogModel" c_D_timer 91 y_D_weigh (.ref b0 :: [v0]) rest h := qx_siteV (As := [v0]) (E := "QuorumLogModel") (ci := 8) d_D_timer_91 qm_864 qm_866 qs_34 w_D_weigh.1 (by decide) rfl p_D_weigh hb0
theorem s_D_isMine_2 {l : Launch} {G : qh_G} {h : qh_H} {b0 : Nat} {fs rest : List Value} {v0 : Value} (hb0 : h b0 = some (.inr (8, fs))) : qx_Site l G "QuorumLogModel" c_D_isMine 2 y_D_config (.ref b0 :: [v0]) rest h := qx_siteV (As := [v0]) (E := "QuorumLogModel") (ci := 8) d_D_isMine_2 qm_824 qm_826 qs_24 w_D_config.1 (by decide) rfl p_D_config hb0
theorem s_D_config_4 {l : Launch} {G : qh_G} {h : qh_H} {b0 : Nat} {fs rest : List Value} {v0 : Value} (hb0 : h b0 = some (.inr (8, fs))) : qx_Site l G "QuorumLogModel" c_D_config 4 y_D_last (.ref b0 :: [v0]) rest h := qx_siteV (As := [v0]) (E := "QuorumLogModel") (ci := 8) d_D_config_4 qm_828 qm_830 qs_25 w_D_last.1 (by decide) rfl p_D_last hb0
theorem s_D_config_7 {l : Launch} {G : qh_G} {h : qh_H} {b0 : Nat} {fs rest : List Value} {v0 v1 : Value} (hb0 : h b0 = some (.inr (8, fs))) : qx_Site l G "QuorumLogModel" c_D_config 7 y_D_membersAt (.ref b0 :: [v0, v1]) rest h := qx_siteV (As := [v0, v1]) (E := "QuorumLogModel") (ci := 8) d_D_config_7 qm_832 qm_834 qs_26 w_D_membersAt.1 (by decide) rfl p_D_membersAt hb0
theorem fl_D_20 : qx_FL "QuorumLogModel" 20 8 4 := ⟨"QuorumLogModel", T_D, 30, rfl, by decide, uw_D, qm_721⟩
theorem s_D_membersAt_3 {l : Launch} {G : qh_G} {h : qh_H} {b0 : Nat} {fs rest : List Value} {v0 v1 : Value} (hb0 : h b0 = some (.inr (8, fs))) : qx_Site l G "QuorumLogModel" c_D_membersAt 3 y_D_latestMembers (.ref b0 :: [v0, v1]) rest h := qx_siteV (As := [v0, v1]) (E := "QuorumLogModel") (ci := 8) d_D_membersAt_3 qm_836 qm_838 qs_27 w_D_latestMembers.1 (by decide) rfl p_D_latestMembers hb0
theorem fl_D_41 : qx_FL "QuorumLogModel" 41 8 11 := ⟨"QuorumLogModel", T_D, 30, rfl, by decide, uw_D, qm_728⟩
theorem s_D_membersAt_27 {l : Launch} {G : qh_G} {h : qh_H} {b0 : Nat} {fs rest : List Value} {v0 v1 : Value} (hb0 : h b0 = some (.inr (8, fs))) : qx_Site l G "QuorumLogModel" c_D_membersAt 27 y_D_cell (.ref b0 :: [v0, v1]) rest h := qx_siteV (As := [v0, v1]) (E := "QuorumLogModel") (ci := 8) d_D_membersAt_27 qm_840 qm_842 qs_28 w_D_cell.1 (by decide) rfl p_D_cell hb0
theorem fl_D_38 : qx_FL "QuorumLogModel" 38 8 10 := ⟨"QuorumLogModel", T_D, 30, rfl, by decide, uw_D, qm_727⟩
theorem s_D_latestMembers_26 {l : Launch} {G : qh_G} {h : qh_H} {b0 : Nat} {fs rest : List Value} {v0 v1 : Value} (hb0 : h b0 = some (.inr (8, fs))) : qx_Site l G "QuorumLogModel" c_D_latestMembers 26 y_D_cell (.ref b0 :: [v0, v1]) rest h := qx_siteV (As := [v0, v1]) (E := "QuorumLogModel") (ci := 8) d_D_latestMembers_26 qm_840 qm_842 qs_28 w_D_cell.1 (by decide) rfl p_D_cell hb0
theorem s_D_cell_13 {l : Launch} {G : qh_G} {h : qh_H} {b0 : Nat} {fs rest : List Value} {v0 : Value} (hb0 : h b0 = some (.inr (8, fs))) : qx_Site l G "QuorumLogModel" c_D_cell 13 y_D_last (.ref b0 :: [v0]) rest h := qx_siteV (As := [v0]) (E := "QuorumLogModel") (ci := 8) d_D_cell_13 qm_828 qm_830 qs_25 w_D_last.1 (by decide) rfl p_D_last hb0
theorem s_D_askAll_2 {l : Launch} {G : qh_G} {h : qh_H} {b0 : Nat} {fs rest : List Value} {v0 : Value} (hb0 : h b0 = some (.inr (8, fs))) : qx_Site l G "QuorumLogModel" c_D_askAll 2 y_D_config (.ref b0 :: [v0]) rest h := qx_siteV (As := [v0]) (E := "QuorumLogModel") (ci := 8) d_D_askAll_2 qm_824 qm_826 qs_24 w_D_config.1 (by decide) rfl p_D_config hb0
theorem s_D_askAll_41 {l : Launch} {G : qh_G} {h : qh_H} {b0 : Nat} {fs rest : List Value} {v0 v1 v2 v3 : Value} (hb0 : h b0 = some (.inr (8, fs))) : qx_Site l G "QuorumLogModel" c_D_askAll 41 y_D_begin (.ref b0 :: [v0, v1, v2, v3]) rest h := qx_siteV (As := [v0, v1, v2, v3]) (E := "QuorumLogModel") (ci := 8) d_D_askAll_41 qm_848 qm_850 qs_30 w_D_begin.1 (by decide) rfl p_D_begin hb0
theorem fl_D_89 : qx_FL "QuorumLogModel" 89 8 29 := ⟨"QuorumLogModel", T_D, 30, rfl, by decide, uw_D, qm_746⟩
theorem s_D_askAll_51 {l : Launch} {G : qh_G} {h : qh_H} {b0 : Nat} {fs rest : List Value} {v0 : Value} (hb0 : h b0 = some (.inr (8, fs))) : qx_Site l G "QuorumLogModel" c_D_askAll 51 y_D_last (.ref b0 :: [v0]) rest h := qx_siteV (As := [v0]) (E := "QuorumLogModel") (ci := 8) d_D_askAll_51 qm_828 qm_830 qs_25 w_D_last.1 (by decide) rfl p_D_last hb0
theorem s_D_askAll_62 {l : Launch} {G : qh_G} {h : qh_H} {b0 : Nat} {fs rest : List Value} {v0 : Value} (hb0 : h b0 = some (.inr (8, fs))) : qx_Site l G "QuorumLogModel" c_D_askAll 62 y_D_lastTerm (.ref b0 :: [v0]) rest h := qx_siteV (As := [v0]) (E := "QuorumLogModel") (ci := 8) d_D_askAll_62 qm_852 qm_854 qs_31 w_D_lastTerm.1 (by decide) rfl p_D_lastTerm hb0
theorem s_D_askAll_67 {l : Launch} {G : qh_G} {h : qh_H} {b0 : Nat} {fs rest : List Value} (hb0 : h b0 = some (.inr (8, fs))) : qx_Site l G "QuorumLogModel" c_D_askAll 67 y_D_post (.ref b0 :: []) rest h := qx_siteV (As := []) (E := "QuorumLogModel") (ci := 8) d_D_askAll_67 qm_860 qm_862 qs_33 w_D_post.1 (by decide) rfl p_D_post hb0
theorem s_D_lastTerm_4 {l : Launch} {G : qh_G} {h : qh_H} {b0 : Nat} {fs rest : List Value} {v0 : Value} (hb0 : h b0 = some (.inr (8, fs))) : qx_Site l G "QuorumLogModel" c_D_lastTerm 4 y_D_last (.ref b0 :: [v0]) rest h := qx_siteV (As := [v0]) (E := "QuorumLogModel") (ci := 8) d_D_lastTerm_4 qm_828 qm_830 qs_25 w_D_last.1 (by decide) rfl p_D_last hb0
theorem s_D_lastTerm_7 {l : Launch} {G : qh_G} {h : qh_H} {b0 : Nat} {fs rest : List Value} {v0 v1 : Value} (hb0 : h b0 = some (.inr (8, fs))) : qx_Site l G "QuorumLogModel" c_D_lastTerm 7 y_D_termAt (.ref b0 :: [v0, v1]) rest h := qx_siteV (As := [v0, v1]) (E := "QuorumLogModel") (ci := 8) d_D_lastTerm_7 qm_856 qm_858 qs_32 w_D_termAt.1 (by decide) rfl p_D_termAt hb0
theorem fl_D_23 : qx_FL "QuorumLogModel" 23 8 5 := ⟨"QuorumLogModel", T_D, 30, rfl, by decide, uw_D, qm_722⟩
theorem s_D_termAt_20 {l : Launch} {G : qh_G} {h : qh_H} {b0 : Nat} {fs rest : List Value} {v0 v1 : Value} (hb0 : h b0 = some (.inr (8, fs))) : qx_Site l G "QuorumLogModel" c_D_termAt 20 y_D_cell (.ref b0 :: [v0, v1]) rest h := qx_siteV (As := [v0, v1]) (E := "QuorumLogModel") (ci := 8) d_D_termAt_20 qm_840 qm_842 qs_28 w_D_cell.1 (by decide) rfl p_D_cell hb0
theorem fl_D_35 : qx_FL "QuorumLogModel" 35 8 9 := ⟨"QuorumLogModel", T_D, 30, rfl, by decide, uw_D, qm_726⟩
theorem fl_D_119 : qx_FL "QuorumLogModel" 119 8 27 := ⟨"QuorumLogModel", T_D, 30, rfl, by decide, uw_D, qm_744⟩
theorem fl_D_86 : qx_FL "QuorumLogModel" 86 8 28 := ⟨"QuorumLogModel", T_D, 30, rfl, by decide, uw_D, qm_745⟩
theorem fp_D_119 : qx_FP "QuorumLogModel" 119 8 27 (.int) false := ⟨"QuorumLogModel", T_D, 30, t_D, rfl, by decide, uw_D, qm_744, k_D, n_D, by decide +kernel, rfl, fun _ => by contradiction⟩
theorem s_D_weigh_18 {l : Launch} {G : qh_G} {h : qh_H} {b0 : Nat} {fs rest : List Value} {v0 v1 : Value} (hb0 : h b0 = some (.inr (8, fs))) : qx_Site l G "QuorumLogModel" c_D_weigh 18 y_D_most (.ref b0 :: [v0, v1]) rest h := qx_siteV (As := [v0, v1]) (E := "QuorumLogModel") (ci := 8) d_D_weigh_18 qm_868 qm_870 qs_35 w_D_most.1 (by decide) rfl p_D_most hb0
theorem s_D_weigh_66 {l : Launch} {G : qh_G} {h : qh_H} {b0 : Nat} {fs rest : List Value} {v0 v1 v2 : Value} (hb0 : h b0 = some (.inr (8, fs))) : qx_Site l G "QuorumLogModel" c_D_weigh 66 y_D_askAll (.ref b0 :: [v0, v1, v2]) rest h := qx_siteV (As := [v0, v1, v2]) (E := "QuorumLogModel") (ci := 8) d_D_weigh_66 qm_844 qm_846 qs_29 w_D_askAll.1 (by decide) rfl p_D_askAll hb0
theorem s_D_weigh_87 {l : Launch} {G : qh_G} {h : qh_H} {b0 : Nat} {fs rest : List Value} {v0 v1 : Value} (hb0 : h b0 = some (.inr (8, fs))) : qx_Site l G "QuorumLogModel" c_D_weigh 87 y_D_most (.ref b0 :: [v0, v1]) rest h := qx_siteV (As := [v0, v1]) (E := "QuorumLogModel") (ci := 8) d_D_weigh_87 qm_868 qm_870 qs_35 w_D_most.1 (by decide) rfl p_D_most hb0
theorem s_D_weigh_95 {l : Launch} {G : qh_G} {h : qh_H} {b0 : Nat} {fs rest : List Value} {v0 : Value} (hb0 : h b0 = some (.inr (8, fs))) : qx_Site l G "QuorumLogModel" c_D_weigh 95 y_D_lead (.ref b0 :: [v0]) rest h := qx_siteV (As := [v0]) (E := "QuorumLogModel") (ci := 8) d_D_weigh_95 qm_875 qm_877 qs_36 w_D_lead.1 (by decide) rfl p_D_lead hb0
theorem s_D_most_2 {l : Launch} {G : qh_G} {h : qh_H} {b0 : Nat} {fs rest : List Value} {v0 : Value} (hb0 : h b0 = some (.inr (8, fs))) : qx_Site l G "QuorumLogModel" c_D_most 2 y_D_config (.ref b0 :: [v0]) rest h := qx_siteV (As := [v0]) (E := "QuorumLogModel") (ci := 8) d_D_most_2 qm_824 qm_826 qs_24 w_D_config.1 (by decide) rfl p_D_config hb0
theorem s_D_most_10 {l : Launch} {G : qh_G} {h : qh_H} {rest : List Value} {v0 : Value} : qx_Site l G "QuorumLogModel" c_D_most 10 y_D_count [v0] rest h := qx_siteS (As := [v0]) d_D_most_10 qm_872 qm_873 qm_8 w_D_count.1 (by decide) p_D_count
theorem s_D_most_15 {l : Launch} {G : qh_G} {h : qh_H} {rest : List Value} {v0 : Value} : qx_Site l G "QuorumLogModel" c_D_most 15 y_D_count [v0] rest h := qx_siteS (As := [v0]) d_D_most_15 qm_872 qm_873 qm_8 w_D_count.1 (by decide) p_D_count
theorem fl_D_68 : qx_FL "QuorumLogModel" 68 8 20 := ⟨"QuorumLogModel", T_D, 30, rfl, by decide, uw_D, qm_737⟩
theorem fl_D_59 : qx_FL "QuorumLogModel" 59 8 17 := ⟨"QuorumLogModel", T_D, 30, rfl, by decide, uw_D, qm_734⟩
theorem s_D_lead_32 {l : Launch} {G : qh_G} {h : qh_H} {b0 : Nat} {fs rest : List Value} {v0 : Value} (hb0 : h b0 = some (.inr (8, fs))) : qx_Site l G "QuorumLogModel" c_D_lead 32 y_D_last (.ref b0 :: [v0]) rest h := qx_siteV (As := [v0]) (E := "QuorumLogModel") (ci := 8) d_D_lead_32 qm_828 qm_830 qs_25 w_D_last.1 (by decide) rfl p_D_last hb0
theorem fl_D_62 : qx_FL "QuorumLogModel" 62 8 18 := ⟨"QuorumLogModel", T_D, 30, rfl, by decide, uw_D, qm_735⟩
theorem fl_D_65 : qx_FL "QuorumLogModel" 65 8 19 := ⟨"QuorumLogModel", T_D, 30, rfl, by decide, uw_D, qm_736⟩
theorem s_D_lead_71 {l : Launch} {G : qh_G} {h : qh_H} {b0 : Nat} {fs rest : List Value} {v0 v1 v2 v3 : Value} (hb0 : h b0 = some (.inr (8, fs))) : qx_Site l G "QuorumLogModel" c_D_lead 71 y_D_append (.ref b0 :: [v0, v1, v2, v3]) rest h := qx_siteV (As := [v0, v1, v2, v3]) (E := "QuorumLogModel") (ci := 8) d_D_lead_71 qm_879 qm_881 qs_37 w_D_append.1 (by decide) rfl p_D_append hb0
theorem s_D_append_12 {l : Launch} {G : qh_G} {h : qh_H} {b0 : Nat} {fs rest : List Value} {v0 v1 v2 v3 v4 : Value} (hb0 : h b0 = some (.inr (8, fs))) : qx_Site l G "QuorumLogModel" c_D_append 12 y_D_push (.ref b0 :: [v0, v1, v2, v3, v4]) rest h := qx_siteV (As := [v0, v1, v2, v3, v4]) (E := "QuorumLogModel") (ci := 8) d_D_append_12 qm_883 qm_885 qs_38 w_D_push.1 (by decide) rfl p_D_push hb0
theorem s_D_append_17 {l : Launch} {G : qh_G} {h : qh_H} {b0 : Nat} {fs rest : List Value} {v0 : Value} (hb0 : h b0 = some (.inr (8, fs))) : qx_Site l G "QuorumLogModel" c_D_append 17 y_D_last (.ref b0 :: [v0]) rest h := qx_siteV (As := [v0]) (E := "QuorumLogModel") (ci := 8) d_D_append_17 qm_828 qm_830 qs_25 w_D_last.1 (by decide) rfl p_D_last hb0
theorem s_D_append_24 {l : Launch} {G : qh_G} {h : qh_H} {b0 : Nat} {fs rest : List Value} {v0 : Value} (hb0 : h b0 = some (.inr (8, fs))) : qx_Site l G "QuorumLogModel" c_D_append 24 y_D_lookAtCommit (.ref b0 :: [v0]) rest h := qx_siteV (As := [v0]) (E := "QuorumLogModel") (ci := 8) d_D_append_24 qm_887 qm_889 qs_39 w_D_lookAtCommit.1 (by decide) rfl p_D_lookAtCommit hb0
theorem s_D_append_29 {l : Launch} {G : qh_G} {h : qh_H} {b0 : Nat} {fs rest : List Value} {v0 : Value} (hb0 : h b0 = some (.inr (8, fs))) : qx_Site l G "QuorumLogModel" c_D_append 29 y_D_sendAll (.ref b0 :: [v0]) rest h := qx_siteV (As := [v0]) (E := "QuorumLogModel") (ci := 8) d_D_append_29 qm_899 qm_901 qs_42 w_D_sendAll.1 (by decide) rfl p_D_sendAll hb0
theorem fl_D_44 : qx_FL "QuorumLogModel" 44 8 12 := ⟨"QuorumLogModel", T_D, 30, rfl, by decide, uw_D, qm_729⟩
theorem fl_D_50 : qx_FL "QuorumLogModel" 50 8 14 := ⟨"QuorumLogModel", T_D, 30, rfl, by decide, uw_D, qm_731⟩
theorem s_D_lookAtCommit_19 {l : Launch} {G : qh_G} {h : qh_H} {b0 : Nat} {fs rest : List Value} {v0 : Value} (hb0 : h b0 = some (.inr (8, fs))) : qx_Site l G "QuorumLogModel" c_D_lookAtCommit 19 y_D_last (.ref b0 :: [v0]) rest h := qx_siteV (As := [v0]) (E := "QuorumLogModel") (ci := 8) d_D_lookAtCommit_19 qm_828 qm_830 qs_25 w_D_last.1 (by decide) rfl p_D_last hb0
theorem s_D_lookAtCommit_28 {l : Launch} {G : qh_G} {h : qh_H} {b0 : Nat} {fs rest : List Value} {v0 v1 : Value} (hb0 : h b0 = some (.inr (8, fs))) : qx_Site l G "QuorumLogModel" c_D_lookAtCommit 28 y_D_termAt (.ref b0 :: [v0, v1]) rest h := qx_siteV (As := [v0, v1]) (E := "QuorumLogModel") (ci := 8) d_D_lookAtCommit_28 qm_856 qm_858 qs_32 w_D_termAt.1 (by decide) rfl p_D_termAt hb0
theorem s_D_lookAtCommit_45 {l : Launch} {G : qh_G} {h : qh_H} {b0 : Nat} {fs rest : List Value} {v0 v1 : Value} (hb0 : h b0 = some (.inr (8, fs))) : qx_Site l G "QuorumLogModel" c_D_lookAtCommit 45 y_D_having (.ref b0 :: [v0, v1]) rest h := qx_siteV (As := [v0, v1]) (E := "QuorumLogModel") (ci := 8) d_D_lookAtCommit_45 qm_891 qm_893 qs_40 w_D_having.1 (by decide) rfl p_D_having hb0
theorem s_D_lookAtCommit_48 {l : Launch} {G : qh_G} {h : qh_H} {b0 : Nat} {fs rest : List Value} {v0 v1 : Value} (hb0 : h b0 = some (.inr (8, fs))) : qx_Site l G "QuorumLogModel" c_D_lookAtCommit 48 y_D_most (.ref b0 :: [v0, v1]) rest h := qx_siteV (As := [v0, v1]) (E := "QuorumLogModel") (ci := 8) d_D_lookAtCommit_48 qm_868 qm_870 qs_35 w_D_most.1 (by decide) rfl p_D_most hb0
theorem s_D_lookAtCommit_73 {l : Launch} {G : qh_G} {h : qh_H} {b0 : Nat} {fs rest : List Value} {v0 : Value} (hb0 : h b0 = some (.inr (8, fs))) : qx_Site l G "QuorumLogModel" c_D_lookAtCommit 73 y_D_last (.ref b0 :: [v0]) rest h := qx_siteV (As := [v0]) (E := "QuorumLogModel") (ci := 8) d_D_lookAtCommit_73 qm_828 qm_830 qs_25 w_D_last.1 (by decide) rfl p_D_last hb0
theorem s_D_lookAtCommit_76 {l : Launch} {G : qh_G} {h : qh_H} {b0 : Nat} {fs rest : List Value} {v0 v1 : Value} (hb0 : h b0 = some (.inr (8, fs))) : qx_Site l G "QuorumLogModel" c_D_lookAtCommit 76 y_D_latestMembers (.ref b0 :: [v0, v1]) rest h := qx_siteV (As := [v0, v1]) (E := "QuorumLogModel") (ci := 8) d_D_lookAtCommit_76 qm_836 qm_838 qs_27 w_D_latestMembers.1 (by decide) rfl p_D_latestMembers hb0
theorem s_D_lookAtCommit_96 {l : Launch} {G : qh_G} {h : qh_H} {b0 : Nat} {fs rest : List Value} {v0 : Value} (hb0 : h b0 = some (.inr (8, fs))) : qx_Site l G "QuorumLogModel" c_D_lookAtCommit 96 y_D_isMine (.ref b0 :: [v0]) rest h := qx_siteV (As := [v0]) (E := "QuorumLogModel") (ci := 8) d_D_lookAtCommit_96 qm_820 qm_822 qs_23 w_D_isMine.1 (by decide) rfl p_D_isMine hb0
theorem s_D_lookAtCommit_104 {l : Launch} {G : qh_G} {h : qh_H} {b0 : Nat} {fs rest : List Value} {v0 : Value} (hb0 : h b0 = some (.inr (8, fs))) : qx_Site l G "QuorumLogModel" c_D_lookAtCommit 104 y_D_follow (.ref b0 :: [v0]) rest h := qx_siteV (As := [v0]) (E := "QuorumLogModel") (ci := 8) d_D_lookAtCommit_104 qm_895 qm_897 qs_41 w_D_follow.1 (by decide) rfl p_D_follow hb0
theorem fl_D_136 : qx_FL "QuorumLogModel" 136 8 21 := ⟨"QuorumLogModel", T_D, 30, rfl, by decide, uw_D, qm_738⟩
theorem fl_D_71 : qx_FL "QuorumLogModel" 71 8 22 := ⟨"QuorumLogModel", T_D, 30, rfl, by decide, uw_D, qm_739⟩
theorem fl_D_80 : qx_FL "QuorumLogModel" 80 8 25 := ⟨"QuorumLogModel", T_D, 30, rfl, by decide, uw_D, qm_742⟩
theorem s_D_sendAll_2 {l : Launch} {G : qh_G} {h : qh_H} {b0 : Nat} {fs rest : List Value} {v0 : Value} (hb0 : h b0 = some (.inr (8, fs))) : qx_Site l G "QuorumLogModel" c_D_sendAll 2 y_D_config (.ref b0 :: [v0]) rest h := qx_siteV (As := [v0]) (E := "QuorumLogModel") (ci := 8) d_D_sendAll_2 qm_824 qm_826 qs_24 w_D_config.1 (by decide) rfl p_D_config hb0
theorem s_D_sendAll_30 {l : Launch} {G : qh_G} {h : qh_H} {b0 : Nat} {fs rest : List Value} {v0 v1 : Value} (hb0 : h b0 = some (.inr (8, fs))) : qx_Site l G "QuorumLogModel" c_D_sendAll 30 y_D_sendTo (.ref b0 :: [v0, v1]) rest h := qx_siteV (As := [v0, v1]) (E := "QuorumLogModel") (ci := 8) d_D_sendAll_30 qm_903 qm_905 qs_43 w_D_sendTo.1 (by decide) rfl p_D_sendTo hb0
theorem s_D_sendTo_50 {l : Launch} {G : qh_G} {h : qh_H} {b0 : Nat} {fs rest : List Value} {v0 v1 v2 v3 : Value} (hb0 : h b0 = some (.inr (8, fs))) : qx_Site l G "QuorumLogModel" c_D_sendTo 50 y_D_begin (.ref b0 :: [v0, v1, v2, v3]) rest h := qx_siteV (As := [v0, v1, v2, v3]) (E := "QuorumLogModel") (ci := 8) d_D_sendTo_50 qm_848 qm_850 qs_30 w_D_begin.1 (by decide) rfl p_D_begin hb0
theorem s_D_sendTo_126 {l : Launch} {G : qh_G} {h : qh_H} {b0 : Nat} {fs rest : List Value} {v0 v1 : Value} (hb0 : h b0 = some (.inr (8, fs))) : qx_Site l G "QuorumLogModel" c_D_sendTo 126 y_D_termAt (.ref b0 :: [v0, v1]) rest h := qx_siteV (As := [v0, v1]) (E := "QuorumLogModel") (ci := 8) d_D_sendTo_126 qm_856 qm_858 qs_32 w_D_termAt.1 (by decide) rfl p_D_termAt hb0
theorem fl_D_29 : qx_FL "QuorumLogModel" 29 8 7 := ⟨"QuorumLogModel", T_D, 30, rfl, by decide, uw_D, qm_724⟩
theorem s_D_sendTo_194 {l : Launch} {G : qh_G} {h : qh_H} {b0 : Nat} {fs rest : List Value} {v0 : Value} (hb0 : h b0 = some (.inr (8, fs))) : qx_Site l G "QuorumLogModel" c_D_sendTo 194 y_D_last (.ref b0 :: [v0]) rest h := qx_siteV (As := [v0]) (E := "QuorumLogModel") (ci := 8) d_D_sendTo_194 qm_828 qm_830 qs_25 w_D_last.1 (by decide) rfl p_D_last hb0
theorem s_D_sendTo_215 {l : Launch} {G : qh_G} {h : qh_H} {b0 : Nat} {fs rest : List Value} {v0 v1 : Value} (hb0 : h b0 = some (.inr (8, fs))) : qx_Site l G "QuorumLogModel" c_D_sendTo 215 y_D_cell (.ref b0 :: [v0, v1]) rest h := qx_siteV (As := [v0, v1]) (E := "QuorumLogModel") (ci := 8) d_D_sendTo_215 qm_840 qm_842 qs_28 w_D_cell.1 (by decide) rfl p_D_cell hb0
theorem s_D_sendTo_314 {l : Launch} {G : qh_G} {h : qh_H} {b0 : Nat} {fs rest : List Value} (hb0 : h b0 = some (.inr (8, fs))) : qx_Site l G "QuorumLogModel" c_D_sendTo 314 y_D_post (.ref b0 :: []) rest h := qx_siteV (As := []) (E := "QuorumLogModel") (ci := 8) d_D_sendTo_314 qm_860 qm_862 qs_33 w_D_post.1 (by decide) rfl p_D_post hb0
theorem s_D_beat_6 {l : Launch} {G : qh_G} {h : qh_H} {rest : List Value} {v0 : Value} : qx_Site l G "QuorumLogModel" c_D_beat 6 y_D_isServer [v0] rest h := qx_siteS (As := [v0]) d_D_beat_6 qm_817 qm_818 qm_8 w_D_isServer.1 (by decide) p_D_isServer
theorem s_D_beat_14 {l : Launch} {G : qh_G} {h : qh_H} {b0 : Nat} {fs rest : List Value} {v0 : Value} (hb0 : h b0 = some (.inr (8, fs))) : qx_Site l G "QuorumLogModel" c_D_beat 14 y_D_leads (.ref b0 :: [v0]) rest h := qx_siteV (As := [v0]) (E := "QuorumLogModel") (ci := 8) d_D_beat_14 qm_911 qm_913 qs_44 w_D_leads.1 (by decide) rfl p_D_leads hb0
theorem s_D_beat_24 {l : Launch} {G : qh_G} {h : qh_H} {b0 : Nat} {fs rest : List Value} {v0 : Value} (hb0 : h b0 = some (.inr (8, fs))) : qx_Site l G "QuorumLogModel" c_D_beat 24 y_D_sendAll (.ref b0 :: [v0]) rest h := qx_siteV (As := [v0]) (E := "QuorumLogModel") (ci := 8) d_D_beat_24 qm_899 qm_901 qs_42 w_D_sendAll.1 (by decide) rfl p_D_sendAll hb0
theorem s_D_put_6 {l : Launch} {G : qh_G} {h : qh_H} {rest : List Value} {v0 : Value} : qx_Site l G "QuorumLogModel" c_D_put 6 y_D_isServer [v0] rest h := qx_siteS (As := [v0]) d_D_put_6 qm_817 qm_818 qm_8 w_D_isServer.1 (by decide) p_D_isServer
theorem s_D_put_13 {l : Launch} {G : qh_G} {h : qh_H} {rest : List Value} {v0 : Value} : qx_Site l G "QuorumLogModel" c_D_put 13 y_D_isKey [v0] rest h := qx_siteS (As := [v0]) d_D_put_13 qm_919 qm_920 qm_8 w_D_isKey.1 (by decide) p_D_isKey
theorem s_D_put_21 {l : Launch} {G : qh_G} {h : qh_H} {b0 : Nat} {fs rest : List Value} {v0 : Value} (hb0 : h b0 = some (.inr (8, fs))) : qx_Site l G "QuorumLogModel" c_D_put 21 y_D_fail (.ref b0 :: [v0]) rest h := qx_siteV (As := [v0]) (E := "QuorumLogModel") (ci := 8) d_D_put_21 qm_922 qm_924 qs_45 w_D_fail.1 (by decide) rfl p_D_fail hb0
theorem s_D_put_27 {l : Launch} {G : qh_G} {h : qh_H} {b0 : Nat} {fs rest : List Value} {v0 : Value} (hb0 : h b0 = some (.inr (8, fs))) : qx_Site l G "QuorumLogModel" c_D_put 27 y_D_leads (.ref b0 :: [v0]) rest h := qx_siteV (As := [v0]) (E := "QuorumLogModel") (ci := 8) d_D_put_27 qm_911 qm_913 qs_44 w_D_leads.1 (by decide) rfl p_D_leads hb0
theorem s_D_put_35 {l : Launch} {G : qh_G} {h : qh_H} {b0 : Nat} {fs rest : List Value} {v0 : Value} (hb0 : h b0 = some (.inr (8, fs))) : qx_Site l G "QuorumLogModel" c_D_put 35 y_D_fail (.ref b0 :: [v0]) rest h := qx_siteV (As := [v0]) (E := "QuorumLogModel") (ci := 8) d_D_put_35 qm_922 qm_924 qs_45 w_D_fail.1 (by decide) rfl p_D_fail hb0
theorem s_D_put_52 {l : Launch} {G : qh_G} {h : qh_H} {b0 : Nat} {fs rest : List Value} {v0 : Value} (hb0 : h b0 = some (.inr (8, fs))) : qx_Site l G "QuorumLogModel" c_D_put 52 y_D_fail (.ref b0 :: [v0]) rest h := qx_siteV (As := [v0]) (E := "QuorumLogModel") (ci := 8) d_D_put_52 qm_922 qm_924 qs_45 w_D_fail.1 (by decide) rfl p_D_fail hb0
theorem s_D_put_61 {l : Launch} {G : qh_G} {h : qh_H} {b0 : Nat} {fs rest : List Value} {v0 v1 v2 v3 : Value} (hb0 : h b0 = some (.inr (8, fs))) : qx_Site l G "QuorumLogModel" c_D_put 61 y_D_append (.ref b0 :: [v0, v1, v2, v3]) rest h := qx_siteV (As := [v0, v1, v2, v3]) (E := "QuorumLogModel") (ci := 8) d_D_put_61 qm_879 qm_881 qs_37 w_D_append.1 (by decide) rfl p_D_append hb0
theorem s_D_change_6 {l : Launch} {G : qh_G} {h : qh_H} {rest : List Value} {v0 : Value} : qx_Site l G "QuorumLogModel" c_D_change 6 y_D_isServer [v0] rest h := qx_siteS (As := [v0]) d_D_change_6 qm_817 qm_818 qm_8 w_D_isServer.1 (by decide) p_D_isServer
theorem s_D_change_13 {l : Launch} {G : qh_G} {h : qh_H} {rest : List Value} {v0 : Value} : qx_Site l G "QuorumLogModel" c_D_change 13 y_D_isServer [v0] rest h := qx_siteS (As := [v0]) d_D_change_13 qm_817 qm_818 qm_8 w_D_isServer.1 (by decide) p_D_isServer
theorem s_D_change_21 {l : Launch} {G : qh_G} {h : qh_H} {b0 : Nat} {fs rest : List Value} {v0 : Value} (hb0 : h b0 = some (.inr (8, fs))) : qx_Site l G "QuorumLogModel" c_D_change 21 y_D_fail (.ref b0 :: [v0]) rest h := qx_siteV (As := [v0]) (E := "QuorumLogModel") (ci := 8) d_D_change_21 qm_922 qm_924 qs_45 w_D_fail.1 (by decide) rfl p_D_fail hb0
theorem s_D_change_27 {l : Launch} {G : qh_G} {h : qh_H} {b0 : Nat} {fs rest : List Value} {v0 : Value} (hb0 : h b0 = some (.inr (8, fs))) : qx_Site l G "QuorumLogModel" c_D_change 27 y_D_config (.ref b0 :: [v0]) rest h := qx_siteV (As := [v0]) (E := "QuorumLogModel") (ci := 8) d_D_change_27 qm_824 qm_826 qs_24 w_D_config.1 (by decide) rfl p_D_config hb0
theorem s_D_change_69 {l : Launch} {G : qh_G} {h : qh_H} {b0 : Nat} {fs rest : List Value} {v0 : Value} (hb0 : h b0 = some (.inr (8, fs))) : qx_Site l G "QuorumLogModel" c_D_change 69 y_D_fail (.ref b0 :: [v0]) rest h := qx_siteV (As := [v0]) (E := "QuorumLogModel") (ci := 8) d_D_change_69 qm_922 qm_924 qs_45 w_D_fail.1 (by decide) rfl p_D_fail hb0
theorem s_D_change_75 {l : Launch} {G : qh_G} {h : qh_H} {b0 : Nat} {fs rest : List Value} {v0 : Value} (hb0 : h b0 = some (.inr (8, fs))) : qx_Site l G "QuorumLogModel" c_D_change 75 y_D_leads (.ref b0 :: [v0]) rest h := qx_siteV (As := [v0]) (E := "QuorumLogModel") (ci := 8) d_D_change_75 qm_911 qm_913 qs_44 w_D_leads.1 (by decide) rfl p_D_leads hb0
theorem s_D_change_83 {l : Launch} {G : qh_G} {h : qh_H} {b0 : Nat} {fs rest : List Value} {v0 : Value} (hb0 : h b0 = some (.inr (8, fs))) : qx_Site l G "QuorumLogModel" c_D_change 83 y_D_fail (.ref b0 :: [v0]) rest h := qx_siteV (As := [v0]) (E := "QuorumLogModel") (ci := 8) d_D_change_83 qm_922 qm_924 qs_45 w_D_fail.1 (by decide) rfl p_D_fail hb0
theorem s_D_change_102 {l : Launch} {G : qh_G} {h : qh_H} {b0 : Nat} {fs rest : List Value} {v0 : Value} (hb0 : h b0 = some (.inr (8, fs))) : qx_Site l G "QuorumLogModel" c_D_change 102 y_D_last (.ref b0 :: [v0]) rest h := qx_siteV (As := [v0]) (E := "QuorumLogModel") (ci := 8) d_D_change_102 qm_828 qm_830 qs_25 w_D_last.1 (by decide) rfl p_D_last hb0
theorem s_D_change_105 {l : Launch} {G : qh_G} {h : qh_H} {b0 : Nat} {fs rest : List Value} {v0 v1 : Value} (hb0 : h b0 = some (.inr (8, fs))) : qx_Site l G "QuorumLogModel" c_D_change 105 y_D_latestMembers (.ref b0 :: [v0, v1]) rest h := qx_siteV (As := [v0, v1]) (E := "QuorumLogModel") (ci := 8) d_D_change_105 qm_836 qm_838 qs_27 w_D_latestMembers.1 (by decide) rfl p_D_latestMembers hb0
theorem s_D_change_119 {l : Launch} {G : qh_G} {h : qh_H} {b0 : Nat} {fs rest : List Value} {v0 : Value} (hb0 : h b0 = some (.inr (8, fs))) : qx_Site l G "QuorumLogModel" c_D_change 119 y_D_isOld (.ref b0 :: [v0]) rest h := qx_siteV (As := [v0]) (E := "QuorumLogModel") (ci := 8) d_D_change_119 qm_930 qm_932 qs_46 w_D_isOld.1 (by decide) rfl p_D_isOld hb0
theorem s_D_change_127 {l : Launch} {G : qh_G} {h : qh_H} {b0 : Nat} {fs rest : List Value} {v0 : Value} (hb0 : h b0 = some (.inr (8, fs))) : qx_Site l G "QuorumLogModel" c_D_change 127 y_D_fail (.ref b0 :: [v0]) rest h := qx_siteV (As := [v0]) (E := "QuorumLogModel") (ci := 8) d_D_change_127 qm_922 qm_924 qs_45 w_D_fail.1 (by decide) rfl p_D_fail hb0
theorem s_D_change_141 {l : Launch} {G : qh_G} {h : qh_H} {b0 : Nat} {fs rest : List Value} {v0 v1 v2 v3 : Value} (hb0 : h b0 = some (.inr (8, fs))) : qx_Site l G "QuorumLogModel" c_D_change 141 y_D_append (.ref b0 :: [v0, v1, v2, v3]) rest h := qx_siteV (As := [v0, v1, v2, v3]) (E := "QuorumLogModel") (ci := 8) d_D_change_141 qm_879 qm_881 qs_37 w_D_append.1 (by decide) rfl p_D_append hb0
theorem s_D_isOld_8 {l : Launch} {G : qh_G} {h : qh_H} {b0 : Nat} {fs rest : List Value} {v0 v1 : Value} (hb0 : h b0 = some (.inr (8, fs))) : qx_Site l G "QuorumLogModel" c_D_isOld 8 y_D_termAt (.ref b0 :: [v0, v1]) rest h := qx_siteV (As := [v0, v1]) (E := "QuorumLogModel") (ci := 8) d_D_isOld_8 qm_856 qm_858 qs_32 w_D_termAt.1 (by decide) rfl p_D_termAt hb0
theorem s_D_read_6 {l : Launch} {G : qh_G} {h : qh_H} {rest : List Value} {v0 : Value} : qx_Site l G "QuorumLogModel" c_D_read 6 y_D_isServer [v0] rest h := qx_siteS (As := [v0]) d_D_read_6 qm_817 qm_818 qm_8 w_D_isServer.1 (by decide) p_D_isServer
theorem s_D_read_13 {l : Launch} {G : qh_G} {h : qh_H} {rest : List Value} {v0 : Value} : qx_Site l G "QuorumLogModel" c_D_read 13 y_D_isKey [v0] rest h := qx_siteS (As := [v0]) d_D_read_13 qm_919 qm_920 qm_8 w_D_isKey.1 (by decide) p_D_isKey
theorem s_D_read_21 {l : Launch} {G : qh_G} {h : qh_H} {b0 : Nat} {fs rest : List Value} {v0 : Value} (hb0 : h b0 = some (.inr (8, fs))) : qx_Site l G "QuorumLogModel" c_D_read 21 y_D_fail (.ref b0 :: [v0]) rest h := qx_siteV (As := [v0]) (E := "QuorumLogModel") (ci := 8) d_D_read_21 qm_922 qm_924 qs_45 w_D_fail.1 (by decide) rfl p_D_fail hb0
theorem s_D_read_27 {l : Launch} {G : qh_G} {h : qh_H} {b0 : Nat} {fs rest : List Value} {v0 : Value} (hb0 : h b0 = some (.inr (8, fs))) : qx_Site l G "QuorumLogModel" c_D_read 27 y_D_leads (.ref b0 :: [v0]) rest h := qx_siteV (As := [v0]) (E := "QuorumLogModel") (ci := 8) d_D_read_27 qm_911 qm_913 qs_44 w_D_leads.1 (by decide) rfl p_D_leads hb0
theorem s_D_read_35 {l : Launch} {G : qh_G} {h : qh_H} {b0 : Nat} {fs rest : List Value} {v0 : Value} (hb0 : h b0 = some (.inr (8, fs))) : qx_Site l G "QuorumLogModel" c_D_read 35 y_D_fail (.ref b0 :: [v0]) rest h := qx_siteV (As := [v0]) (E := "QuorumLogModel") (ci := 8) d_D_read_35 qm_922 qm_924 qs_45 w_D_fail.1 (by decide) rfl p_D_fail hb0
theorem s_D_read_104 {l : Launch} {G : qh_G} {h : qh_H} {b0 : Nat} {fs rest : List Value} {v0 : Value} (hb0 : h b0 = some (.inr (8, fs))) : qx_Site l G "QuorumLogModel" c_D_read 104 y_D_isOld (.ref b0 :: [v0]) rest h := qx_siteV (As := [v0]) (E := "QuorumLogModel") (ci := 8) d_D_read_104 qm_930 qm_932 qs_46 w_D_isOld.1 (by decide) rfl p_D_isOld hb0
theorem s_D_read_112 {l : Launch} {G : qh_G} {h : qh_H} {b0 : Nat} {fs rest : List Value} {v0 : Value} (hb0 : h b0 = some (.inr (8, fs))) : qx_Site l G "QuorumLogModel" c_D_read 112 y_D_fail (.ref b0 :: [v0]) rest h := qx_siteV (As := [v0]) (E := "QuorumLogModel") (ci := 8) d_D_read_112 qm_922 qm_924 qs_45 w_D_fail.1 (by decide) rfl p_D_fail hb0
theorem fl_D_74 : qx_FL "QuorumLogModel" 74 8 23 := ⟨"QuorumLogModel", T_D, 30, rfl, by decide, uw_D, qm_740⟩
theorem fl_D_77 : qx_FL "QuorumLogModel" 77 8 24 := ⟨"QuorumLogModel", T_D, 30, rfl, by decide, uw_D, qm_741⟩
theorem fp_D_136 : qx_FP "QuorumLogModel" 136 8 21 (.int) false := ⟨"QuorumLogModel", T_D, 30, t_D, rfl, by decide, uw_D, qm_738, k_D, n_D, by decide +kernel, rfl, fun _ => by contradiction⟩
theorem s_D_read_173 {l : Launch} {G : qh_G} {h : qh_H} {b0 : Nat} {fs rest : List Value} {v0 : Value} (hb0 : h b0 = some (.inr (8, fs))) : qx_Site l G "QuorumLogModel" c_D_read 173 y_D_sendAll (.ref b0 :: [v0]) rest h := qx_siteV (As := [v0]) (E := "QuorumLogModel") (ci := 8) d_D_read_173 qm_899 qm_901 qs_42 w_D_sendAll.1 (by decide) rfl p_D_sendAll hb0
theorem s_D_read_178 {l : Launch} {G : qh_G} {h : qh_H} {b0 : Nat} {fs rest : List Value} {v0 : Value} (hb0 : h b0 = some (.inr (8, fs))) : qx_Site l G "QuorumLogModel" c_D_read 178 y_D_lookAtReads (.ref b0 :: [v0]) rest h := qx_siteV (As := [v0]) (E := "QuorumLogModel") (ci := 8) d_D_read_178 qm_938 qm_940 qs_47 w_D_lookAtReads.1 (by decide) rfl p_D_lookAtReads hb0
theorem s_D_lookAtReads_85 {l : Launch} {G : qh_G} {h : qh_H} {b0 : Nat} {fs rest : List Value} {v0 v1 : Value} (hb0 : h b0 = some (.inr (8, fs))) : qx_Site l G "QuorumLogModel" c_D_lookAtReads 85 y_D_most (.ref b0 :: [v0, v1]) rest h := qx_siteV (As := [v0, v1]) (E := "QuorumLogModel") (ci := 8) d_D_lookAtReads_85 qm_868 qm_870 qs_35 w_D_most.1 (by decide) rfl p_D_most hb0
theorem fl_D_83 : qx_FL "QuorumLogModel" 83 8 26 := ⟨"QuorumLogModel", T_D, 30, rfl, by decide, uw_D, qm_743⟩
theorem s_D_lookAtReads_120 {l : Launch} {G : qh_G} {h : qh_H} {b0 : Nat} {fs rest : List Value} {v0 v1 v2 : Value} (hb0 : h b0 = some (.inr (8, fs))) : qx_Site l G "QuorumLogModel" c_D_lookAtReads 120 y_D_valueAt (.ref b0 :: [v0, v1, v2]) rest h := qx_siteV (As := [v0, v1, v2]) (E := "QuorumLogModel") (ci := 8) d_D_lookAtReads_120 qm_942 qm_944 qs_48 w_D_valueAt.1 (by decide) rfl p_D_valueAt hb0
theorem s_D_valueAt_32 {l : Launch} {G : qh_G} {h : qh_H} {b0 : Nat} {fs rest : List Value} {v0 v1 : Value} (hb0 : h b0 = some (.inr (8, fs))) : qx_Site l G "QuorumLogModel" c_D_valueAt 32 y_D_cell (.ref b0 :: [v0, v1]) rest h := qx_siteV (As := [v0, v1]) (E := "QuorumLogModel") (ci := 8) d_D_valueAt_32 qm_840 qm_842 qs_28 w_D_cell.1 (by decide) rfl p_D_cell hb0
theorem s_D_compact_6 {l : Launch} {G : qh_G} {h : qh_H} {rest : List Value} {v0 : Value} : qx_Site l G "QuorumLogModel" c_D_compact 6 y_D_isServer [v0] rest h := qx_siteS (As := [v0]) d_D_compact_6 qm_817 qm_818 qm_8 w_D_isServer.1 (by decide) p_D_isServer
theorem s_D_compact_48 {l : Launch} {G : qh_G} {h : qh_H} {b0 : Nat} {fs rest : List Value} {v0 v1 : Value} (hb0 : h b0 = some (.inr (8, fs))) : qx_Site l G "QuorumLogModel" c_D_compact 48 y_D_termAt (.ref b0 :: [v0, v1]) rest h := qx_siteV (As := [v0, v1]) (E := "QuorumLogModel") (ci := 8) d_D_compact_48 qm_856 qm_858 qs_32 w_D_termAt.1 (by decide) rfl p_D_termAt hb0
theorem s_D_compact_55 {l : Launch} {G : qh_G} {h : qh_H} {b0 : Nat} {fs rest : List Value} {v0 v1 : Value} (hb0 : h b0 = some (.inr (8, fs))) : qx_Site l G "QuorumLogModel" c_D_compact 55 y_D_membersAt (.ref b0 :: [v0, v1]) rest h := qx_siteV (As := [v0, v1]) (E := "QuorumLogModel") (ci := 8) d_D_compact_55 qm_832 qm_834 qs_26 w_D_membersAt.1 (by decide) rfl p_D_membersAt hb0
theorem s_D_compact_74 {l : Launch} {G : qh_G} {h : qh_H} {b0 : Nat} {fs rest : List Value} {v0 v1 v2 : Value} (hb0 : h b0 = some (.inr (8, fs))) : qx_Site l G "QuorumLogModel" c_D_compact 74 y_D_valueAt (.ref b0 :: [v0, v1, v2]) rest h := qx_siteV (As := [v0, v1, v2]) (E := "QuorumLogModel") (ci := 8) d_D_compact_74 qm_942 qm_944 qs_48 w_D_valueAt.1 (by decide) rfl p_D_valueAt hb0
theorem s_D_compact_101 {l : Launch} {G : qh_G} {h : qh_H} {b0 : Nat} {fs rest : List Value} {v0 v1 : Value} (hb0 : h b0 = some (.inr (8, fs))) : qx_Site l G "QuorumLogModel" c_D_compact 101 y_D_shift (.ref b0 :: [v0, v1]) rest h := qx_siteV (As := [v0, v1]) (E := "QuorumLogModel") (ci := 8) d_D_compact_101 qm_958 qm_960 qs_49 w_D_shift.1 (by decide) rfl p_D_shift hb0
theorem s_D_crash_6 {l : Launch} {G : qh_G} {h : qh_H} {rest : List Value} {v0 : Value} : qx_Site l G "QuorumLogModel" c_D_crash 6 y_D_isServer [v0] rest h := qx_siteS (As := [v0]) d_D_crash_6 qm_817 qm_818 qm_8 w_D_isServer.1 (by decide) p_D_isServer
theorem s_D_crash_32 {l : Launch} {G : qh_G} {h : qh_H} {b0 : Nat} {fs rest : List Value} {v0 : Value} (hb0 : h b0 = some (.inr (8, fs))) : qx_Site l G "QuorumLogModel" c_D_crash 32 y_D_follow (.ref b0 :: [v0]) rest h := qx_siteV (As := [v0]) (E := "QuorumLogModel") (ci := 8) d_D_crash_32 qm_895 qm_897 qs_41 w_D_follow.1 (by decide) rfl p_D_follow hb0
theorem s_D_restart_6 {l : Launch} {G : qh_G} {h : qh_H} {rest : List Value} {v0 : Value} : qx_Site l G "QuorumLogModel" c_D_restart 6 y_D_isServer [v0] rest h := qx_siteS (As := [v0]) d_D_restart_6 qm_817 qm_818 qm_8 w_D_isServer.1 (by decide) p_D_isServer
theorem s_D_deliver_52 {l : Launch} {G : qh_G} {h : qh_H} {b0 : Nat} {fs rest : List Value} {v0 : Value} (hb0 : h b0 = some (.inr (8, fs))) : qx_Site l G "QuorumLogModel" c_D_deliver 52 y_D_takeOut (.ref b0 :: [v0]) rest h := qx_siteV (As := [v0]) (E := "QuorumLogModel") (ci := 8) d_D_deliver_52 qm_974 qm_976 qs_50 w_D_takeOut.1 (by decide) rfl p_D_takeOut hb0
theorem s_D_deliver_108 {l : Launch} {G : qh_G} {h : qh_H} {b0 : Nat} {fs rest : List Value} {v0 v1 : Value} (hb0 : h b0 = some (.inr (8, fs))) : qx_Site l G "QuorumLogModel" c_D_deliver 108 y_D_newTerm (.ref b0 :: [v0, v1]) rest h := qx_siteV (As := [v0, v1]) (E := "QuorumLogModel") (ci := 8) d_D_deliver_108 qm_978 qm_980 qs_51 w_D_newTerm.1 (by decide) rfl p_D_newTerm hb0
theorem s_D_deliver_166 {l : Launch} {G : qh_G} {h : qh_H} {b0 : Nat} {fs rest : List Value} {v0 v1 v2 : Value} (hb0 : h b0 = some (.inr (8, fs))) : qx_Site l G "QuorumLogModel" c_D_deliver 166 y_D_question (.ref b0 :: [v0, v1, v2]) rest h := qx_siteV (As := [v0, v1, v2]) (E := "QuorumLogModel") (ci := 8) d_D_deliver_166 qm_982 qm_984 qs_52 w_D_question.1 (by decide) rfl p_D_question hb0
theorem s_D_deliver_186 {l : Launch} {G : qh_G} {h : qh_H} {b0 : Nat} {fs rest : List Value} {v0 v1 v2 : Value} (hb0 : h b0 = some (.inr (8, fs))) : qx_Site l G "QuorumLogModel" c_D_deliver 186 y_D_answered (.ref b0 :: [v0, v1, v2]) rest h := qx_siteV (As := [v0, v1, v2]) (E := "QuorumLogModel") (ci := 8) d_D_deliver_186 qm_994 qm_996 qs_55 w_D_answered.1 (by decide) rfl p_D_answered hb0
theorem s_D_deliver_206 {l : Launch} {G : qh_G} {h : qh_H} {b0 : Nat} {fs rest : List Value} {v0 v1 v2 : Value} (hb0 : h b0 = some (.inr (8, fs))) : qx_Site l G "QuorumLogModel" c_D_deliver 206 y_D_called (.ref b0 :: [v0, v1, v2]) rest h := qx_siteV (As := [v0, v1, v2]) (E := "QuorumLogModel") (ci := 8) d_D_deliver_206 qm_998 qm_1000 qs_56 w_D_called.1 (by decide) rfl p_D_called hb0
theorem s_D_deliver_226 {l : Launch} {G : qh_G} {h : qh_H} {b0 : Nat} {fs rest : List Value} {v0 v1 v2 : Value} (hb0 : h b0 = some (.inr (8, fs))) : qx_Site l G "QuorumLogModel" c_D_deliver 226 y_D_voted (.ref b0 :: [v0, v1, v2]) rest h := qx_siteV (As := [v0, v1, v2]) (E := "QuorumLogModel") (ci := 8) d_D_deliver_226 qm_1002 qm_1004 qs_57 w_D_voted.1 (by decide) rfl p_D_voted hb0
theorem s_D_deliver_240 {l : Launch} {G : qh_G} {h : qh_H} {b0 : Nat} {fs rest : List Value} {v0 v1 : Value} (hb0 : h b0 = some (.inr (8, fs))) : qx_Site l G "QuorumLogModel" c_D_deliver 240 y_D_appended (.ref b0 :: [v0, v1]) rest h := qx_siteV (As := [v0, v1]) (E := "QuorumLogModel") (ci := 8) d_D_deliver_240 qm_1006 qm_1008 qs_58 w_D_appended.1 (by decide) rfl p_D_appended hb0
theorem s_D_deliver_254 {l : Launch} {G : qh_G} {h : qh_H} {b0 : Nat} {fs rest : List Value} {v0 v1 : Value} (hb0 : h b0 = some (.inr (8, fs))) : qx_Site l G "QuorumLogModel" c_D_deliver 254 y_D_resulted (.ref b0 :: [v0, v1]) rest h := qx_siteV (As := [v0, v1]) (E := "QuorumLogModel") (ci := 8) d_D_deliver_254 qm_1018 qm_1020 qs_61 w_D_resulted.1 (by decide) rfl p_D_resulted hb0
theorem s_D_deliver_268 {l : Launch} {G : qh_G} {h : qh_H} {b0 : Nat} {fs rest : List Value} {v0 v1 : Value} (hb0 : h b0 = some (.inr (8, fs))) : qx_Site l G "QuorumLogModel" c_D_deliver 268 y_D_installed (.ref b0 :: [v0, v1]) rest h := qx_siteV (As := [v0, v1]) (E := "QuorumLogModel") (ci := 8) d_D_deliver_268 qm_1022 qm_1024 qs_62 w_D_installed.1 (by decide) rfl p_D_installed hb0
theorem s_D_newTerm_16 {l : Launch} {G : qh_G} {h : qh_H} {b0 : Nat} {fs rest : List Value} {v0 : Value} (hb0 : h b0 = some (.inr (8, fs))) : qx_Site l G "QuorumLogModel" c_D_newTerm 16 y_D_follow (.ref b0 :: [v0]) rest h := qx_siteV (As := [v0]) (E := "QuorumLogModel") (ci := 8) d_D_newTerm_16 qm_895 qm_897 qs_41 w_D_follow.1 (by decide) rfl p_D_follow hb0
theorem s_D_question_33 {l : Launch} {G : qh_G} {h : qh_H} {b0 : Nat} {fs rest : List Value} {v0 v1 v2 : Value} (hb0 : h b0 = some (.inr (8, fs))) : qx_Site l G "QuorumLogModel" c_D_question 33 y_D_liesBefore (.ref b0 :: [v0, v1, v2]) rest h := qx_siteV (As := [v0, v1, v2]) (E := "QuorumLogModel") (ci := 8) d_D_question_33 qm_986 qm_988 qs_53 w_D_liesBefore.1 (by decide) rfl p_D_liesBefore hb0
theorem s_D_question_67 {l : Launch} {G : qh_G} {h : qh_H} {b0 : Nat} {fs rest : List Value} {v0 v1 v2 v3 v4 : Value} (hb0 : h b0 = some (.inr (8, fs))) : qx_Site l G "QuorumLogModel" c_D_question 67 y_D_reply (.ref b0 :: [v0, v1, v2, v3, v4]) rest h := qx_siteV (As := [v0, v1, v2, v3, v4]) (E := "QuorumLogModel") (ci := 8) d_D_question_67 qm_990 qm_992 qs_54 w_D_reply.1 (by decide) rfl p_D_reply hb0
theorem s_D_liesBefore_3 {l : Launch} {G : qh_G} {h : qh_H} {b0 : Nat} {fs rest : List Value} {v0 : Value} (hb0 : h b0 = some (.inr (8, fs))) : qx_Site l G "QuorumLogModel" c_D_liesBefore 3 y_D_lastTerm (.ref b0 :: [v0]) rest h := qx_siteV (As := [v0]) (E := "QuorumLogModel") (ci := 8) d_D_liesBefore_3 qm_852 qm_854 qs_31 w_D_lastTerm.1 (by decide) rfl p_D_lastTerm hb0
theorem s_D_liesBefore_12 {l : Launch} {G : qh_G} {h : qh_H} {b0 : Nat} {fs rest : List Value} {v0 : Value} (hb0 : h b0 = some (.inr (8, fs))) : qx_Site l G "QuorumLogModel" c_D_liesBefore 12 y_D_lastTerm (.ref b0 :: [v0]) rest h := qx_siteV (As := [v0]) (E := "QuorumLogModel") (ci := 8) d_D_liesBefore_12 qm_852 qm_854 qs_31 w_D_lastTerm.1 (by decide) rfl p_D_lastTerm hb0
theorem s_D_liesBefore_21 {l : Launch} {G : qh_G} {h : qh_H} {b0 : Nat} {fs rest : List Value} {v0 : Value} (hb0 : h b0 = some (.inr (8, fs))) : qx_Site l G "QuorumLogModel" c_D_liesBefore 21 y_D_last (.ref b0 :: [v0]) rest h := qx_siteV (As := [v0]) (E := "QuorumLogModel") (ci := 8) d_D_liesBefore_21 qm_828 qm_830 qs_25 w_D_last.1 (by decide) rfl p_D_last hb0
theorem s_D_reply_6 {l : Launch} {G : qh_G} {h : qh_H} {b0 : Nat} {fs rest : List Value} {v0 v1 v2 v3 : Value} (hb0 : h b0 = some (.inr (8, fs))) : qx_Site l G "QuorumLogModel" c_D_reply 6 y_D_begin (.ref b0 :: [v0, v1, v2, v3]) rest h := qx_siteV (As := [v0, v1, v2, v3]) (E := "QuorumLogModel") (ci := 8) d_D_reply_6 qm_848 qm_850 qs_30 w_D_begin.1 (by decide) rfl p_D_begin hb0
theorem s_D_reply_27 {l : Launch} {G : qh_G} {h : qh_H} {b0 : Nat} {fs rest : List Value} (hb0 : h b0 = some (.inr (8, fs))) : qx_Site l G "QuorumLogModel" c_D_reply 27 y_D_post (.ref b0 :: []) rest h := qx_siteV (As := []) (E := "QuorumLogModel") (ci := 8) d_D_reply_27 qm_860 qm_862 qs_33 w_D_post.1 (by decide) rfl p_D_post hb0
theorem s_D_answered_48 {l : Launch} {G : qh_G} {h : qh_H} {b0 : Nat} {fs rest : List Value} {v0 : Value} (hb0 : h b0 = some (.inr (8, fs))) : qx_Site l G "QuorumLogModel" c_D_answered 48 y_D_weigh (.ref b0 :: [v0]) rest h := qx_siteV (As := [v0]) (E := "QuorumLogModel") (ci := 8) d_D_answered_48 qm_864 qm_866 qs_34 w_D_weigh.1 (by decide) rfl p_D_weigh hb0
theorem s_D_answered_67 {l : Launch} {G : qh_G} {h : qh_H} {b0 : Nat} {fs rest : List Value} {v0 v1 : Value} (hb0 : h b0 = some (.inr (8, fs))) : qx_Site l G "QuorumLogModel" c_D_answered 67 y_D_newTerm (.ref b0 :: [v0, v1]) rest h := qx_siteV (As := [v0, v1]) (E := "QuorumLogModel") (ci := 8) d_D_answered_67 qm_978 qm_980 qs_51 w_D_newTerm.1 (by decide) rfl p_D_newTerm hb0
theorem s_D_called_44 {l : Launch} {G : qh_G} {h : qh_H} {b0 : Nat} {fs rest : List Value} {v0 v1 v2 : Value} (hb0 : h b0 = some (.inr (8, fs))) : qx_Site l G "QuorumLogModel" c_D_called 44 y_D_liesBefore (.ref b0 :: [v0, v1, v2]) rest h := qx_siteV (As := [v0, v1, v2]) (E := "QuorumLogModel") (ci := 8) d_D_called_44 qm_986 qm_988 qs_53 w_D_liesBefore.1 (by decide) rfl p_D_liesBefore hb0
theorem s_D_called_81 {l : Launch} {G : qh_G} {h : qh_H} {b0 : Nat} {fs rest : List Value} {v0 v1 v2 v3 v4 : Value} (hb0 : h b0 = some (.inr (8, fs))) : qx_Site l G "QuorumLogModel" c_D_called 81 y_D_reply (.ref b0 :: [v0, v1, v2, v3, v4]) rest h := qx_siteV (As := [v0, v1, v2, v3, v4]) (E := "QuorumLogModel") (ci := 8) d_D_called_81 qm_990 qm_992 qs_54 w_D_reply.1 (by decide) rfl p_D_reply hb0
theorem s_D_voted_45 {l : Launch} {G : qh_G} {h : qh_H} {b0 : Nat} {fs rest : List Value} {v0 : Value} (hb0 : h b0 = some (.inr (8, fs))) : qx_Site l G "QuorumLogModel" c_D_voted 45 y_D_weigh (.ref b0 :: [v0]) rest h := qx_siteV (As := [v0]) (E := "QuorumLogModel") (ci := 8) d_D_voted_45 qm_864 qm_866 qs_34 w_D_weigh.1 (by decide) rfl p_D_weigh hb0
theorem s_D_appended_37 {l : Launch} {G : qh_G} {h : qh_H} {b0 : Nat} {fs rest : List Value} {v0 v1 v2 v3 v4 : Value} (hb0 : h b0 = some (.inr (8, fs))) : qx_Site l G "QuorumLogModel" c_D_appended 37 y_D_result (.ref b0 :: [v0, v1, v2, v3, v4]) rest h := qx_siteV (As := [v0, v1, v2, v3, v4]) (E := "QuorumLogModel") (ci := 8) d_D_appended_37 qm_1010 qm_1012 qs_59 w_D_result.1 (by decide) rfl p_D_result hb0
theorem s_D_appended_43 {l : Launch} {G : qh_G} {h : qh_H} {b0 : Nat} {fs rest : List Value} {v0 : Value} (hb0 : h b0 = some (.inr (8, fs))) : qx_Site l G "QuorumLogModel" c_D_appended 43 y_D_follow (.ref b0 :: [v0]) rest h := qx_siteV (As := [v0]) (E := "QuorumLogModel") (ci := 8) d_D_appended_43 qm_895 qm_897 qs_41 w_D_follow.1 (by decide) rfl p_D_follow hb0
theorem s_D_appended_56 {l : Launch} {G : qh_G} {h : qh_H} {b0 : Nat} {fs rest : List Value} {v0 : Value} (hb0 : h b0 = some (.inr (8, fs))) : qx_Site l G "QuorumLogModel" c_D_appended 56 y_D_last (.ref b0 :: [v0]) rest h := qx_siteV (As := [v0]) (E := "QuorumLogModel") (ci := 8) d_D_appended_56 qm_828 qm_830 qs_25 w_D_last.1 (by decide) rfl p_D_last hb0
theorem s_D_appended_75 {l : Launch} {G : qh_G} {h : qh_H} {b0 : Nat} {fs rest : List Value} {v0 v1 : Value} (hb0 : h b0 = some (.inr (8, fs))) : qx_Site l G "QuorumLogModel" c_D_appended 75 y_D_termAt (.ref b0 :: [v0, v1]) rest h := qx_siteV (As := [v0, v1]) (E := "QuorumLogModel") (ci := 8) d_D_appended_75 qm_856 qm_858 qs_32 w_D_termAt.1 (by decide) rfl p_D_termAt hb0
theorem s_D_appended_89 {l : Launch} {G : qh_G} {h : qh_H} {b0 : Nat} {fs rest : List Value} {v0 : Value} (hb0 : h b0 = some (.inr (8, fs))) : qx_Site l G "QuorumLogModel" c_D_appended 89 y_D_last (.ref b0 :: [v0]) rest h := qx_siteV (As := [v0]) (E := "QuorumLogModel") (ci := 8) d_D_appended_89 qm_828 qm_830 qs_25 w_D_last.1 (by decide) rfl p_D_last hb0
theorem s_D_appended_100 {l : Launch} {G : qh_G} {h : qh_H} {b0 : Nat} {fs rest : List Value} {v0 : Value} (hb0 : h b0 = some (.inr (8, fs))) : qx_Site l G "QuorumLogModel" c_D_appended 100 y_D_last (.ref b0 :: [v0]) rest h := qx_siteV (As := [v0]) (E := "QuorumLogModel") (ci := 8) d_D_appended_100 qm_828 qm_830 qs_25 w_D_last.1 (by decide) rfl p_D_last hb0
theorem s_D_appended_128 {l : Launch} {G : qh_G} {h : qh_H} {b0 : Nat} {fs rest : List Value} {v0 v1 v2 v3 v4 : Value} (hb0 : h b0 = some (.inr (8, fs))) : qx_Site l G "QuorumLogModel" c_D_appended 128 y_D_result (.ref b0 :: [v0, v1, v2, v3, v4]) rest h := qx_siteV (As := [v0, v1, v2, v3, v4]) (E := "QuorumLogModel") (ci := 8) d_D_appended_128 qm_1010 qm_1012 qs_59 w_D_result.1 (by decide) rfl p_D_result hb0
theorem s_D_appended_163 {l : Launch} {G : qh_G} {h : qh_H} {b0 : Nat} {fs rest : List Value} {v0 v1 v2 : Value} (hb0 : h b0 = some (.inr (8, fs))) : qx_Site l G "QuorumLogModel" c_D_appended 163 y_D_takeEntry (.ref b0 :: [v0, v1, v2]) rest h := qx_siteV (As := [v0, v1, v2]) (E := "QuorumLogModel") (ci := 8) d_D_appended_163 qm_1014 qm_1016 qs_60 w_D_takeEntry.1 (by decide) rfl p_D_takeEntry hb0
theorem s_D_appended_243 {l : Launch} {G : qh_G} {h : qh_H} {b0 : Nat} {fs rest : List Value} {v0 v1 v2 v3 v4 : Value} (hb0 : h b0 = some (.inr (8, fs))) : qx_Site l G "QuorumLogModel" c_D_appended 243 y_D_result (.ref b0 :: [v0, v1, v2, v3, v4]) rest h := qx_siteV (As := [v0, v1, v2, v3, v4]) (E := "QuorumLogModel") (ci := 8) d_D_appended_243 qm_1010 qm_1012 qs_59 w_D_result.1 (by decide) rfl p_D_result hb0
theorem s_D_result_10 {l : Launch} {G : qh_G} {h : qh_H} {b0 : Nat} {fs rest : List Value} {v0 v1 v2 v3 : Value} (hb0 : h b0 = some (.inr (8, fs))) : qx_Site l G "QuorumLogModel" c_D_result 10 y_D_begin (.ref b0 :: [v0, v1, v2, v3]) rest h := qx_siteV (As := [v0, v1, v2, v3]) (E := "QuorumLogModel") (ci := 8) d_D_result_10 qm_848 qm_850 qs_30 w_D_begin.1 (by decide) rfl p_D_begin hb0
theorem s_D_result_47 {l : Launch} {G : qh_G} {h : qh_H} {b0 : Nat} {fs rest : List Value} (hb0 : h b0 = some (.inr (8, fs))) : qx_Site l G "QuorumLogModel" c_D_result 47 y_D_post (.ref b0 :: []) rest h := qx_siteV (As := []) (E := "QuorumLogModel") (ci := 8) d_D_result_47 qm_860 qm_862 qs_33 w_D_post.1 (by decide) rfl p_D_post hb0
theorem s_D_takeEntry_15 {l : Launch} {G : qh_G} {h : qh_H} {b0 : Nat} {fs rest : List Value} {v0 : Value} (hb0 : h b0 = some (.inr (8, fs))) : qx_Site l G "QuorumLogModel" c_D_takeEntry 15 y_D_last (.ref b0 :: [v0]) rest h := qx_siteV (As := [v0]) (E := "QuorumLogModel") (ci := 8) d_D_takeEntry_15 qm_828 qm_830 qs_25 w_D_last.1 (by decide) rfl p_D_last hb0
theorem s_D_takeEntry_24 {l : Launch} {G : qh_G} {h : qh_H} {b0 : Nat} {fs rest : List Value} {v0 v1 : Value} (hb0 : h b0 = some (.inr (8, fs))) : qx_Site l G "QuorumLogModel" c_D_takeEntry 24 y_D_termAt (.ref b0 :: [v0, v1]) rest h := qx_siteV (As := [v0, v1]) (E := "QuorumLogModel") (ci := 8) d_D_takeEntry_24 qm_856 qm_858 qs_32 w_D_termAt.1 (by decide) rfl p_D_termAt hb0
theorem s_D_takeEntry_41 {l : Launch} {G : qh_G} {h : qh_H} {b0 : Nat} {fs rest : List Value} {v0 : Value} (hb0 : h b0 = some (.inr (8, fs))) : qx_Site l G "QuorumLogModel" c_D_takeEntry 41 y_D_last (.ref b0 :: [v0]) rest h := qx_siteV (As := [v0]) (E := "QuorumLogModel") (ci := 8) d_D_takeEntry_41 qm_828 qm_830 qs_25 w_D_last.1 (by decide) rfl p_D_last hb0
theorem s_D_takeEntry_108 {l : Launch} {G : qh_G} {h : qh_H} {b0 : Nat} {fs rest : List Value} {v0 v1 v2 v3 v4 : Value} (hb0 : h b0 = some (.inr (8, fs))) : qx_Site l G "QuorumLogModel" c_D_takeEntry 108 y_D_push (.ref b0 :: [v0, v1, v2, v3, v4]) rest h := qx_siteV (As := [v0, v1, v2, v3, v4]) (E := "QuorumLogModel") (ci := 8) d_D_takeEntry_108 qm_883 qm_885 qs_38 w_D_push.1 (by decide) rfl p_D_push hb0
theorem s_D_resulted_80 {l : Launch} {G : qh_G} {h : qh_H} {b0 : Nat} {fs rest : List Value} {v0 : Value} (hb0 : h b0 = some (.inr (8, fs))) : qx_Site l G "QuorumLogModel" c_D_resulted 80 y_D_config (.ref b0 :: [v0]) rest h := qx_siteV (As := [v0]) (E := "QuorumLogModel") (ci := 8) d_D_resulted_80 qm_824 qm_826 qs_24 w_D_config.1 (by decide) rfl p_D_config hb0
theorem s_D_resulted_153 {l : Launch} {G : qh_G} {h : qh_H} {b0 : Nat} {fs rest : List Value} {v0 : Value} (hb0 : h b0 = some (.inr (8, fs))) : qx_Site l G "QuorumLogModel" c_D_resulted 153 y_D_lookAtCommit (.ref b0 :: [v0]) rest h := qx_siteV (As := [v0]) (E := "QuorumLogModel") (ci := 8) d_D_resulted_153 qm_887 qm_889 qs_39 w_D_lookAtCommit.1 (by decide) rfl p_D_lookAtCommit hb0
theorem s_D_resulted_174 {l : Launch} {G : qh_G} {h : qh_H} {b0 : Nat} {fs rest : List Value} {v0 : Value} (hb0 : h b0 = some (.inr (8, fs))) : qx_Site l G "QuorumLogModel" c_D_resulted 174 y_D_last (.ref b0 :: [v0]) rest h := qx_siteV (As := [v0]) (E := "QuorumLogModel") (ci := 8) d_D_resulted_174 qm_828 qm_830 qs_25 w_D_last.1 (by decide) rfl p_D_last hb0
theorem s_D_resulted_188 {l : Launch} {G : qh_G} {h : qh_H} {b0 : Nat} {fs rest : List Value} {v0 v1 : Value} (hb0 : h b0 = some (.inr (8, fs))) : qx_Site l G "QuorumLogModel" c_D_resulted 188 y_D_sendTo (.ref b0 :: [v0, v1]) rest h := qx_siteV (As := [v0, v1]) (E := "QuorumLogModel") (ci := 8) d_D_resulted_188 qm_903 qm_905 qs_43 w_D_sendTo.1 (by decide) rfl p_D_sendTo hb0
theorem s_D_resulted_252 {l : Launch} {G : qh_G} {h : qh_H} {b0 : Nat} {fs rest : List Value} {v0 v1 : Value} (hb0 : h b0 = some (.inr (8, fs))) : qx_Site l G "QuorumLogModel" c_D_resulted 252 y_D_sendTo (.ref b0 :: [v0, v1]) rest h := qx_siteV (As := [v0, v1]) (E := "QuorumLogModel") (ci := 8) d_D_resulted_252 qm_903 qm_905 qs_43 w_D_sendTo.1 (by decide) rfl p_D_sendTo hb0
theorem s_D_resulted_267 {l : Launch} {G : qh_G} {h : qh_H} {b0 : Nat} {fs rest : List Value} {v0 : Value} (hb0 : h b0 = some (.inr (8, fs))) : qx_Site l G "QuorumLogModel" c_D_resulted 267 y_D_lookAtReads (.ref b0 :: [v0]) rest h := qx_siteV (As := [v0]) (E := "QuorumLogModel") (ci := 8) d_D_resulted_267 qm_938 qm_940 qs_47 w_D_lookAtReads.1 (by decide) rfl p_D_lookAtReads hb0
theorem s_D_installed_21 {l : Launch} {G : qh_G} {h : qh_H} {b0 : Nat} {fs rest : List Value} {v0 v1 v2 v3 v4 : Value} (hb0 : h b0 = some (.inr (8, fs))) : qx_Site l G "QuorumLogModel" c_D_installed 21 y_D_result (.ref b0 :: [v0, v1, v2, v3, v4]) rest h := qx_siteV (As := [v0, v1, v2, v3, v4]) (E := "QuorumLogModel") (ci := 8) d_D_installed_21 qm_1010 qm_1012 qs_59 w_D_result.1 (by decide) rfl p_D_result hb0
theorem s_D_installed_27 {l : Launch} {G : qh_G} {h : qh_H} {b0 : Nat} {fs rest : List Value} {v0 : Value} (hb0 : h b0 = some (.inr (8, fs))) : qx_Site l G "QuorumLogModel" c_D_installed 27 y_D_follow (.ref b0 :: [v0]) rest h := qx_siteV (As := [v0]) (E := "QuorumLogModel") (ci := 8) d_D_installed_27 qm_895 qm_897 qs_41 w_D_follow.1 (by decide) rfl p_D_follow hb0
theorem s_D_installed_57 {l : Launch} {G : qh_G} {h : qh_H} {b0 : Nat} {fs rest : List Value} {v0 v1 : Value} (hb0 : h b0 = some (.inr (8, fs))) : qx_Site l G "QuorumLogModel" c_D_installed 57 y_D_termAt (.ref b0 :: [v0, v1]) rest h := qx_siteV (As := [v0, v1]) (E := "QuorumLogModel") (ci := 8) d_D_installed_57 qm_856 qm_858 qs_32 w_D_termAt.1 (by decide) rfl p_D_termAt hb0
theorem s_D_installed_72 {l : Launch} {G : qh_G} {h : qh_H} {b0 : Nat} {fs rest : List Value} {v0 v1 : Value} (hb0 : h b0 = some (.inr (8, fs))) : qx_Site l G "QuorumLogModel" c_D_installed 72 y_D_shift (.ref b0 :: [v0, v1]) rest h := qx_siteV (As := [v0, v1]) (E := "QuorumLogModel") (ci := 8) d_D_installed_72 qm_958 qm_960 qs_49 w_D_shift.1 (by decide) rfl p_D_shift hb0
theorem s_D_installed_172 {l : Launch} {G : qh_G} {h : qh_H} {b0 : Nat} {fs rest : List Value} {v0 v1 v2 v3 v4 : Value} (hb0 : h b0 = some (.inr (8, fs))) : qx_Site l G "QuorumLogModel" c_D_installed 172 y_D_result (.ref b0 :: [v0, v1, v2, v3, v4]) rest h := qx_siteV (As := [v0, v1, v2, v3, v4]) (E := "QuorumLogModel") (ci := 8) d_D_installed_172 qm_1010 qm_1012 qs_59 w_D_result.1 (by decide) rfl p_D_result hb0
theorem s_D_lose_21 {l : Launch} {G : qh_G} {h : qh_H} {b0 : Nat} {fs rest : List Value} {v0 : Value} (hb0 : h b0 = some (.inr (8, fs))) : qx_Site l G "QuorumLogModel" c_D_lose 21 y_D_takeOut (.ref b0 :: [v0]) rest h := qx_siteV (As := [v0]) (E := "QuorumLogModel") (ci := 8) d_D_lose_21 qm_974 qm_976 qs_50 w_D_takeOut.1 (by decide) rfl p_D_takeOut hb0
theorem s_D_state_6 {l : Launch} {G : qh_G} {h : qh_H} {rest : List Value} {v0 : Value} : qx_Site l G "QuorumLogModel" c_D_state 6 y_D_isServer [v0] rest h := qx_siteS (As := [v0]) d_D_state_6 qm_817 qm_818 qm_8 w_D_isServer.1 (by decide) p_D_isServer
theorem s_D_state_101 {l : Launch} {G : qh_G} {h : qh_H} {b0 : Nat} {fs rest : List Value} {v0 : Value} (hb0 : h b0 = some (.inr (8, fs))) : qx_Site l G "QuorumLogModel" c_D_state 101 y_D_last (.ref b0 :: [v0]) rest h := qx_siteV (As := [v0]) (E := "QuorumLogModel") (ci := 8) d_D_state_101 qm_828 qm_830 qs_25 w_D_last.1 (by decide) rfl p_D_last hb0
theorem s_D_state_107 {l : Launch} {G : qh_G} {h : qh_H} {b0 : Nat} {fs rest : List Value} {v0 : Value} (hb0 : h b0 = some (.inr (8, fs))) : qx_Site l G "QuorumLogModel" c_D_state 107 y_D_config (.ref b0 :: [v0]) rest h := qx_siteV (As := [v0]) (E := "QuorumLogModel") (ci := 8) d_D_state_107 qm_824 qm_826 qs_24 w_D_config.1 (by decide) rfl p_D_config hb0
theorem s_D_entry_6 {l : Launch} {G : qh_G} {h : qh_H} {rest : List Value} {v0 : Value} : qx_Site l G "QuorumLogModel" c_D_entry 6 y_D_isServer [v0] rest h := qx_siteS (As := [v0]) d_D_entry_6 qm_817 qm_818 qm_8 w_D_isServer.1 (by decide) p_D_isServer
theorem s_D_entry_15 {l : Launch} {G : qh_G} {h : qh_H} {b0 : Nat} {fs rest : List Value} {v0 v1 : Value} (hb0 : h b0 = some (.inr (8, fs))) : qx_Site l G "QuorumLogModel" c_D_entry 15 y_D_cell (.ref b0 :: [v0, v1]) rest h := qx_siteV (As := [v0, v1]) (E := "QuorumLogModel") (ci := 8) d_D_entry_15 qm_840 qm_842 qs_28 w_D_cell.1 (by decide) rfl p_D_cell hb0
theorem s_D_stored_6 {l : Launch} {G : qh_G} {h : qh_H} {rest : List Value} {v0 : Value} : qx_Site l G "QuorumLogModel" c_D_stored 6 y_D_isServer [v0] rest h := qx_siteS (As := [v0]) d_D_stored_6 qm_817 qm_818 qm_8 w_D_isServer.1 (by decide) p_D_isServer
theorem s_D_stored_13 {l : Launch} {G : qh_G} {h : qh_H} {rest : List Value} {v0 : Value} : qx_Site l G "QuorumLogModel" c_D_stored 13 y_D_isKey [v0] rest h := qx_siteS (As := [v0]) d_D_stored_13 qm_919 qm_920 qm_8 w_D_isKey.1 (by decide) p_D_isKey
theorem s_D_stored_28 {l : Launch} {G : qh_G} {h : qh_H} {b0 : Nat} {fs rest : List Value} {v0 v1 v2 : Value} (hb0 : h b0 = some (.inr (8, fs))) : qx_Site l G "QuorumLogModel" c_D_stored 28 y_D_valueAt (.ref b0 :: [v0, v1, v2]) rest h := qx_siteV (As := [v0, v1, v2]) (E := "QuorumLogModel") (ci := 8) d_D_stored_28 qm_942 qm_944 qs_48 w_D_valueAt.1 (by decide) rfl p_D_valueAt hb0
end
section
/-! the reference: its state A, a number for each array and place (ints and booleans by an integer); its cells lie over any heap g -/
abbrev md_A : Type := Nat → Int → Int
def md_n : Nat → Nat
  | 1 => 5
  | 2 => 5
  | 3 => 5
  | 4 => 5
  | 5 => 5
  | 6 => 5
  | 7 => 20
  | 8 => 5
  | 9 => 240
  | 10 => 240
  | 11 => 240
  | 12 => 240
  | 13 => 5
  | 14 => 5
  | 15 => 5
  | 16 => 5
  | 17 => 25
  | 18 => 25
  | 19 => 25
  | 20 => 5
  | 22 => 60
  | 23 => 60
  | 24 => 60
  | 25 => 60
  | 26 => 60
  | 28 => 960
  | 29 => 20
  | _ => 0
def md_t : Nat → Nat
  | 1 => 1
  | 15 => 1
  | _ => 0
def md_f (ad : Nat → Nat) (A : md_A) : List Value := [.int (iI (A 0 0)), .ref (ad 1), .ref (ad 2), .ref (ad 3), .ref (ad 4), .ref (ad 5), .ref (ad 6), .ref (ad 7), .ref (ad 8), .ref (ad 9), .ref (ad 10), .ref (ad 11), .ref (ad 12), .ref (ad 13), .ref (ad 14), .ref (ad 15), .ref (ad 16), .ref (ad 17), .ref (ad 18), .ref (ad 19), .ref (ad 20), .int (iI (A 21 0)), .ref (ad 22), .ref (ad 23), .ref (ad 24), .ref (ad 25), .ref (ad 26), .int (iI (A 27 0)), .ref (ad 28), .ref (ad 29)]
def md_c (G : qh_G) (A : md_A) (k : Nat) : va_E := .inl (G.2 (md_t k), md_n k, .inl (fun j => iI (A k j)))
def md_a (k : Nat) : Prop := k < 30 ∧ k ≠ 0 ∧ k ≠ 21 ∧ k ≠ 27
/-- the object's address, the arrays', and back -/
def md_I (o : Nat) (ad : Nat → Nat) (iv : Nat → Option Nat) : Prop := (∀ k, md_a k → iv (ad k) = some k) ∧ (∀ a k, iv a = some k → md_a k ∧ ad k = a) ∧ iv o = none
def md_h (G : qh_G) (o : Nat) (ad : Nat → Nat) (iv : Nat → Option Nat) (g : qh_H) (A : md_A) : qh_H := fun a => if a = o then some (.inr (8, md_f ad A)) else match iv a with
  | some k => some (md_c G A k)
  | none => g a
/-- one place anew -/
def md_u (A : md_A) (k : Nat) (i v : Int) : md_A := fun j x => if j = k ∧ x = i then v else A j x
theorem md_us {A : md_A} {k : Nat} {i v : Int} : md_u A k i v k i = v := if_pos ⟨rfl, rfl⟩
theorem md_uk {A : md_A} {k j : Nat} {i x v : Int} (h : j ≠ k) : md_u A k i v j x = A j x := if_neg (fun q => h q.1)
theorem md_ui {A : md_A} {k j : Nat} {i x v : Int} (h : x ≠ i) : md_u A k i v j x = A j x := if_neg (fun q => h q.2)
section MD
variable {l : Launch} {G : qh_G} {b : Nat} {own nm : String} {cc : ByteArray} {nL : Nat} {ret : Option FieldType} {tb : List (Nat × Nat × Nat × Nat)} {R : Room} {post : Outcome → qh_H → Prop} {X : qw_T} {pc : Nat} {lo : List (Option Value)} {st : List Value} {n1 n2 : Nat}
variable {o : Nat} {ad : Nat → Nat} {iv : Nat → Option Nat} {g : qh_H} {A : md_A}
theorem md_o : md_h G o ad iv g A o = some (.inr (8, md_f ad A)) := if_pos rfl
theorem md_ne (I : md_I o ad iv) {k : Nat} (hk : md_a k) : ad k ≠ o := fun e => by
  have h1 := I.1 k hk
  rw [e, I.2.2] at h1
  cases h1
theorem md_at (I : md_I o ad iv) {k : Nat} (hk : md_a k) : md_h G o ad iv g A (ad k) = some (md_c G A k) := by
  unfold md_h
  rw [if_neg (md_ne I hk), I.1 k hk]
theorem md_iv (I : md_I o ad iv) {k : Nat} (hk : md_a k) {a : Nat} (h : iv a = some k) : a = ad k := (I.2.1 a k h).2.symm
/-- an array's place -/
theorem md_st (I : md_I o ad iv) {k : Nat} (hk : md_a k) {i v : Int} (h0 : 0 ≤ i) (f : Nat → Int32) (hf : f = upd (fun j => iI (A k j)) i.toNat (iI v)) : va_up (md_h G o ad iv g A) (ad k) (some (.inl (G.2 (md_t k), md_n k, .inl f))) = md_h G o ad iv g (md_u A k i v) := by
  subst hf
  funext a
  unfold va_up
  by_cases ha : a = ad k
  · subst ha
    rw [if_pos rfl, md_at I hk]
    unfold md_c
    congr 5
    funext j
    unfold upd md_u
    by_cases hj : j = i.toNat
    · have : (j : Int) = i := by omega
      rw [if_pos hj, if_pos ⟨rfl, this⟩]
    · have : ¬ ((j : Int) = i) := by omega
      rw [if_neg hj, if_neg (fun q => this q.2)]
  · rw [if_neg ha]
    unfold md_h
    by_cases hao : a = o
    · rw [if_pos hao, if_pos hao]
      unfold md_f
      obtain ⟨h1, h2, h3, h4⟩ := hk
      rw [md_uk (Ne.symm h2), md_uk (Ne.symm h3), md_uk (Ne.symm h4)]
    · rw [if_neg hao, if_neg hao]
      cases hi : iv a with
      | none => rfl
      | some j =>
        have hjk : j ≠ k := fun e => ha (md_iv I hk (e ▸ hi))
        show some (md_c G A j) = some (md_c G (md_u A k i v) j)
        unfold md_c
        congr 5
        funext z
        rw [md_uk hjk]
/-- the object's own ints -/
theorem md_pt (I : md_I o ad iv) {k : Nat} (hk : k = 0 ∨ k = 21 ∨ k = 27) {v : Int} : va_up (md_h G o ad iv g A) o (some (.inr (8, (md_f ad A).set k (.int (iI v))))) = md_h G o ad iv g (md_u A k 0 v) := by
  funext a
  unfold va_up md_h
  by_cases hao : a = o
  · rw [if_pos hao, if_pos hao]
    rcases hk with rfl | rfl | rfl <;> rfl
  · rw [if_neg hao, if_neg hao, if_neg hao]
    cases hi : iv a with
    | none => rfl
    | some j =>
      obtain ⟨⟨h1, h2, h3, h4⟩, -⟩ := I.2.1 a j hi
      have hjk : j ≠ k := by omega
      show some (md_c G A j) = some (md_c G (md_u A k 0 v) j)
      unfold md_c
      congr 5
      funext z
      rw [md_uk hjk]
theorem mx_ia (C : qw_C l G b own nm cc nL ret tb R post X) (I : md_I o ad iv) (k N : Nat) {e : Int} (hd : decode cc pc = .ok (.iaload, 1)) (hk : md_a k) (ht : md_t k = 0) (hN : md_n k = N) (h0 : 0 ≤ e) (h1 : e < N) (kk : X (pc + 1) lo (.int (iI (A k e)) :: st) (md_h G o ad iv g A) n1 n2) : X pc lo (.int (iI e) :: .ref (ad k) :: st) (md_h G o ad iv g A) n1 n2 := by
  have hb : md_n k < 2147483648 := by unfold md_n; split <;> omega
  refine qx_iald C hd (a := ad k) (N := md_n k) (f := fun j => iI (A k j)) (by rw [md_at I hk]; unfold md_c; rw [ht]) (iI_in h0 (by omega) hb) ?_
  rw [iI_clamp h0 (by omega), Int.toNat_of_nonneg h0]
  exact kk
theorem mx_za (C : qw_C l G b own nm cc nL ret tb R post X) (I : md_I o ad iv) (k N : Nat) {e : Int} (hd : decode cc pc = .ok (.baload, 1)) (hk : md_a k) (ht : md_t k = 1) (hN : md_n k = N) (h0 : 0 ≤ e) (h1 : e < N) (kk : X (pc + 1) lo (.int (iI (A k e)) :: st) (md_h G o ad iv g A) n1 n2) : X pc lo (.int (iI e) :: .ref (ad k) :: st) (md_h G o ad iv g A) n1 n2 := by
  have hb : md_n k < 2147483648 := by unfold md_n; split <;> omega
  refine qx_zald C hd (a := ad k) (N := md_n k) (f := fun j => iI (A k j)) (by rw [md_at I hk]; unfold md_c; rw [ht]) (iI_in h0 (by omega) hb) ?_
  rw [iI_clamp h0 (by omega), Int.toNat_of_nonneg h0]
  exact kk
theorem mx_is (C : qw_C l G b own nm cc nL ret tb R post X) (I : md_I o ad iv) (k N : Nat) {e v : Int} (hd : decode cc pc = .ok (.iastore, 1)) (hk : md_a k) (ht : md_t k = 0) (hN : md_n k = N) (h0 : 0 ≤ e) (h1 : e < N) (kk : X (pc + 1) lo st (md_h G o ad iv g (md_u A k e v)) n1 n2) : X pc lo (.int (iI v) :: .int (iI e) :: .ref (ad k) :: st) (md_h G o ad iv g A) n1 n2 := by
  have hb : md_n k < 2147483648 := by unfold md_n; split <;> omega
  refine qx_iast C hd (a := ad k) (N := md_n k) (f := fun j => iI (A k j)) (by rw [md_at I hk]; unfold md_c; rw [ht]) (iI_in h0 (by omega) hb) ?_
  have h9 := md_st (G := G) (g := g) (A := A) (v := v) I hk h0 _ rfl
  rw [ht] at h9
  rw [iI_clamp h0 (by omega), h9]
  exact kk
theorem mx_zs (C : qw_C l G b own nm cc nL ret tb R post X) (I : md_I o ad iv) (k N : Nat) {e v : Int} (hd : decode cc pc = .ok (.bastore, 1)) (hk : md_a k) (ht : md_t k = 1) (hN : md_n k = N) (h0 : 0 ≤ e) (h1 : e < N) (hv : v = 0 ∨ v = 1) (kk : X (pc + 1) lo st (md_h G o ad iv g (md_u A k e v)) n1 n2) : X pc lo (.int (iI v) :: .int (iI e) :: .ref (ad k) :: st) (md_h G o ad iv g A) n1 n2 := by
  have hb : md_n k < 2147483648 := by unfold md_n; split <;> omega
  refine qx_zast C hd (a := ad k) (N := md_n k) (f := fun j => iI (A k j)) (by rw [md_at I hk]; unfold md_c; rw [ht]) (iI_in h0 (by omega) hb) ?_
  have h9 := md_st (G := G) (g := g) (A := A) (v := v) I hk h0 _ rfl
  have h8 : vp_nar .boolean (iI v) = iI v := by rcases hv with rfl | rfl <;> decide
  rw [ht] at h9
  rw [iI_clamp h0 (by omega), h8, h9]
  exact kk
theorem mx_gi (C : qw_C l G b own nm cc nL ret tb R post X) {index k : Nat} {v : Value} (hd : decode cc pc = .ok (.getfield index, 3)) (hf : qx_FL own index 8 k) (hv : (md_f ad A)[k]? = some v) (kk : X (pc + 3) lo (v :: st) (md_h G o ad iv g A) n1 n2) : X pc lo (.ref o :: st) (md_h G o ad iv g A) n1 n2 := qx_get C hd hf md_o hv kk
theorem mx_pi (C : qw_C l G b own nm cc nL ret tb R post X) (I : md_I o ad iv) {index k : Nat} {v : Int} (hd : decode cc pc = .ok (.putfield index, 3)) (hf : qx_FP own index 8 k .int false) (hk : k = 0 ∨ k = 21 ∨ k = 27) (kk : X (pc + 3) lo st (md_h G o ad iv g (md_u A k 0 v)) n1 n2) : X pc lo (.int (iI v) :: .ref o :: st) (md_h G o ad iv g A) n1 n2 := by
  refine qx_put C hd hf md_o (by show k < 30; omega) rfl rfl ?_
  rw [md_pt I hk]
  exact kk
end MD
section NX
variable {l : Launch} {G : qh_G} {b : Nat} {own nm : String} {cc : ByteArray} {nL : Nat} {ret : Option FieldType} {tb : List (Nat × Nat × Nat × Nat)} {R : Room} {post : Outcome → qh_H → Prop} {X : qw_T} {pc : Nat} {lo lo' : List (Option Value)} {st : List Value} {h : qh_H} {k n : Nat}
theorem nx_iadd (C : qw_C l G b own nm cc nL ret tb R post X) {a c : Int} (hd : decode cc pc = .ok (.iadd, 1)) (kk : X (pc + 1) lo (.int (iI (a + c)) :: st) h k n) : X pc lo (.int (iI c) :: .int (iI a) :: st) h k n := qx_iadd C hd (by rw [iI_add]; exact kk)
theorem nx_isub (C : qw_C l G b own nm cc nL ret tb R post X) {a c : Int} (hd : decode cc pc = .ok (.isub, 1)) (kk : X (pc + 1) lo (.int (iI (a - c)) :: st) h k n) : X pc lo (.int (iI c) :: .int (iI a) :: st) h k n := qx_isub C hd (by rw [iI_sub]; exact kk)
theorem nx_imul (C : qw_C l G b own nm cc nL ret tb R post X) {a c : Int} (hd : decode cc pc = .ok (.imul, 1)) (kk : X (pc + 1) lo (.int (iI (a * c)) :: st) h k n) : X pc lo (.int (iI c) :: .int (iI a) :: st) h k n := qx_imul C hd (by rw [iI_mul]; exact kk)
theorem nx_if_eq (C : qw_C l G b own nm cc nL ret tb R post X) {a off : Int} (tgt : Nat) (hd : decode cc pc = .ok (.ifCond .eq off, 3)) (ht : (pc : Int) + off = (tgt : Int)) (ha : rng a) (kt : a = 0 → X tgt lo st h k n) (kf : ¬ a = 0 → X (pc + 3) lo st h k n) : X pc lo (.int (iI a) :: st) h k n := by
  have r0 : rng 0 := by omega
  exact qx_if_eq C hd ht (fun (q : iI a = iI 0) => kt ((iI_eq ha r0).mp q)) (fun (q : ¬ iI a = iI 0) => kf (fun z => q ((iI_eq ha r0).mpr z)))
theorem nx_if_ne (C : qw_C l G b own nm cc nL ret tb R post X) {a off : Int} (tgt : Nat) (hd : decode cc pc = .ok (.ifCond .ne off, 3)) (ht : (pc : Int) + off = (tgt : Int)) (ha : rng a) (kt : ¬ a = 0 → X tgt lo st h k n) (kf : a = 0 → X (pc + 3) lo st h k n) : X pc lo (.int (iI a) :: st) h k n := by
  have r0 : rng 0 := by omega
  exact qx_if_ne C hd ht (fun (q : ¬ iI a = iI 0) => kt (fun z => q ((iI_eq ha r0).mpr z))) (fun (q : iI a = iI 0) => kf ((iI_eq ha r0).mp q))
theorem nx_if_lt (C : qw_C l G b own nm cc nL ret tb R post X) {a off : Int} (tgt : Nat) (hd : decode cc pc = .ok (.ifCond .lt off, 3)) (ht : (pc : Int) + off = (tgt : Int)) (ha : rng a) (kt : a < 0 → X tgt lo st h k n) (kf : ¬ a < 0 → X (pc + 3) lo st h k n) : X pc lo (.int (iI a) :: st) h k n := by
  have r0 : rng 0 := by omega
  exact qx_if_lt C hd ht (fun (q : iI a < iI 0) => kt ((iI_lt ha r0).mp q)) (fun (q : ¬ iI a < iI 0) => kf (fun z => q ((iI_lt ha r0).mpr z)))
theorem nx_if_ge (C : qw_C l G b own nm cc nL ret tb R post X) {a off : Int} (tgt : Nat) (hd : decode cc pc = .ok (.ifCond .ge off, 3)) (ht : (pc : Int) + off = (tgt : Int)) (ha : rng a) (kt : 0 ≤ a → X tgt lo st h k n) (kf : ¬ 0 ≤ a → X (pc + 3) lo st h k n) : X pc lo (.int (iI a) :: st) h k n := by
  have r0 : rng 0 := by omega
  exact qx_if_ge C hd ht (fun (q : iI 0 ≤ iI a) => kt ((iI_le r0 ha).mp q)) (fun (q : ¬ iI 0 ≤ iI a) => kf (fun z => q ((iI_le r0 ha).mpr z)))
theorem nx_if_gt (C : qw_C l G b own nm cc nL ret tb R post X) {a off : Int} (tgt : Nat) (hd : decode cc pc = .ok (.ifCond .gt off, 3)) (ht : (pc : Int) + off = (tgt : Int)) (ha : rng a) (kt : 0 < a → X tgt lo st h k n) (kf : ¬ 0 < a → X (pc + 3) lo st h k n) : X pc lo (.int (iI a) :: st) h k n := by
  have r0 : rng 0 := by omega
  exact qx_if_gt C hd ht (fun (q : iI 0 < iI a) => kt ((iI_lt r0 ha).mp q)) (fun (q : ¬ iI 0 < iI a) => kf (fun z => q ((iI_lt r0 ha).mpr z)))
theorem nx_if_le (C : qw_C l G b own nm cc nL ret tb R post X) {a off : Int} (tgt : Nat) (hd : decode cc pc = .ok (.ifCond .le off, 3)) (ht : (pc : Int) + off = (tgt : Int)) (ha : rng a) (kt : a ≤ 0 → X tgt lo st h k n) (kf : ¬ a ≤ 0 → X (pc + 3) lo st h k n) : X pc lo (.int (iI a) :: st) h k n := by
  have r0 : rng 0 := by omega
  exact qx_if_le C hd ht (fun (q : iI a ≤ iI 0) => kt ((iI_le ha r0).mp q)) (fun (q : ¬ iI a ≤ iI 0) => kf (fun z => q ((iI_le ha r0).mpr z)))
theorem nx_icmp_eq (C : qw_C l G b own nm cc nL ret tb R post X) {a c off : Int} (tgt : Nat) (hd : decode cc pc = .ok (.if_icmp .eq off, 3)) (ht : (pc : Int) + off = (tgt : Int)) (ha : rng a) (hc : rng c) (kt : a = c → X tgt lo st h k n) (kf : ¬ a = c → X (pc + 3) lo st h k n) : X pc lo (.int (iI c) :: .int (iI a) :: st) h k n := qx_icmp_eq C hd ht (fun q => kt ((iI_eq ha hc).mp q)) (fun q => kf (fun z => q ((iI_eq ha hc).mpr z)))
theorem nx_icmp_ne (C : qw_C l G b own nm cc nL ret tb R post X) {a c off : Int} (tgt : Nat) (hd : decode cc pc = .ok (.if_icmp .ne off, 3)) (ht : (pc : Int) + off = (tgt : Int)) (ha : rng a) (hc : rng c) (kt : ¬ a = c → X tgt lo st h k n) (kf : a = c → X (pc + 3) lo st h k n) : X pc lo (.int (iI c) :: .int (iI a) :: st) h k n := qx_icmp_ne C hd ht (fun q => kt (fun z => q ((iI_eq ha hc).mpr z))) (fun q => kf ((iI_eq ha hc).mp q))
theorem nx_icmp_lt (C : qw_C l G b own nm cc nL ret tb R post X) {a c off : Int} (tgt : Nat) (hd : decode cc pc = .ok (.if_icmp .lt off, 3)) (ht : (pc : Int) + off = (tgt : Int)) (ha : rng a) (hc : rng c) (kt : a < c → X tgt lo st h k n) (kf : ¬ a < c → X (pc + 3) lo st h k n) : X pc lo (.int (iI c) :: .int (iI a) :: st) h k n := qx_icmp_lt C hd ht (fun q => kt ((iI_lt ha hc).mp q)) (fun q => kf (fun z => q ((iI_lt ha hc).mpr z)))
theorem nx_icmp_ge (C : qw_C l G b own nm cc nL ret tb R post X) {a c off : Int} (tgt : Nat) (hd : decode cc pc = .ok (.if_icmp .ge off, 3)) (ht : (pc : Int) + off = (tgt : Int)) (ha : rng a) (hc : rng c) (kt : c ≤ a → X tgt lo st h k n) (kf : ¬ c ≤ a → X (pc + 3) lo st h k n) : X pc lo (.int (iI c) :: .int (iI a) :: st) h k n := qx_icmp_ge C hd ht (fun q => kt ((iI_le hc ha).mp q)) (fun q => kf (fun z => q ((iI_le hc ha).mpr z)))
theorem nx_icmp_gt (C : qw_C l G b own nm cc nL ret tb R post X) {a c off : Int} (tgt : Nat) (hd : decode cc pc = .ok (.if_icmp .gt off, 3)) (ht : (pc : Int) + off = (tgt : Int)) (ha : rng a) (hc : rng c) (kt : c < a → X tgt lo st h k n) (kf : ¬ c < a → X (pc + 3) lo st h k n) : X pc lo (.int (iI c) :: .int (iI a) :: st) h k n := qx_icmp_gt C hd ht (fun q => kt ((iI_lt hc ha).mp q)) (fun q => kf (fun z => q ((iI_lt hc ha).mpr z)))
theorem nx_icmp_le (C : qw_C l G b own nm cc nL ret tb R post X) {a c off : Int} (tgt : Nat) (hd : decode cc pc = .ok (.if_icmp .le off, 3)) (ht : (pc : Int) + off = (tgt : Int)) (ha : rng a) (hc : rng c) (kt : a ≤ c → X tgt lo st h k n) (kf : ¬ a ≤ c → X (pc + 3) lo st h k n) : X pc lo (.int (iI c) :: .int (iI a) :: st) h k n := qx_icmp_le C hd ht (fun q => kt ((iI_le ha hc).mp q)) (fun q => kf (fun z => q ((iI_le ha hc).mpr z)))
theorem nx_istore_n (C : qw_C l G b own nm cc nL ret tb R post X) {f : Fin 4} {i : Nat} {x : Int32} (hd : decode cc pc = .ok (.istore_n f, 1)) (hi : (f : Nat) = i) (hn : i < lo.length) (hl : lo.set i (some (.int x)) = lo') (kk : X (pc + 1) lo' st h k n) : X pc lo (.int x :: st) h k n := qx_istore_n C hd hi hn (hl ▸ kk)
theorem nx_istore (C : qw_C l G b own nm cc nL ret tb R post X) {i : Nat} {x : Int32} (hd : decode cc pc = .ok (.istore i, 2)) (hn : i < lo.length) (hl : lo.set i (some (.int x)) = lo') (kk : X (pc + 2) lo' st h k n) : X pc lo (.int x :: st) h k n := qx_istore C hd hn (hl ▸ kk)
theorem nx_astore_n (C : qw_C l G b own nm cc nL ret tb R post X) {f : Fin 4} {i : Nat} {x : Nat} (hd : decode cc pc = .ok (.astore_n f, 1)) (hi : (f : Nat) = i) (hn : i < lo.length) (hl : lo.set i (some (.ref x)) = lo') (kk : X (pc + 1) lo' st h k n) : X pc lo (.ref x :: st) h k n := qx_astore_n C hd hi hn (hl ▸ kk)
theorem nx_astore (C : qw_C l G b own nm cc nL ret tb R post X) {i : Nat} {x : Nat} (hd : decode cc pc = .ok (.astore i, 2)) (hn : i < lo.length) (hl : lo.set i (some (.ref x)) = lo') (kk : X (pc + 2) lo' st h k n) : X pc lo (.ref x :: st) h k n := qx_astore C hd hn (hl ▸ kk)
theorem nx_astore_nN (C : qw_C l G b own nm cc nL ret tb R post X) {f : Fin 4} {i : Nat} (hd : decode cc pc = .ok (.astore_n f, 1)) (hi : (f : Nat) = i) (hn : i < lo.length) (hl : lo.set i (some (.null)) = lo') (kk : X (pc + 1) lo' st h k n) : X pc lo (.null :: st) h k n := qx_astore_nN C hd hi hn (hl ▸ kk)
theorem nx_astoreN (C : qw_C l G b own nm cc nL ret tb R post X) {i : Nat} (hd : decode cc pc = .ok (.astore i, 2)) (hn : i < lo.length) (hl : lo.set i (some (.null)) = lo') (kk : X (pc + 2) lo' st h k n) : X pc lo (.null :: st) h k n := qx_astoreN C hd hn (hl ▸ kk)
theorem nx_iinc (C : qw_C l G b own nm cc nL ret tb R post X) {i : Nat} {d a : Int} (hd : decode cc pc = .ok (.iinc i d, 3)) (hl : lo[i]? = some (some (.int (iI a)))) (hl2 : lo.set i (some (.int (iI (a + d)))) = lo') (kk : X (pc + 3) lo' st h k n) : X pc lo st h k n := by
  refine qx_iinc C hd hl ?_
  have e : iI a + Int32.ofInt d = iI (a + d) := iI_add a d
  rw [e, hl2]
  exact kk
end NX
abbrev qr (d mc ms : Nat) : Room := { frames := d, cells := mc, slots := ms, locals := 32 * d }
theorem qr_ok {d e mc ms nY k n : Nat} {mc' ms' : Nat} (h : e < d) (hn : nY ≤ 8) (h1 : k + mc' ≤ mc) (h2 : n + ms' ≤ ms) : (qr e mc' ms').frames + 1 ≤ (qr d mc ms).frames ∧ 8 + (nY + 11) + (qr e mc' ms').locals ≤ (qr d mc ms).locals ∧ k + (qr e mc' ms').cells ≤ (qr d mc ms).cells ∧ n + (qr e mc' ms').slots ≤ (qr d mc ms).slots := by
  refine ⟨?_, ?_, h1, h2⟩
  · show e + 1 ≤ d; omega
  · show 8 + (nY + 11) + 32 * e ≤ 32 * d; omega
end
section
/-! bits of small numbers -/
theorem bz_sl : ∀ n, n < 32 → ((nI n &&& 31).toBitVec.smod 32).toNat = n := by decide +kernel
theorem bz_s1 : ∀ c, c < 31 → (nI 1 <<< (nI c &&& 31)) = nI (2 ^ c) := by decide +kernel
theorem bz_and (a c : Nat) : nI a &&& nI c = nI (a &&& c) := by
  apply Int32.toBitVec_inj.1
  show BitVec.ofNat 32 a &&& BitVec.ofNat 32 c = BitVec.ofNat 32 (a &&& c)
  apply BitVec.eq_of_getLsbD_eq
  intro i hi
  simp [hi]
theorem bz_or (a c : Nat) : nI a ||| nI c = nI (a ||| c) := by
  apply Int32.toBitVec_inj.1
  show BitVec.ofNat 32 a ||| BitVec.ofNat 32 c = BitVec.ofNat 32 (a ||| c)
  apply BitVec.eq_of_getLsbD_eq
  intro i hi
  simp [hi]
theorem bz_xor (a c : Nat) : nI a ^^^ nI c = nI (a ^^^ c) := by
  apply Int32.toBitVec_inj.1
  show BitVec.ofNat 32 a ^^^ BitVec.ofNat 32 c = BitVec.ofNat 32 (a ^^^ c)
  apply BitVec.eq_of_getLsbD_eq
  intro i hi
  simp [hi]
def ia (a c : Int) : Int := ((a.toNat &&& c.toNat : Nat) : Int)
def io (a c : Int) : Int := ((a.toNat ||| c.toNat : Nat) : Int)
def ix (a c : Int) : Int := ((a.toNat ^^^ c.toNat : Nat) : Int)
/-- bit k of a -/
def bit (a k : Int) : Int := a / 2 ^ k.toNat % 2
/-- the set of one -/
def one (k : Int) : Int := 2 ^ k.toNat
theorem iI_and {a c : Int} (ha : 0 ≤ a) (hc : 0 ≤ c) : iI a &&& iI c = iI (ia a c) := by
  obtain ⟨x, rfl⟩ := Int.eq_ofNat_of_zero_le ha
  obtain ⟨y, rfl⟩ := Int.eq_ofNat_of_zero_le hc
  rw [← iI_nat, ← iI_nat, bz_and, iI_nat]
  rfl
theorem iI_or {a c : Int} (ha : 0 ≤ a) (hc : 0 ≤ c) : iI a ||| iI c = iI (io a c) := by
  obtain ⟨x, rfl⟩ := Int.eq_ofNat_of_zero_le ha
  obtain ⟨y, rfl⟩ := Int.eq_ofNat_of_zero_le hc
  rw [← iI_nat, ← iI_nat, bz_or, iI_nat]
  rfl
theorem iI_xor {a c : Int} (ha : 0 ≤ a) (hc : 0 ≤ c) : iI a ^^^ iI c = iI (ix a c) := by
  obtain ⟨x, rfl⟩ := Int.eq_ofNat_of_zero_le ha
  obtain ⟨y, rfl⟩ := Int.eq_ofNat_of_zero_le hc
  rw [← iI_nat, ← iI_nat, bz_xor, iI_nat]
  rfl
theorem iI_shr {a c : Int} (ha : 0 ≤ a) (ha2 : a < 2147483648) (hc : 0 ≤ c) (hc2 : c < 32) : iI a >>> (iI c &&& 31) = iI (a / 2 ^ c.toNat) := by
  obtain ⟨x, rfl⟩ := Int.eq_ofNat_of_zero_le ha
  obtain ⟨y, rfl⟩ := Int.eq_ofNat_of_zero_le hc
  rw [← iI_nat, ← iI_nat, pk_shrN (by omega) _ y (bz_sl y (by omega)), iI_nat]
  congr 1
theorem iI_shl1 {c : Int} (hc : 0 ≤ c) (hc2 : c < 31) : iI 1 <<< (iI c &&& 31) = iI (one c) := by
  obtain ⟨y, rfl⟩ := Int.eq_ofNat_of_zero_le hc
  have h := bz_s1 y (by omega)
  rw [iI_nat, iI_nat, iI_nat] at h
  refine h.trans (congrArg iI ?_)
  unfold one
  rw [Int.toNat_natCast]
  simp
theorem ia_1 {a : Int} (ha : 0 ≤ a) : ia a 1 = a % 2 := by
  obtain ⟨x, rfl⟩ := Int.eq_ofNat_of_zero_le ha
  unfold ia
  rw [Int.toNat_natCast, show (1 : Int).toNat = 1 from rfl, Nat.and_one_is_mod]
  simp
theorem bit_01 (a k : Int) : 0 ≤ bit a k ∧ bit a k < 2 := by unfold bit; omega
/-- sets of five -/
abbrev set5 (a : Int) : Prop := 0 ≤ a ∧ a < 32
theorem set5_ex {a : Int} (h : set5 a) : ∃ n : Nat, n < 32 ∧ a = n := ⟨a.toNat, by omega, by omega⟩
theorem k5_ex {a : Int} (h0 : 0 ≤ a) (h5 : a < 5) : ∃ n : Nat, n < 5 ∧ a = n := ⟨a.toNat, by omega, by omega⟩
theorem bz_5a : ∀ x, x < 32 → ∀ y, y < 32 → (x &&& y) < 32 ∧ (x ||| y) < 32 ∧ (x ^^^ y) < 32 := by decide +kernel
theorem set5_and {a c : Int} (ha : set5 a) (hc : set5 c) : set5 (ia a c) := by
  obtain ⟨x, hx, rfl⟩ := set5_ex ha
  obtain ⟨y, hy, rfl⟩ := set5_ex hc
  have := (bz_5a x hx y hy).1
  unfold ia
  rw [Int.toNat_natCast, Int.toNat_natCast]
  omega
theorem set5_or {a c : Int} (ha : set5 a) (hc : set5 c) : set5 (io a c) := by
  obtain ⟨x, hx, rfl⟩ := set5_ex ha
  obtain ⟨y, hy, rfl⟩ := set5_ex hc
  have := (bz_5a x hx y hy).2.1
  unfold io
  rw [Int.toNat_natCast, Int.toNat_natCast]
  omega
theorem set5_xor {a c : Int} (ha : set5 a) (hc : set5 c) : set5 (ix a c) := by
  obtain ⟨x, hx, rfl⟩ := set5_ex ha
  obtain ⟨y, hy, rfl⟩ := set5_ex hc
  have := (bz_5a x hx y hy).2.2
  unfold ix
  rw [Int.toNat_natCast, Int.toNat_natCast]
  omega
theorem bz_one : ∀ k, k < 5 → (2 : Int) ^ k < 32 ∧ (0 : Int) ≤ 2 ^ k := by decide
theorem set5_one {k : Int} (h0 : 0 ≤ k) (h5 : k < 5) : set5 (one k) := by
  obtain ⟨n, hn, rfl⟩ := k5_ex h0 h5
  have := bz_one n hn
  unfold one
  rw [Int.toNat_natCast]
  omega
section NB
variable {l : Launch} {G : qh_G} {b : Nat} {own nm : String} {cc : ByteArray} {nL : Nat} {ret : Option FieldType} {tb : List (Nat × Nat × Nat × Nat)} {R : Room} {post : Outcome → qh_H → Prop} {X : qw_T} {pc : Nat} {lo lo' : List (Option Value)} {st : List Value} {h : qh_H} {k n : Nat}
theorem nx_iand (C : qw_C l G b own nm cc nL ret tb R post X) {a c : Int} (hd : decode cc pc = .ok (.iand, 1)) (ha : 0 ≤ a) (hc : 0 ≤ c) (kk : X (pc + 1) lo (.int (iI (ia a c)) :: st) h k n) : X pc lo (.int (iI c) :: .int (iI a) :: st) h k n := qx_iand C hd (by rw [iI_and ha hc]; exact kk)
theorem nx_iand1 (C : qw_C l G b own nm cc nL ret tb R post X) {a : Int} (hd : decode cc pc = .ok (.iand, 1)) (ha : 0 ≤ a) (kk : X (pc + 1) lo (.int (iI (a % 2)) :: st) h k n) : X pc lo (.int (iI 1) :: .int (iI a) :: st) h k n := qx_iand C hd (by rw [iI_and ha (by omega), ia_1 ha]; exact kk)
theorem nx_ior (C : qw_C l G b own nm cc nL ret tb R post X) {a c : Int} (hd : decode cc pc = .ok (.ior, 1)) (ha : 0 ≤ a) (hc : 0 ≤ c) (kk : X (pc + 1) lo (.int (iI (io a c)) :: st) h k n) : X pc lo (.int (iI c) :: .int (iI a) :: st) h k n := qx_ior C hd (by rw [iI_or ha hc]; exact kk)
theorem nx_ixor (C : qw_C l G b own nm cc nL ret tb R post X) {a c : Int} (hd : decode cc pc = .ok (.ixor, 1)) (ha : 0 ≤ a) (hc : 0 ≤ c) (kk : X (pc + 1) lo (.int (iI (ix a c)) :: st) h k n) : X pc lo (.int (iI c) :: .int (iI a) :: st) h k n := qx_ixor C hd (by rw [iI_xor ha hc]; exact kk)
theorem nx_ishr (C : qw_C l G b own nm cc nL ret tb R post X) {a c : Int} (hd : decode cc pc = .ok (.ishr, 1)) (ha : 0 ≤ a ∧ a < 2147483648) (hc : 0 ≤ c ∧ c < 32) (kk : X (pc + 1) lo (.int (iI (a / 2 ^ c.toNat)) :: st) h k n) : X pc lo (.int (iI c) :: .int (iI a) :: st) h k n := qx_ishr C hd (by rw [iI_shr ha.1 ha.2 hc.1 hc.2]; exact kk)
/-- a >> c & 1 -/
theorem nx_bit (C : qw_C l G b own nm cc nL ret tb R post X) {a c : Int} (hd : decode cc pc = .ok (.ishr, 1)) (hd2 : decode cc (pc + 1) = .ok (.iconst 1, 1)) (hd3 : decode cc (pc + 2) = .ok (.iand, 1)) (ha : set5 a) (hc : 0 ≤ c ∧ c < 5) (kk : X (pc + 3) lo (.int (iI (bit a c)) :: st) h k n) : X pc lo (.int (iI c) :: .int (iI a) :: st) h k n := by
  refine nx_ishr C hd ⟨ha.1, by omega⟩ ⟨hc.1, by omega⟩ (qx_iconst C hd2 (v := iI 1) rfl ?_)
  exact nx_iand1 C hd3 (Int.ediv_nonneg ha.1 (Int.le_of_lt (Int.pow_pos (by decide)))) kk
theorem nx_ishl1 (C : qw_C l G b own nm cc nL ret tb R post X) {c : Int} (hd : decode cc pc = .ok (.ishl, 1)) (hc : 0 ≤ c ∧ c < 31) (kk : X (pc + 1) lo (.int (iI (one c)) :: st) h k n) : X pc lo (.int (iI c) :: .int (iI 1) :: st) h k n := qx_ishl C hd (by rw [iI_shl1 hc.1 hc.2]; exact kk)
end NB
end
section
/-! the reference: what it reads -/
abbrev qj (l : Launch) (y : MethodName) (cc : ByteArray) (nL : Nat) (rt : Option FieldType) (d mc ms : Nat) (G : qh_G) (b : Nat) (av : List Value) (h : qh_H) (r : Int) (h2 : qh_H) : Prop :=
  qx_M l y (Cond.code y cc nL rt :: qu_W) (qr d mc ms) G b av h (fun oc h' => ∃ z : Int32, oc = .returned (some (.int z)) ∧ (z = iI r ∧ h' = h2))
abbrev qv (l : Launch) (y : MethodName) (cc : ByteArray) (nL : Nat) (rt : Option FieldType) (d mc ms : Nat) (G : qh_G) (b : Nat) (av : List Value) (h : qh_H) (h2 : qh_H) : Prop :=
  qx_M l y (Cond.code y cc nL rt :: qu_W) (qr d mc ms) G b av h (fun oc h' => oc = .returned none ∧ h' = h2)
theorem nx_call0 {l : Launch} {G : qh_G} {b : Nat} {own nm : String} {cc : ByteArray} {nL : Nat} {ret : Option FieldType} {tb : List (Nat × Nat × Nat × Nat)} {post : Outcome → qh_H → Prop} {X : qw_T} {pc : Nat} {lo : List (Option Value)} {st : List Value} {h : qh_H} {k n d mc ms : Nat} {y : MethodName} {cY : ByteArray} {nY : Nat} {rY : Option FieldType} {e : Nat} {av rest : List Value} {r : Int} {h2 : qh_H} (C : qw_C l G b own nm cc nL ret tb (qr d mc ms) post X)
    (hsite : qx_Site l G own cc pc y av rest h) (hM : qj l y cY nY rY e 0 0 G b av h r h2) (hy : Cond.code y cY nY rY ∈ qu_W ∧ Cond.initialized y.cls ∈ qu_W) (hst : st = av.reverse ++ rest) (hll : lo.length = nL) (hro : (rest.map fun v => v.category).sum ≤ 8) (hed : e < d ∧ k ≤ mc ∧ n ≤ ms) (hnY : nY ≤ 8)
    (kk : X (pc + 3) lo (.int (iI r) :: rest) h2 k n) : X pc lo st h k n :=
  qx_runi C hsite hM hy hst hll hro (qr_ok hed.1 hnY hed.2.1 hed.2.2) (fun z h' hq => by obtain ⟨rfl, rfl⟩ := hq; exact kk)
theorem nx_callv {l : Launch} {G : qh_G} {b : Nat} {own nm : String} {cc : ByteArray} {nL : Nat} {ret : Option FieldType} {tb : List (Nat × Nat × Nat × Nat)} {post : Outcome → qh_H → Prop} {X : qw_T} {pc : Nat} {lo : List (Option Value)} {st : List Value} {h : qh_H} {k n d mc ms : Nat} {y : MethodName} {cY : ByteArray} {nY : Nat} {rY : Option FieldType} {e : Nat} {av rest : List Value} {h2 : qh_H} (C : qw_C l G b own nm cc nL ret tb (qr d mc ms) post X)
    (hsite : qx_Site l G own cc pc y av rest h) (hM : qv l y cY nY rY e 0 0 G b av h h2) (hy : Cond.code y cY nY rY ∈ qu_W ∧ Cond.initialized y.cls ∈ qu_W) (hst : st = av.reverse ++ rest) (hll : lo.length = nL) (hro : (rest.map fun v => v.category).sum ≤ 8) (hed : e < d ∧ k ≤ mc ∧ n ≤ ms) (hnY : nY ≤ 8)
    (kk : X (pc + 3) lo rest h2 k n) : X pc lo st h k n :=
  qx_runv C hsite hM hy hst hll hro (qr_ok hed.1 hnY hed.2.1 hed.2.2) (fun h' hq => by subst hq; exact kk)
def md_last (A : md_A) (s : Int) : Int := A 4 s + A 8 s
def md_cell (A : md_A) (s i : Int) : Int := if A 4 s < i ∧ i ≤ md_last A s then 48 * s + i - A 4 s - 1 else -1
def md_termAt (A : md_A) (s i : Int) : Int := if i = A 4 s then A 5 s else if md_cell A s i < 0 then -1 else A 9 (md_cell A s i)
/-- a server's snapshot index and size, in bounds -/
abbrev md_B (A : md_A) (s : Int) : Prop := 0 ≤ s ∧ s < 5 ∧ 0 ≤ A 4 s ∧ A 4 s ≤ 1000000 ∧ 0 ≤ A 8 s ∧ A 8 s ≤ 48
set_option maxRecDepth 100000 in
theorem m_last (l : Launch) (G : qh_G) (b : Nat) {o : Nat} {ad : Nat → Nat} {iv : Nat → Option Nat} (I : md_I o ad iv) (g : qh_H) {A : md_A} {s : Int} (hs : md_B A s) (d : Nat) : qj l y_D_last c_D_last 2 (some .int) d 0 0 G b [.ref o, .int (iI s)] (md_h G o ad iv g A) (md_last A s) (md_h G o ad iv g A) := by
  refine qx_of (lo := [some (.ref o), some (.int (iI s))]) (by decide) (fun w hw => List.mem_cons_of_mem _ hw) rfl (Nat.le_of_ble_eq_true rfl) rfl ?_
  intro X C
  refine qx_aload_n C d_D_last_0 rfl rfl ?_
  refine mx_gi C d_D_last_1 fl_D_20 rfl ?_
  refine qx_iload_n C d_D_last_4 rfl rfl ?_
  refine mx_ia C I 4 5 d_D_last_5 (by unfold md_a; omega) rfl rfl (by omega) (by omega) ?_
  refine qx_aload_n C d_D_last_6 rfl rfl ?_
  refine mx_gi C d_D_last_7 fl_D_32 rfl ?_
  refine qx_iload_n C d_D_last_10 rfl rfl ?_
  refine mx_ia C I 8 5 d_D_last_11 (by unfold md_a; omega) rfl rfl (by omega) (by omega) ?_
  refine nx_iadd C d_D_last_12 ?_
  refine qx_iret C d_D_last_13 (Nat.zero_le _) (Nat.zero_le _) ⟨_, rfl, ?_, rfl⟩
  rfl
set_option maxRecDepth 100000 in
theorem m_cell (l : Launch) (G : qh_G) (b : Nat) {o : Nat} {ad : Nat → Nat} {iv : Nat → Option Nat} (I : md_I o ad iv) (g : qh_H) {A : md_A} {s i : Int} (hs : md_B A s) (hi : rng i) (d : Nat) : qj l y_D_cell c_D_cell 3 (some .int) (d + 1) 0 0 G b [.ref o, .int (iI s), .int (iI i)] (md_h G o ad iv g A) (md_cell A s i) (md_h G o ad iv g A) := by
  have hl : md_last A s = A 4 s + A 8 s := rfl
  refine qx_of (lo := [some (.ref o), some (.int (iI s)), some (.int (iI i))]) (by decide) (fun w hw => List.mem_cons_of_mem _ hw) rfl (Nat.le_of_ble_eq_true rfl) rfl ?_
  intro X C
  refine qx_iload_n C d_D_cell_0 rfl rfl ?_
  refine qx_aload_n C d_D_cell_1 rfl rfl ?_
  refine mx_gi C d_D_cell_2 fl_D_20 rfl ?_
  refine qx_iload_n C d_D_cell_5 rfl rfl ?_
  refine mx_ia C I 4 5 d_D_cell_6 (by unfold md_a; omega) rfl rfl (by omega) (by omega) ?_
  refine nx_icmp_le C 37 d_D_cell_7 (by decide) (by omega) (by omega) (fun hc => ?_) (fun hc => ?_)
  · refine qx_iconst C d_D_cell_37 (v := iI (-1)) rfl ?_
    refine qx_iret C d_D_cell_38 (Nat.zero_le _) (Nat.zero_le _) ⟨_, rfl, ?_, rfl⟩
    unfold md_cell
    rw [if_neg (by omega)]
  · refine qx_iload_n C d_D_cell_10 rfl rfl ?_
    refine qx_aload_n C d_D_cell_11 rfl rfl ?_
    refine qx_iload_n C d_D_cell_12 rfl rfl ?_
    refine nx_call0 C (s_D_cell_13 md_o) (m_last l G b I g hs d) w_D_last rfl rfl (Nat.le_of_ble_eq_true rfl) (by omega) (by decide) ?_
    refine nx_icmp_gt C 37 d_D_cell_16 (by decide) (by omega) (by omega) (fun hc => ?_) (fun hc => ?_)
    · refine qx_iconst C d_D_cell_37 (v := iI (-1)) rfl ?_
      refine qx_iret C d_D_cell_38 (Nat.zero_le _) (Nat.zero_le _) ⟨_, rfl, ?_, rfl⟩
      unfold md_cell
      rw [if_neg (by omega)]
    · refine qx_bipush C d_D_cell_19 (v := iI (48)) (by decide) ?_
      refine qx_iload_n C d_D_cell_21 rfl rfl ?_
      refine nx_imul C d_D_cell_22 ?_
      refine qx_iload_n C d_D_cell_23 rfl rfl ?_
      refine nx_iadd C d_D_cell_24 ?_
      refine qx_aload_n C d_D_cell_25 rfl rfl ?_
      refine mx_gi C d_D_cell_26 fl_D_20 rfl ?_
      refine qx_iload_n C d_D_cell_29 rfl rfl ?_
      refine mx_ia C I 4 5 d_D_cell_30 (by unfold md_a; omega) rfl rfl (by omega) (by omega) ?_
      refine nx_isub C d_D_cell_31 ?_
      refine qx_iconst C d_D_cell_32 (v := iI (1)) rfl ?_
      refine nx_isub C d_D_cell_33 ?_
      refine qx_goto C d_D_cell_34 (tgt := 38) (by decide) ?_
      refine qx_iret C d_D_cell_38 (Nat.zero_le _) (Nat.zero_le _) ⟨_, rfl, ?_, rfl⟩
      unfold md_cell
      rw [if_pos (by omega)]

abbrev md_r (A : md_A) : Prop := ∀ (k : Nat) (i : Int), rng (A k i)
/-- the latest MEMBERS among the first n entries behind the snapshot -/
def md_lm (A : md_A) (s : Int) : Nat → Int
  | 0 => 0
  | n + 1 => if A 10 (48 * s + n) = 2 then A 4 s + n + 1 else md_lm A s n
theorem md_lm_s (A : md_A) (s : Int) (n : Nat) : md_lm A s (n + 1) = if A 10 (48 * s + n) = 2 then A 4 s + n + 1 else md_lm A s n := rfl
def md_mem (A : md_A) (s : Int) (n : Nat) : Int := if md_lm A s n = 0 then A 6 s else A 11 (md_cell A s (md_lm A s n))
def md_config (A : md_A) (s : Int) : Int := md_mem A s (A 8 s).toNat
/-- what the first n entries behind the snapshot give a key -/
def md_val (A : md_A) (s key : Int) : Nat → Int
  | 0 => A 7 (4 * s + key)
  | n + 1 => if A 10 (48 * s + n) = 1 ∧ A 11 (48 * s + n) = key then A 12 (48 * s + n) else md_val A s key n
theorem md_val_s (A : md_A) (s key : Int) (n : Nat) : md_val A s key (n + 1) = if A 10 (48 * s + n) = 1 ∧ A 11 (48 * s + n) = key then A 12 (48 * s + n) else md_val A s key n := rfl
def md_cnt (c : Int) : Int := bit c 0 + bit c 1 + bit c 2 + bit c 3 + bit c 4
def md_most (A : md_A) (s bits : Int) : Int := if md_cnt (md_config A s) < 2 * md_cnt (ia (md_config A s) bits) then 1 else 0
def md_mine (A : md_A) (s : Int) : Int := bit (md_config A s) s
def md_leads (A : md_A) (s : Int) : Int := if A 1 s = 0 ∧ A 13 s = 3 then 1 else 0
def md_old (A : md_A) (s : Int) : Int := if md_termAt A s (A 14 s) = A 2 s then 0 else 1
/-- who of the first n has the mark -/
def md_reach (A : md_A) (k : Nat) (s mark : Int) : Nat → Int
  | 0 => one s
  | n + 1 => io (md_reach A k s mark n) (if A k (5 * s + n) < mark then 0 else one n)
theorem md_reach_s (A : md_A) (k : Nat) (s mark : Int) (n : Nat) : md_reach A k s mark (n + 1) = io (md_reach A k s mark n) (if A k (5 * s + n) < mark then 0 else one n) := rfl
theorem md_cell_in {A : md_A} {s : Int} {n : Nat} (h : (n : Int) < A 8 s) : md_cell A s (A 4 s + 1 + n) = 48 * s + n := by
  unfold md_cell md_last
  rw [if_pos (by omega)]
  omega
theorem md_lm_in (A : md_A) (s : Int) : ∀ n : Nat, md_lm A s n = 0 ∨ ∃ j : Nat, j < n ∧ md_lm A s n = A 4 s + 1 + j
  | 0 => Or.inl rfl
  | n + 1 => by
    unfold md_lm
    split
    · exact Or.inr ⟨n, by omega, by omega⟩
    · rcases md_lm_in A s n with h | ⟨j, h1, h2⟩
      · exact Or.inl h
      · exact Or.inr ⟨j, by omega, h2⟩
set_option maxRecDepth 100000 in
theorem m_isServer (l : Launch) (G : qh_G) (b : Nat) (h : qh_H) {s : Int} (hs : rng s) (d : Nat) : qj l y_D_isServer c_D_isServer 1 (some .boolean) d 0 0 G b [.int (iI s)] h (if 0 ≤ s ∧ s < 5 then 1 else 0) h := by
  refine qx_of (lo := [some (.int (iI s))]) (by decide) (fun w hw => List.mem_cons_of_mem _ hw) rfl (Nat.le_of_ble_eq_true rfl) rfl ?_
  intro X C
  refine qx_iload_n C d_D_isServer_0 rfl rfl ?_
  refine nx_if_lt C 13 d_D_isServer_1 (by decide) (by omega) (fun hc => ?_) (fun hc => ?_)
  · refine qx_iconst C d_D_isServer_13 (v := iI (0)) rfl ?_
    refine qx_zret C d_D_isServer_14 (by decide) (Nat.zero_le _) (Nat.zero_le _) ⟨_, rfl, ?_, rfl⟩
    rw [if_neg (by omega)]
  · refine qx_iload_n C d_D_isServer_4 rfl rfl ?_
    refine qx_iconst C d_D_isServer_5 (v := iI (5)) rfl ?_
    refine nx_icmp_ge C 13 d_D_isServer_6 (by decide) (by omega) (by omega) (fun hc => ?_) (fun hc => ?_)
    · refine qx_iconst C d_D_isServer_13 (v := iI (0)) rfl ?_
      refine qx_zret C d_D_isServer_14 (by decide) (Nat.zero_le _) (Nat.zero_le _) ⟨_, rfl, ?_, rfl⟩
      rw [if_neg (by omega)]
    · refine qx_iconst C d_D_isServer_9 (v := iI (1)) rfl ?_
      refine qx_goto C d_D_isServer_10 (tgt := 14) (by decide) ?_
      refine qx_zret C d_D_isServer_14 (by decide) (Nat.zero_le _) (Nat.zero_le _) ⟨_, rfl, ?_, rfl⟩
      rw [if_pos (by omega)]
set_option maxRecDepth 100000 in
theorem m_isKey (l : Launch) (G : qh_G) (b : Nat) (h : qh_H) {s : Int} (hs : rng s) (d : Nat) : qj l y_D_isKey c_D_isKey 1 (some .boolean) d 0 0 G b [.int (iI s)] h (if 0 ≤ s ∧ s < 4 then 1 else 0) h := by
  refine qx_of (lo := [some (.int (iI s))]) (by decide) (fun w hw => List.mem_cons_of_mem _ hw) rfl (Nat.le_of_ble_eq_true rfl) rfl ?_
  intro X C
  refine qx_iload_n C d_D_isKey_0 rfl rfl ?_
  refine nx_if_lt C 13 d_D_isKey_1 (by decide) (by omega) (fun hc => ?_) (fun hc => ?_)
  · refine qx_iconst C d_D_isKey_13 (v := iI (0)) rfl ?_
    refine qx_zret C d_D_isKey_14 (by decide) (Nat.zero_le _) (Nat.zero_le _) ⟨_, rfl, ?_, rfl⟩
    rw [if_neg (by omega)]
  · refine qx_iload_n C d_D_isKey_4 rfl rfl ?_
    refine qx_iconst C d_D_isKey_5 (v := iI (4)) rfl ?_
    refine nx_icmp_ge C 13 d_D_isKey_6 (by decide) (by omega) (by omega) (fun hc => ?_) (fun hc => ?_)
    · refine qx_iconst C d_D_isKey_13 (v := iI (0)) rfl ?_
      refine qx_zret C d_D_isKey_14 (by decide) (Nat.zero_le _) (Nat.zero_le _) ⟨_, rfl, ?_, rfl⟩
      rw [if_neg (by omega)]
    · refine qx_iconst C d_D_isKey_9 (v := iI (1)) rfl ?_
      refine qx_goto C d_D_isKey_10 (tgt := 14) (by decide) ?_
      refine qx_zret C d_D_isKey_14 (by decide) (Nat.zero_le _) (Nat.zero_le _) ⟨_, rfl, ?_, rfl⟩
      rw [if_pos (by omega)]
set_option maxRecDepth 100000 in
theorem m_thrown (l : Launch) (G : qh_G) (b : Nat) {o : Nat} {ad : Nat → Nat} {iv : Nat → Option Nat} (I : md_I o ad iv) (g : qh_H) (A : md_A) (d : Nat) : qj l y_D_thrown c_D_thrown 1 (some .int) d 0 0 G b [.ref o] (md_h G o ad iv g A) (A 0 0) (md_h G o ad iv g A) := by
  refine qx_of (lo := [some (.ref o)]) (by decide) (fun w hw => List.mem_cons_of_mem _ hw) rfl (Nat.le_of_ble_eq_true rfl) rfl ?_
  intro X C
  refine qx_aload_n C d_D_thrown_0 rfl rfl ?_
  refine mx_gi C d_D_thrown_1 fl_D_92 rfl ?_
  refine qx_iret C d_D_thrown_4 (Nat.zero_le _) (Nat.zero_le _) ⟨_, rfl, ?_, rfl⟩
  rfl
set_option maxRecDepth 100000 in
theorem m_fail (l : Launch) (G : qh_G) (b : Nat) {o : Nat} {ad : Nat → Nat} {iv : Nat → Option Nat} (I : md_I o ad iv) (g : qh_H) (A : md_A) {c : Int} (d : Nat) : qj l y_D_fail c_D_fail 2 (some .int) d 0 0 G b [.ref o, .int (iI c)] (md_h G o ad iv g A) 0 (md_h G o ad iv g (md_u A 0 0 c)) := by
  refine qx_of (lo := [some (.ref o), some (.int (iI c))]) (by decide) (fun w hw => List.mem_cons_of_mem _ hw) rfl (Nat.le_of_ble_eq_true rfl) rfl ?_
  intro X C
  refine qx_aload_n C d_D_fail_0 rfl rfl ?_
  refine qx_iload_n C d_D_fail_1 rfl rfl ?_
  refine mx_pi C I d_D_fail_2 fp_D_92 (by decide) ?_
  refine qx_iconst C d_D_fail_5 (v := iI (0)) rfl ?_
  refine qx_iret C d_D_fail_6 (Nat.zero_le _) (Nat.zero_le _) ⟨_, rfl, ?_, rfl⟩
  rfl
set_option maxRecDepth 100000 in
theorem m_termAt (l : Launch) (G : qh_G) (b : Nat) {o : Nat} {ad : Nat → Nat} {iv : Nat → Option Nat} (I : md_I o ad iv) (g : qh_H) {A : md_A} {s i : Int} (hs : md_B A s) (hi : rng i) (d : Nat) : qj l y_D_termAt c_D_termAt 4 (some .int) (d + 2) 0 0 G b [.ref o, .int (iI s), .int (iI i)] (md_h G o ad iv g A) (md_termAt A s i) (md_h G o ad iv g A) := by
  have hc : md_cell A s i = -1 ∨ (0 ≤ md_cell A s i ∧ md_cell A s i < 240) := by
    unfold md_cell md_last
    split <;> omega
  refine qx_of (lo := [some (.ref o), some (.int (iI s)), some (.int (iI i)), none]) (by decide) (fun w hw => List.mem_cons_of_mem _ hw) rfl (Nat.le_of_ble_eq_true rfl) rfl ?_
  intro X C
  refine qx_iload_n C d_D_termAt_0 rfl rfl ?_
  refine qx_aload_n C d_D_termAt_1 rfl rfl ?_
  refine mx_gi C d_D_termAt_2 fl_D_20 rfl ?_
  refine qx_iload_n C d_D_termAt_5 rfl rfl ?_
  refine mx_ia C I 4 5 d_D_termAt_6 (by unfold md_a; omega) rfl rfl (by omega) (by omega) ?_
  refine nx_icmp_ne C 17 d_D_termAt_7 (by decide) (by omega) (by omega) (fun h1 => ?_) (fun h1 => ?_)
  · refine qx_aload_n C d_D_termAt_17 rfl rfl ?_
    refine qx_iload_n C d_D_termAt_18 rfl rfl ?_
    refine qx_iload_n C d_D_termAt_19 rfl rfl ?_
    refine nx_call0 C (s_D_termAt_20 md_o) (m_cell l G b I g hs hi d) w_D_cell rfl rfl (Nat.le_of_ble_eq_true rfl) (by omega) (by decide) ?_
    refine nx_istore_n C d_D_termAt_23 rfl (Nat.le_of_ble_eq_true rfl) (lo' := [_, _, _, some (.int _)]) rfl ?_
    refine qx_iload_n C d_D_termAt_24 rfl rfl ?_
    refine nx_if_ge C 32 d_D_termAt_25 (by decide) (by omega) (fun h2 => ?_) (fun h2 => ?_)
    · refine qx_aload_n C d_D_termAt_32 rfl rfl ?_
      refine mx_gi C d_D_termAt_33 fl_D_35 rfl ?_
      refine qx_iload_n C d_D_termAt_36 rfl rfl ?_
      refine mx_ia C I 9 240 d_D_termAt_37 (by unfold md_a; omega) rfl rfl (by omega) (by omega) ?_
      refine qx_iret C d_D_termAt_38 (Nat.zero_le _) (Nat.zero_le _) ⟨_, rfl, ?_, rfl⟩
      unfold md_termAt
      rw [if_neg (by omega), if_neg (by omega)]
    · refine qx_iconst C d_D_termAt_28 (v := iI (-1)) rfl ?_
      refine qx_goto C d_D_termAt_29 (tgt := 38) (by decide) ?_
      refine qx_iret C d_D_termAt_38 (Nat.zero_le _) (Nat.zero_le _) ⟨_, rfl, ?_, rfl⟩
      unfold md_termAt
      rw [if_neg (by omega), if_pos (by omega)]
  · refine qx_aload_n C d_D_termAt_10 rfl rfl ?_
    refine mx_gi C d_D_termAt_11 fl_D_23 rfl ?_
    refine qx_iload_n C d_D_termAt_14 rfl rfl ?_
    refine mx_ia C I 5 5 d_D_termAt_15 (by unfold md_a; omega) rfl rfl (by omega) (by omega) ?_
    refine qx_iret C d_D_termAt_16 (Nat.zero_le _) (Nat.zero_le _) ⟨_, rfl, ?_, rfl⟩
    unfold md_termAt
    rw [if_pos (by omega)]
theorem md_last_r {A : md_A} {s : Int} (hs : md_B A s) : rng (md_last A s) := by unfold md_last; omega
set_option maxRecDepth 100000 in
theorem m_lastTerm (l : Launch) (G : qh_G) (b : Nat) {o : Nat} {ad : Nat → Nat} {iv : Nat → Option Nat} (I : md_I o ad iv) (g : qh_H) {A : md_A} {s : Int} (hs : md_B A s) (d : Nat) : qj l y_D_lastTerm c_D_lastTerm 2 (some .int) (d + 3) 0 0 G b [.ref o, .int (iI s)] (md_h G o ad iv g A) (md_termAt A s (md_last A s)) (md_h G o ad iv g A) := by
  refine qx_of (lo := [some (.ref o), some (.int (iI s))]) (by decide) (fun w hw => List.mem_cons_of_mem _ hw) rfl (Nat.le_of_ble_eq_true rfl) rfl ?_
  intro X C
  refine qx_aload_n C d_D_lastTerm_0 rfl rfl ?_
  refine qx_iload_n C d_D_lastTerm_1 rfl rfl ?_
  refine qx_aload_n C d_D_lastTerm_2 rfl rfl ?_
  refine qx_iload_n C d_D_lastTerm_3 rfl rfl ?_
  refine nx_call0 C (s_D_lastTerm_4 md_o) (m_last l G b I g hs d) w_D_last rfl rfl (Nat.le_of_ble_eq_true rfl) (by omega) (by decide) ?_
  refine nx_call0 C (s_D_lastTerm_7 md_o) (m_termAt l G b I g hs (md_last_r hs) d) w_D_termAt rfl rfl (Nat.le_of_ble_eq_true rfl) (by omega) (by decide) ?_
  refine qx_iret C d_D_lastTerm_10 (Nat.zero_le _) (Nat.zero_le _) ⟨_, rfl, ?_, rfl⟩
  rfl
set_option maxRecDepth 100000 in
theorem m_latestMembers (l : Launch) (G : qh_G) (b : Nat) {o : Nat} {ad : Nat → Nat} {iv : Nat → Option Nat} (I : md_I o ad iv) (g : qh_H) {A : md_A} (hA : md_r A) {s : Int} (hs : md_B A s) {t : Nat} (ht : (t : Int) ≤ A 8 s) {to : Int} (hto : to = A 4 s + t) (d : Nat) : qj l y_D_latestMembers c_D_latestMembers 5 (some .int) (d + 2) 0 0 G b [.ref o, .int (iI s), .int (iI to)] (md_h G o ad iv g A) (md_lm A s t) (md_h G o ad iv g A) := by
  refine qx_of (lo := [some (.ref o), some (.int (iI s)), some (.int (iI to)), none, none]) (by decide) (fun w hw => List.mem_cons_of_mem _ hw) rfl (Nat.le_of_ble_eq_true rfl) rfl ?_
  intro X C
  have L : ∀ (r j : Nat) (f i : Int), j + r = t → f = md_lm A s j → i = A 4 s + 1 + j → X 12 [some (.ref o), some (.int (iI s)), some (.int (iI to)), some (.int (iI f)), some (.int (iI i))] [] (md_h G o ad iv g A) 0 0 := by
    intro r
    induction r with
    | zero =>
      intro j f i hj hf hi
      refine qx_iload C d_D_latestMembers_12 rfl ?_
      refine qx_iload_n C d_D_latestMembers_14 rfl rfl ?_
      refine nx_icmp_gt C 43 d_D_latestMembers_15 (by decide) (by omega) (by omega) (fun hc => ?_) (fun hc => ?_)
      · refine qx_iload_n C d_D_latestMembers_43 rfl rfl ?_
        refine qx_iret C d_D_latestMembers_44 (Nat.zero_le _) (Nat.zero_le _) ⟨_, rfl, ?_, rfl⟩
        rw [hf, show j = t by omega]
      · exact absurd hc (by omega)
    | succ r ih =>
      intro j f i hj hf hi
      have hcell : md_cell A s i = 48 * s + j := by rw [hi]; exact md_cell_in (by omega)
      have hq := hA 10 (48 * s + j)
      refine qx_iload C d_D_latestMembers_12 rfl ?_
      refine qx_iload_n C d_D_latestMembers_14 rfl rfl ?_
      refine nx_icmp_gt C 43 d_D_latestMembers_15 (by decide) (by omega) (by omega) (fun hc => ?_) (fun hc => ?_)
      · exact absurd hc (by omega)
      · refine qx_aload_n C d_D_latestMembers_18 rfl rfl ?_
        refine mx_gi C d_D_latestMembers_19 fl_D_38 rfl ?_
        refine qx_aload_n C d_D_latestMembers_22 rfl rfl ?_
        refine qx_iload_n C d_D_latestMembers_23 rfl rfl ?_
        refine qx_iload C d_D_latestMembers_24 rfl ?_
        refine nx_call0 C (s_D_latestMembers_26 md_o) (m_cell l G b I g hs (by omega) d) w_D_cell rfl rfl (Nat.le_of_ble_eq_true rfl) (by omega) (by decide) ?_
        rw [hcell]
        refine mx_ia C I 10 240 d_D_latestMembers_29 (by unfold md_a; omega) rfl rfl (by omega) (by omega) ?_
        refine qx_iconst C d_D_latestMembers_30 (v := iI (2)) rfl ?_
        refine nx_icmp_ne C 37 d_D_latestMembers_31 (by decide) (by omega) (by omega) (fun h2 => ?_) (fun h2 => ?_)
        · refine nx_iinc C d_D_latestMembers_37 rfl (lo' := [_, _, _, _, some (.int _)]) rfl ?_
          refine qx_goto C d_D_latestMembers_40 (tgt := 12) (by decide) ?_
          exact ih (j + 1) _ _ (by omega) (by rw [hf, md_lm_s, if_neg h2]) (by omega)
        · refine qx_iload C d_D_latestMembers_34 rfl ?_
          refine nx_istore_n C d_D_latestMembers_36 rfl (Nat.le_of_ble_eq_true rfl) (lo' := [_, _, _, some (.int _), _]) rfl ?_
          refine nx_iinc C d_D_latestMembers_37 rfl (lo' := [_, _, _, _, some (.int _)]) rfl ?_
          refine qx_goto C d_D_latestMembers_40 (tgt := 12) (by decide) ?_
          exact ih (j + 1) _ _ (by omega) (by rw [md_lm_s, if_pos h2]; omega) (by omega)
  refine qx_iconst C d_D_latestMembers_0 (v := iI (0)) rfl ?_
  refine nx_istore_n C d_D_latestMembers_1 rfl (Nat.le_of_ble_eq_true rfl) (lo' := [_, _, _, some (.int _), _]) rfl ?_
  refine qx_aload_n C d_D_latestMembers_2 rfl rfl ?_
  refine mx_gi C d_D_latestMembers_3 fl_D_20 rfl ?_
  refine qx_iload_n C d_D_latestMembers_6 rfl rfl ?_
  refine mx_ia C I 4 5 d_D_latestMembers_7 (by unfold md_a; omega) rfl rfl (by omega) (by omega) ?_
  refine qx_iconst C d_D_latestMembers_8 (v := iI (1)) rfl ?_
  refine nx_iadd C d_D_latestMembers_9 ?_
  refine nx_istore C d_D_latestMembers_10 (Nat.le_of_ble_eq_true rfl) (lo' := [_, _, _, _, some (.int _)]) rfl ?_
  exact L t 0 _ _ (by omega) rfl (by omega)
set_option maxRecDepth 100000 in
theorem m_membersAt (l : Launch) (G : qh_G) (b : Nat) {o : Nat} {ad : Nat → Nat} {iv : Nat → Option Nat} (I : md_I o ad iv) (g : qh_H) {A : md_A} (hA : md_r A) {s : Int} (hs : md_B A s) {t : Nat} (ht : (t : Int) ≤ A 8 s) {to : Int} (hto : to = A 4 s + t) (d : Nat) : qj l y_D_membersAt c_D_membersAt 4 (some .int) (d + 3) 0 0 G b [.ref o, .int (iI s), .int (iI to)] (md_h G o ad iv g A) (md_mem A s t) (md_h G o ad iv g A) := by
  have hmr : 0 ≤ md_lm A s t ∧ md_lm A s t ≤ 1000100 := by rcases md_lm_in A s t with h | ⟨j, h1, h2⟩ <;> omega
  refine qx_of (lo := [some (.ref o), some (.int (iI s)), some (.int (iI to)), none]) (by decide) (fun w hw => List.mem_cons_of_mem _ hw) rfl (Nat.le_of_ble_eq_true rfl) rfl ?_
  intro X C
  refine qx_aload_n C d_D_membersAt_0 rfl rfl ?_
  refine qx_iload_n C d_D_membersAt_1 rfl rfl ?_
  refine qx_iload_n C d_D_membersAt_2 rfl rfl ?_
  refine nx_call0 C (s_D_membersAt_3 md_o) (m_latestMembers l G b I g hA hs ht hto d) w_D_latestMembers rfl rfl (Nat.le_of_ble_eq_true rfl) (by omega) (by decide) ?_
  refine nx_istore_n C d_D_membersAt_6 rfl (Nat.le_of_ble_eq_true rfl) (lo' := [_, _, _, some (.int _)]) rfl ?_
  refine qx_iload_n C d_D_membersAt_7 rfl rfl ?_
  refine nx_if_ne C 20 d_D_membersAt_8 (by decide) (by omega) (fun hc => ?_) (fun hc => ?_)
  · have hcell : 0 ≤ md_cell A s (md_lm A s t) ∧ md_cell A s (md_lm A s t) < 240 := by
      rcases md_lm_in A s t with h | ⟨j, h1, h2⟩
      · exact absurd h hc
      · rw [h2, md_cell_in (by omega)]; omega
    refine qx_aload_n C d_D_membersAt_20 rfl rfl ?_
    refine mx_gi C d_D_membersAt_21 fl_D_41 rfl ?_
    refine qx_aload_n C d_D_membersAt_24 rfl rfl ?_
    refine qx_iload_n C d_D_membersAt_25 rfl rfl ?_
    refine qx_iload_n C d_D_membersAt_26 rfl rfl ?_
    refine nx_call0 C (s_D_membersAt_27 md_o) (m_cell l G b I g hs (by omega) d) w_D_cell rfl rfl (Nat.le_of_ble_eq_true rfl) (by omega) (by decide) ?_
    refine mx_ia C I 11 240 d_D_membersAt_30 (by unfold md_a; omega) rfl rfl (by omega) (by omega) ?_
    refine qx_iret C d_D_membersAt_31 (Nat.zero_le _) (Nat.zero_le _) ⟨_, rfl, ?_, rfl⟩
    unfold md_mem
    rw [if_neg hc]
  · refine qx_aload_n C d_D_membersAt_11 rfl rfl ?_
    refine mx_gi C d_D_membersAt_12 fl_D_26 rfl ?_
    refine qx_iload_n C d_D_membersAt_15 rfl rfl ?_
    refine mx_ia C I 6 5 d_D_membersAt_16 (by unfold md_a; omega) rfl rfl (by omega) (by omega) ?_
    refine qx_goto C d_D_membersAt_17 (tgt := 31) (by decide) ?_
    refine qx_iret C d_D_membersAt_31 (Nat.zero_le _) (Nat.zero_le _) ⟨_, rfl, ?_, rfl⟩
    unfold md_mem
    rw [if_pos hc]
theorem md_sz {A : md_A} {s : Int} (hs : md_B A s) : (((A 8 s).toNat : Nat) : Int) = A 8 s := by omega
set_option maxRecDepth 100000 in
theorem m_config (l : Launch) (G : qh_G) (b : Nat) {o : Nat} {ad : Nat → Nat} {iv : Nat → Option Nat} (I : md_I o ad iv) (g : qh_H) {A : md_A} (hA : md_r A) {s : Int} (hs : md_B A s) (d : Nat) : qj l y_D_config c_D_config 2 (some .int) (d + 4) 0 0 G b [.ref o, .int (iI s)] (md_h G o ad iv g A) (md_config A s) (md_h G o ad iv g A) := by
  have hz := md_sz hs
  refine qx_of (lo := [some (.ref o), some (.int (iI s))]) (by decide) (fun w hw => List.mem_cons_of_mem _ hw) rfl (Nat.le_of_ble_eq_true rfl) rfl ?_
  intro X C
  refine qx_aload_n C d_D_config_0 rfl rfl ?_
  refine qx_iload_n C d_D_config_1 rfl rfl ?_
  refine qx_aload_n C d_D_config_2 rfl rfl ?_
  refine qx_iload_n C d_D_config_3 rfl rfl ?_
  refine nx_call0 C (s_D_config_4 md_o) (m_last l G b I g hs d) w_D_last rfl rfl (Nat.le_of_ble_eq_true rfl) (by omega) (by decide) ?_
  refine nx_call0 C (s_D_config_7 md_o) (m_membersAt l G b I g hA hs (t := (A 8 s).toNat) (by omega) (by unfold md_last; omega) d) w_D_membersAt rfl rfl (Nat.le_of_ble_eq_true rfl) (by omega) (by decide) ?_
  refine qx_iret C d_D_config_10 (Nat.zero_le _) (Nat.zero_le _) ⟨_, rfl, ?_, rfl⟩
  rfl
set_option maxRecDepth 100000 in
theorem m_valueAt (l : Launch) (G : qh_G) (b : Nat) {o : Nat} {ad : Nat → Nat} {iv : Nat → Option Nat} (I : md_I o ad iv) (g : qh_H) {A : md_A} (hA : md_r A) {s key : Int} (hs : md_B A s) (hk : 0 ≤ key ∧ key < 4) {t : Nat} (ht : (t : Int) ≤ A 8 s) {to : Int} (hto : to = A 4 s + t) (d : Nat) : qj l y_D_valueAt c_D_valueAt 7 (some .int) (d + 2) 0 0 G b [.ref o, .int (iI s), .int (iI key), .int (iI to)] (md_h G o ad iv g A) (md_val A s key t) (md_h G o ad iv g A) := by
  refine qx_of (lo := [some (.ref o), some (.int (iI s)), some (.int (iI key)), some (.int (iI to)), none, none, none]) (by decide) (fun w hw => List.mem_cons_of_mem _ hw) rfl (Nat.le_of_ble_eq_true rfl) rfl ?_
  intro X C
  have L : ∀ (r j : Nat) (f i : Int) (z : Option Value), j + r = t → f = md_val A s key j → i = A 4 s + 1 + j → X 22 [some (.ref o), some (.int (iI s)), some (.int (iI key)), some (.int (iI to)), some (.int (iI f)), some (.int (iI i)), z] [] (md_h G o ad iv g A) 0 0 := by
    intro r
    induction r with
    | zero =>
      intro j f i z hj hf hi
      refine qx_iload C d_D_valueAt_22 rfl ?_
      refine qx_iload_n C d_D_valueAt_24 rfl rfl ?_
      refine nx_icmp_gt C 74 d_D_valueAt_25 (by decide) (by omega) (by omega) (fun hc => ?_) (fun hc => ?_)
      · refine qx_iload C d_D_valueAt_74 rfl ?_
        refine qx_iret C d_D_valueAt_76 (Nat.zero_le _) (Nat.zero_le _) ⟨_, rfl, ?_, rfl⟩
        rw [hf, show j = t by omega]
      · exact absurd hc (by omega)
    | succ r ih =>
      intro j f i z hj hf hi
      have hcell : md_cell A s i = 48 * s + j := by rw [hi]; exact md_cell_in (by omega)
      have hq := hA 10 (48 * s + j)
      have hq2 := hA 11 (48 * s + j)
      refine qx_iload C d_D_valueAt_22 rfl ?_
      refine qx_iload_n C d_D_valueAt_24 rfl rfl ?_
      refine nx_icmp_gt C 74 d_D_valueAt_25 (by decide) (by omega) (by omega) (fun hc => ?_) (fun hc => ?_)
      · exact absurd hc (by omega)
      · refine qx_aload_n C d_D_valueAt_28 rfl rfl ?_
        refine qx_iload_n C d_D_valueAt_29 rfl rfl ?_
        refine qx_iload C d_D_valueAt_30 rfl ?_
        refine nx_call0 C (s_D_valueAt_32 md_o) (m_cell l G b I g hs (by omega) d) w_D_cell rfl rfl (Nat.le_of_ble_eq_true rfl) (by omega) (by decide) ?_
        rw [hcell]
        refine nx_istore C d_D_valueAt_35 (Nat.le_of_ble_eq_true rfl) (lo' := [_, _, _, _, _, _, some (.int _)]) rfl ?_
        refine qx_aload_n C d_D_valueAt_37 rfl rfl ?_
        refine mx_gi C d_D_valueAt_38 fl_D_38 rfl ?_
        refine qx_iload C d_D_valueAt_41 rfl ?_
        refine mx_ia C I 10 240 d_D_valueAt_43 (by unfold md_a; omega) rfl rfl (by omega) (by omega) ?_
        refine qx_iconst C d_D_valueAt_44 (v := iI (1)) rfl ?_
        refine nx_icmp_ne C 68 d_D_valueAt_45 (by decide) (by omega) (by omega) (fun h2 => ?_) (fun h2 => ?_)
        · refine nx_iinc C d_D_valueAt_68 rfl (lo' := [_, _, _, _, _, some (.int _), _]) rfl ?_
          refine qx_goto C d_D_valueAt_71 (tgt := 22) (by decide) ?_
          exact ih (j + 1) _ _ _ (by omega) (by rw [hf, md_val_s, if_neg (fun q => h2 q.1)]) (by omega)
        · refine qx_aload_n C d_D_valueAt_48 rfl rfl ?_
          refine mx_gi C d_D_valueAt_49 fl_D_41 rfl ?_
          refine qx_iload C d_D_valueAt_52 rfl ?_
          refine mx_ia C I 11 240 d_D_valueAt_54 (by unfold md_a; omega) rfl rfl (by omega) (by omega) ?_
          refine qx_iload_n C d_D_valueAt_55 rfl rfl ?_
          refine nx_icmp_ne C 68 d_D_valueAt_56 (by decide) (by omega) (by omega) (fun h3 => ?_) (fun h3 => ?_)
          · refine nx_iinc C d_D_valueAt_68 rfl (lo' := [_, _, _, _, _, some (.int _), _]) rfl ?_
            refine qx_goto C d_D_valueAt_71 (tgt := 22) (by decide) ?_
            exact ih (j + 1) _ _ _ (by omega) (by rw [hf, md_val_s, if_neg (fun q => h3 q.2)]) (by omega)
          · refine qx_aload_n C d_D_valueAt_59 rfl rfl ?_
            refine mx_gi C d_D_valueAt_60 fl_D_44 rfl ?_
            refine qx_iload C d_D_valueAt_63 rfl ?_
            refine mx_ia C I 12 240 d_D_valueAt_65 (by unfold md_a; omega) rfl rfl (by omega) (by omega) ?_
            refine nx_istore C d_D_valueAt_66 (Nat.le_of_ble_eq_true rfl) (lo' := [_, _, _, _, some (.int _), _, _]) rfl ?_
            refine nx_iinc C d_D_valueAt_68 rfl (lo' := [_, _, _, _, _, some (.int _), _]) rfl ?_
            refine qx_goto C d_D_valueAt_71 (tgt := 22) (by decide) ?_
            exact ih (j + 1) _ _ _ (by omega) (by rw [md_val_s, if_pos ⟨h2, h3⟩]) (by omega)
  refine qx_aload_n C d_D_valueAt_0 rfl rfl ?_
  refine mx_gi C d_D_valueAt_1 fl_D_29 rfl ?_
  refine qx_iconst C d_D_valueAt_4 (v := iI (4)) rfl ?_
  refine qx_iload_n C d_D_valueAt_5 rfl rfl ?_
  refine nx_imul C d_D_valueAt_6 ?_
  refine qx_iload_n C d_D_valueAt_7 rfl rfl ?_
  refine nx_iadd C d_D_valueAt_8 ?_
  refine mx_ia C I 7 20 d_D_valueAt_9 (by unfold md_a; omega) rfl rfl (by omega) (by omega) ?_
  refine nx_istore C d_D_valueAt_10 (Nat.le_of_ble_eq_true rfl) (lo' := [_, _, _, _, some (.int _), _, _]) rfl ?_
  refine qx_aload_n C d_D_valueAt_12 rfl rfl ?_
  refine mx_gi C d_D_valueAt_13 fl_D_20 rfl ?_
  refine qx_iload_n C d_D_valueAt_16 rfl rfl ?_
  refine mx_ia C I 4 5 d_D_valueAt_17 (by unfold md_a; omega) rfl rfl (by omega) (by omega) ?_
  refine qx_iconst C d_D_valueAt_18 (v := iI (1)) rfl ?_
  refine nx_iadd C d_D_valueAt_19 ?_
  refine nx_istore C d_D_valueAt_20 (Nat.le_of_ble_eq_true rfl) (lo' := [_, _, _, _, _, some (.int _), _]) rfl ?_
  exact L t 0 _ _ _ (by omega) rfl (by omega)
theorem md_cnt_r {c : Int} : 0 ≤ md_cnt c ∧ md_cnt c ≤ 5 := by
  unfold md_cnt
  have h0 := bit_01 c 0
  have h1 := bit_01 c 1
  have h2 := bit_01 c 2
  have h3 := bit_01 c 3
  have h4 := bit_01 c 4
  omega
set_option maxRecDepth 100000 in
theorem m_count (l : Launch) (G : qh_G) (b : Nat) (h : qh_H) {c : Int} (hc5 : set5 c) (d : Nat) : qj l y_D_count c_D_count 3 (some .int) d 0 0 G b [.int (iI c)] h (md_cnt c) h := by
  have h0 := bit_01 c 0
  have h1 := bit_01 c 1
  have h2 := bit_01 c 2
  have h3 := bit_01 c 3
  have h4 := bit_01 c 4
  refine qx_of (lo := [some (.int (iI c)), none, none]) (by decide) (fun w hw => List.mem_cons_of_mem _ hw) rfl (Nat.le_of_ble_eq_true rfl) rfl ?_
  intro X C
  refine qx_iconst C d_D_count_0 (v := iI (0)) rfl ?_
  refine nx_istore_n C d_D_count_1 rfl (Nat.le_of_ble_eq_true rfl) (lo' := [_, some (.int _), _]) rfl ?_
  refine qx_iconst C d_D_count_2 (v := iI (0)) rfl ?_
  refine nx_istore_n C d_D_count_3 rfl (Nat.le_of_ble_eq_true rfl) (lo' := [_, _, some (.int _)]) rfl ?_
  refine qx_iload_n C d_D_count_4 rfl rfl ?_
  refine qx_iconst C d_D_count_5 (v := iI (5)) rfl ?_
  refine nx_icmp_ge C 23 d_D_count_6 (by decide) (by omega) (by omega) (fun hc => ?_) (fun hc => ?_)
  · exact absurd hc (by omega)
  refine qx_iload_n C d_D_count_9 rfl rfl ?_
  refine qx_iload_n C d_D_count_10 rfl rfl ?_
  refine qx_iload_n C d_D_count_11 rfl rfl ?_
  refine nx_bit C d_D_count_12 d_D_count_13 d_D_count_14 (by omega) (by omega) ?_
  refine nx_iadd C d_D_count_15 ?_
  refine nx_istore_n C d_D_count_16 rfl (Nat.le_of_ble_eq_true rfl) (lo' := [_, some (.int _), _]) rfl ?_
  refine nx_iinc C d_D_count_17 rfl (lo' := [_, _, some (.int _)]) rfl ?_
  refine qx_goto C d_D_count_20 (tgt := 4) (by decide) ?_
  refine qx_iload_n C d_D_count_4 rfl rfl ?_
  refine qx_iconst C d_D_count_5 (v := iI (5)) rfl ?_
  refine nx_icmp_ge C 23 d_D_count_6 (by decide) (by omega) (by omega) (fun hc => ?_) (fun hc => ?_)
  · exact absurd hc (by omega)
  refine qx_iload_n C d_D_count_9 rfl rfl ?_
  refine qx_iload_n C d_D_count_10 rfl rfl ?_
  refine qx_iload_n C d_D_count_11 rfl rfl ?_
  refine nx_bit C d_D_count_12 d_D_count_13 d_D_count_14 (by omega) (by omega) ?_
  refine nx_iadd C d_D_count_15 ?_
  refine nx_istore_n C d_D_count_16 rfl (Nat.le_of_ble_eq_true rfl) (lo' := [_, some (.int _), _]) rfl ?_
  refine nx_iinc C d_D_count_17 rfl (lo' := [_, _, some (.int _)]) rfl ?_
  refine qx_goto C d_D_count_20 (tgt := 4) (by decide) ?_
  refine qx_iload_n C d_D_count_4 rfl rfl ?_
  refine qx_iconst C d_D_count_5 (v := iI (5)) rfl ?_
  refine nx_icmp_ge C 23 d_D_count_6 (by decide) (by omega) (by omega) (fun hc => ?_) (fun hc => ?_)
  · exact absurd hc (by omega)
  refine qx_iload_n C d_D_count_9 rfl rfl ?_
  refine qx_iload_n C d_D_count_10 rfl rfl ?_
  refine qx_iload_n C d_D_count_11 rfl rfl ?_
  refine nx_bit C d_D_count_12 d_D_count_13 d_D_count_14 (by omega) (by omega) ?_
  refine nx_iadd C d_D_count_15 ?_
  refine nx_istore_n C d_D_count_16 rfl (Nat.le_of_ble_eq_true rfl) (lo' := [_, some (.int _), _]) rfl ?_
  refine nx_iinc C d_D_count_17 rfl (lo' := [_, _, some (.int _)]) rfl ?_
  refine qx_goto C d_D_count_20 (tgt := 4) (by decide) ?_
  refine qx_iload_n C d_D_count_4 rfl rfl ?_
  refine qx_iconst C d_D_count_5 (v := iI (5)) rfl ?_
  refine nx_icmp_ge C 23 d_D_count_6 (by decide) (by omega) (by omega) (fun hc => ?_) (fun hc => ?_)
  · exact absurd hc (by omega)
  refine qx_iload_n C d_D_count_9 rfl rfl ?_
  refine qx_iload_n C d_D_count_10 rfl rfl ?_
  refine qx_iload_n C d_D_count_11 rfl rfl ?_
  refine nx_bit C d_D_count_12 d_D_count_13 d_D_count_14 (by omega) (by omega) ?_
  refine nx_iadd C d_D_count_15 ?_
  refine nx_istore_n C d_D_count_16 rfl (Nat.le_of_ble_eq_true rfl) (lo' := [_, some (.int _), _]) rfl ?_
  refine nx_iinc C d_D_count_17 rfl (lo' := [_, _, some (.int _)]) rfl ?_
  refine qx_goto C d_D_count_20 (tgt := 4) (by decide) ?_
  refine qx_iload_n C d_D_count_4 rfl rfl ?_
  refine qx_iconst C d_D_count_5 (v := iI (5)) rfl ?_
  refine nx_icmp_ge C 23 d_D_count_6 (by decide) (by omega) (by omega) (fun hc => ?_) (fun hc => ?_)
  · exact absurd hc (by omega)
  refine qx_iload_n C d_D_count_9 rfl rfl ?_
  refine qx_iload_n C d_D_count_10 rfl rfl ?_
  refine qx_iload_n C d_D_count_11 rfl rfl ?_
  refine nx_bit C d_D_count_12 d_D_count_13 d_D_count_14 (by omega) (by omega) ?_
  refine nx_iadd C d_D_count_15 ?_
  refine nx_istore_n C d_D_count_16 rfl (Nat.le_of_ble_eq_true rfl) (lo' := [_, some (.int _), _]) rfl ?_
  refine nx_iinc C d_D_count_17 rfl (lo' := [_, _, some (.int _)]) rfl ?_
  refine qx_goto C d_D_count_20 (tgt := 4) (by decide) ?_
  refine qx_iload_n C d_D_count_4 rfl rfl ?_
  refine qx_iconst C d_D_count_5 (v := iI (5)) rfl ?_
  refine nx_icmp_ge C 23 d_D_count_6 (by decide) (by omega) (by omega) (fun hc => ?_) (fun hc => ?_)
  · refine qx_iload_n C d_D_count_23 rfl rfl ?_
    refine qx_iret C d_D_count_24 (Nat.zero_le _) (Nat.zero_le _) ⟨_, rfl, ?_, rfl⟩
    unfold md_cnt
    rw [show (0 : Int) + 1 = 1 from rfl, show (1 : Int) + 1 = 2 from rfl, show (2 : Int) + 1 = 3 from rfl, show (3 : Int) + 1 = 4 from rfl]
    congr 1
    omega
  · exact absurd hc (by omega)
set_option maxRecDepth 100000 in
theorem m_most (l : Launch) (G : qh_G) (b : Nat) {o : Nat} {ad : Nat → Nat} {iv : Nat → Option Nat} (I : md_I o ad iv) (g : qh_H) {A : md_A} (hA : md_r A) {s bits : Int} (hs : md_B A s) (hcf : set5 (md_config A s)) (hb5 : set5 bits) (d : Nat) : qj l y_D_most c_D_most 4 (some .boolean) (d + 5) 0 0 G b [.ref o, .int (iI s), .int (iI bits)] (md_h G o ad iv g A) (md_most A s bits) (md_h G o ad iv g A) := by
  have h1 := md_cnt_r (c := md_config A s)
  have h2 := md_cnt_r (c := ia (md_config A s) bits)
  refine qx_of (lo := [some (.ref o), some (.int (iI s)), some (.int (iI bits)), none]) (by decide) (fun w hw => List.mem_cons_of_mem _ hw) rfl (Nat.le_of_ble_eq_true rfl) rfl ?_
  intro X C
  refine qx_aload_n C d_D_most_0 rfl rfl ?_
  refine qx_iload_n C d_D_most_1 rfl rfl ?_
  refine nx_call0 C (s_D_most_2 md_o) (m_config l G b I g hA hs d) w_D_config rfl rfl (Nat.le_of_ble_eq_true rfl) (by omega) (by decide) ?_
  refine nx_istore_n C d_D_most_5 rfl (Nat.le_of_ble_eq_true rfl) (lo' := [_, _, _, some (.int _)]) rfl ?_
  refine qx_iconst C d_D_most_6 (v := iI (2)) rfl ?_
  refine qx_iload_n C d_D_most_7 rfl rfl ?_
  refine qx_iload_n C d_D_most_8 rfl rfl ?_
  refine nx_iand C d_D_most_9 (by omega) (by omega) ?_
  refine nx_call0 C s_D_most_10 (m_count l G b (md_h G o ad iv g A) (set5_and hcf hb5) d) w_D_count rfl rfl (Nat.le_of_ble_eq_true rfl) (by omega) (by decide) ?_
  refine nx_imul C d_D_most_13 ?_
  refine qx_iload_n C d_D_most_14 rfl rfl ?_
  refine nx_call0 C s_D_most_15 (m_count l G b (md_h G o ad iv g A) hcf d) w_D_count rfl rfl (Nat.le_of_ble_eq_true rfl) (by omega) (by decide) ?_
  refine nx_icmp_le C 25 d_D_most_18 (by decide) (by omega) (by omega) (fun hc => ?_) (fun hc => ?_)
  · refine qx_iconst C d_D_most_25 (v := iI (0)) rfl ?_
    refine qx_zret C d_D_most_26 (by decide) (Nat.zero_le _) (Nat.zero_le _) ⟨_, rfl, ?_, rfl⟩
    unfold md_most
    rw [if_neg (by omega)]
  · refine qx_iconst C d_D_most_21 (v := iI (1)) rfl ?_
    refine qx_goto C d_D_most_22 (tgt := 26) (by decide) ?_
    refine qx_zret C d_D_most_26 (by decide) (Nat.zero_le _) (Nat.zero_le _) ⟨_, rfl, ?_, rfl⟩
    unfold md_most
    rw [if_pos (by omega)]
set_option maxRecDepth 100000 in
theorem m_isMine (l : Launch) (G : qh_G) (b : Nat) {o : Nat} {ad : Nat → Nat} {iv : Nat → Option Nat} (I : md_I o ad iv) (g : qh_H) {A : md_A} (hA : md_r A) {s : Int} (hs : md_B A s) (hcf : set5 (md_config A s)) (d : Nat) : qj l y_D_isMine c_D_isMine 2 (some .boolean) (d + 5) 0 0 G b [.ref o, .int (iI s)] (md_h G o ad iv g A) (md_mine A s) (md_h G o ad iv g A) := by
  have h1 := bit_01 (md_config A s) s
  refine qx_of (lo := [some (.ref o), some (.int (iI s))]) (by decide) (fun w hw => List.mem_cons_of_mem _ hw) rfl (Nat.le_of_ble_eq_true rfl) rfl ?_
  intro X C
  refine qx_aload_n C d_D_isMine_0 rfl rfl ?_
  refine qx_iload_n C d_D_isMine_1 rfl rfl ?_
  refine nx_call0 C (s_D_isMine_2 md_o) (m_config l G b I g hA hs d) w_D_config rfl rfl (Nat.le_of_ble_eq_true rfl) (by omega) (by decide) ?_
  refine qx_iload_n C d_D_isMine_5 rfl rfl ?_
  refine nx_bit C d_D_isMine_6 d_D_isMine_7 d_D_isMine_8 (by omega) (by omega) ?_
  refine qx_iconst C d_D_isMine_9 (v := iI (1)) rfl ?_
  refine nx_icmp_ne C 17 d_D_isMine_10 (by decide) (by omega) (by omega) (fun hc => ?_) (fun hc => ?_)
  · refine qx_iconst C d_D_isMine_17 (v := iI (0)) rfl ?_
    refine qx_zret C d_D_isMine_18 (by decide) (Nat.zero_le _) (Nat.zero_le _) ⟨_, rfl, ?_, rfl⟩
    unfold md_mine
    congr 1
    omega
  · refine qx_iconst C d_D_isMine_13 (v := iI (1)) rfl ?_
    refine qx_goto C d_D_isMine_14 (tgt := 18) (by decide) ?_
    refine qx_zret C d_D_isMine_18 (by decide) (Nat.zero_le _) (Nat.zero_le _) ⟨_, rfl, ?_, rfl⟩
    unfold md_mine
    congr 1
    omega
set_option maxRecDepth 100000 in
theorem m_leads (l : Launch) (G : qh_G) (b : Nat) {o : Nat} {ad : Nat → Nat} {iv : Nat → Option Nat} (I : md_I o ad iv) (g : qh_H) {A : md_A} (hA : md_r A) {s : Int} (hs : 0 ≤ s ∧ s < 5) (d : Nat) : qj l y_D_leads c_D_leads 2 (some .boolean) d 0 0 G b [.ref o, .int (iI s)] (md_h G o ad iv g A) (md_leads A s) (md_h G o ad iv g A) := by
  have h1 := hA 1 s
  have h2 := hA 13 s
  refine qx_of (lo := [some (.ref o), some (.int (iI s))]) (by decide) (fun w hw => List.mem_cons_of_mem _ hw) rfl (Nat.le_of_ble_eq_true rfl) rfl ?_
  intro X C
  refine qx_aload_n C d_D_leads_0 rfl rfl ?_
  refine mx_gi C d_D_leads_1 fl_D_7 rfl ?_
  refine qx_iload_n C d_D_leads_4 rfl rfl ?_
  refine mx_za C I 1 5 d_D_leads_5 (by unfold md_a; omega) rfl rfl (by omega) (by omega) ?_
  refine nx_if_ne C 23 d_D_leads_6 (by decide) (by omega) (fun hc => ?_) (fun hc => ?_)
  · refine qx_iconst C d_D_leads_23 (v := iI (0)) rfl ?_
    refine qx_zret C d_D_leads_24 (by decide) (Nat.zero_le _) (Nat.zero_le _) ⟨_, rfl, ?_, rfl⟩
    unfold md_leads
    rw [if_neg (fun q => hc q.1)]
  · refine qx_aload_n C d_D_leads_9 rfl rfl ?_
    refine mx_gi C d_D_leads_10 fl_D_47 rfl ?_
    refine qx_iload_n C d_D_leads_13 rfl rfl ?_
    refine mx_ia C I 13 5 d_D_leads_14 (by unfold md_a; omega) rfl rfl (by omega) (by omega) ?_
    refine qx_iconst C d_D_leads_15 (v := iI (3)) rfl ?_
    refine nx_icmp_ne C 23 d_D_leads_16 (by decide) (by omega) (by omega) (fun h3 => ?_) (fun h3 => ?_)
    · refine qx_iconst C d_D_leads_23 (v := iI (0)) rfl ?_
      refine qx_zret C d_D_leads_24 (by decide) (Nat.zero_le _) (Nat.zero_le _) ⟨_, rfl, ?_, rfl⟩
      unfold md_leads
      rw [if_neg (fun q => h3 q.2)]
    · refine qx_iconst C d_D_leads_19 (v := iI (1)) rfl ?_
      refine qx_goto C d_D_leads_20 (tgt := 24) (by decide) ?_
      refine qx_zret C d_D_leads_24 (by decide) (Nat.zero_le _) (Nat.zero_le _) ⟨_, rfl, ?_, rfl⟩
      unfold md_leads
      rw [if_pos ⟨hc, h3⟩]
theorem md_termAt_r {A : md_A} (hA : md_r A) (s i : Int) : rng (md_termAt A s i) := by
  unfold md_termAt
  split
  · exact hA _ _
  · split
    · omega
    · exact hA _ _
set_option maxRecDepth 100000 in
theorem m_isOld (l : Launch) (G : qh_G) (b : Nat) {o : Nat} {ad : Nat → Nat} {iv : Nat → Option Nat} (I : md_I o ad iv) (g : qh_H) {A : md_A} (hA : md_r A) {s : Int} (hs : md_B A s) (d : Nat) : qj l y_D_isOld c_D_isOld 2 (some .boolean) (d + 3) 0 0 G b [.ref o, .int (iI s)] (md_h G o ad iv g A) (md_old A s) (md_h G o ad iv g A) := by
  have h1 := hA 2 s
  have h2 := md_termAt_r hA s (A 14 s)
  refine qx_of (lo := [some (.ref o), some (.int (iI s))]) (by decide) (fun w hw => List.mem_cons_of_mem _ hw) rfl (Nat.le_of_ble_eq_true rfl) rfl ?_
  intro X C
  refine qx_aload_n C d_D_isOld_0 rfl rfl ?_
  refine qx_iload_n C d_D_isOld_1 rfl rfl ?_
  refine qx_aload_n C d_D_isOld_2 rfl rfl ?_
  refine mx_gi C d_D_isOld_3 fl_D_50 rfl ?_
  refine qx_iload_n C d_D_isOld_6 rfl rfl ?_
  refine mx_ia C I 14 5 d_D_isOld_7 (by unfold md_a; omega) rfl rfl (by omega) (by omega) ?_
  refine nx_call0 C (s_D_isOld_8 md_o) (m_termAt l G b I g hs (hA 14 s) d) w_D_termAt rfl rfl (Nat.le_of_ble_eq_true rfl) (by omega) (by decide) ?_
  refine qx_aload_n C d_D_isOld_11 rfl rfl ?_
  refine mx_gi C d_D_isOld_12 fl_D_13 rfl ?_
  refine qx_iload_n C d_D_isOld_15 rfl rfl ?_
  refine mx_ia C I 2 5 d_D_isOld_16 (by unfold md_a; omega) rfl rfl (by omega) (by omega) ?_
  refine nx_icmp_eq C 24 d_D_isOld_17 (by decide) (by omega) (by omega) (fun hc => ?_) (fun hc => ?_)
  · refine qx_iconst C d_D_isOld_24 (v := iI (0)) rfl ?_
    refine qx_zret C d_D_isOld_25 (by decide) (Nat.zero_le _) (Nat.zero_le _) ⟨_, rfl, ?_, rfl⟩
    unfold md_old
    rw [if_pos hc]
  · refine qx_iconst C d_D_isOld_20 (v := iI (1)) rfl ?_
    refine qx_goto C d_D_isOld_21 (tgt := 25) (by decide) ?_
    refine qx_zret C d_D_isOld_25 (by decide) (Nat.zero_le _) (Nat.zero_le _) ⟨_, rfl, ?_, rfl⟩
    unfold md_old
    rw [if_neg hc]
theorem md_reach_5 {A : md_A} {k : Nat} {s mark : Int} (hs : 0 ≤ s ∧ s < 5) : ∀ n : Nat, n ≤ 5 → set5 (md_reach A k s mark n)
  | 0, _ => set5_one hs.1 hs.2
  | n + 1, h => by
    rw [md_reach_s]
    refine set5_or (md_reach_5 hs n (by omega)) ?_
    split
    · omega
    · exact set5_one (by omega) (by omega)
set_option maxRecDepth 100000 in
theorem m_having (l : Launch) (G : qh_G) (b : Nat) {o : Nat} {ad : Nat → Nat} {iv : Nat → Option Nat} (I : md_I o ad iv) (g : qh_H) {A : md_A} (hA : md_r A) {s i : Int} (hs : 0 ≤ s ∧ s < 5) (hi : rng i) (d : Nat) : qj l y_D_having c_D_having 5 (some .int) d 0 0 G b [.ref o, .int (iI s), .int (iI i)] (md_h G o ad iv g A) (md_reach A 18 s i 5) (md_h G o ad iv g A) := by
  refine qx_of (lo := [some (.ref o), some (.int (iI s)), some (.int (iI i)), none, none]) (by decide) (fun w hw => List.mem_cons_of_mem _ hw) rfl (Nat.le_of_ble_eq_true rfl) rfl ?_
  intro X C
  have L : ∀ (r j : Nat) (f q : Int), j + r = 5 → f = md_reach A 18 s i j → q = j → X 7 [some (.ref o), some (.int (iI s)), some (.int (iI i)), some (.int (iI f)), some (.int (iI q))] [] (md_h G o ad iv g A) 0 0 := by
    intro r
    induction r with
    | zero =>
      intro j f q hj hf hq
      refine qx_iload C d_D_having_7 rfl ?_
      refine qx_iconst C d_D_having_9 (v := iI (5)) rfl ?_
      refine nx_icmp_ge C 45 d_D_having_10 (by decide) (by omega) (by omega) (fun hc => ?_) (fun hc => ?_)
      · refine qx_iload_n C d_D_having_45 rfl rfl ?_
        refine qx_iret C d_D_having_46 (Nat.zero_le _) (Nat.zero_le _) ⟨_, rfl, ?_, rfl⟩
        rw [hf, show j = 5 by omega]
      · exact absurd hc (by omega)
    | succ r ih =>
      intro j f q hj hf hq
      have h1 := hA 18 (5 * s + q)
      have h5 := md_reach_5 (A := A) (k := 18) (mark := i) hs j (by omega)
      rw [← hf] at h5
      have h6 := set5_one (k := q) (by omega) (by omega)
      refine qx_iload C d_D_having_7 rfl ?_
      refine qx_iconst C d_D_having_9 (v := iI (5)) rfl ?_
      refine nx_icmp_ge C 45 d_D_having_10 (by decide) (by omega) (by omega) (fun hc => ?_) (fun hc => ?_)
      · exact absurd hc (by omega)
      · refine qx_iload_n C d_D_having_13 rfl rfl ?_
        refine qx_aload_n C d_D_having_14 rfl rfl ?_
        refine mx_gi C d_D_having_15 fl_D_62 rfl ?_
        refine qx_iconst C d_D_having_18 (v := iI (5)) rfl ?_
        refine qx_iload_n C d_D_having_19 rfl rfl ?_
        refine nx_imul C d_D_having_20 ?_
        refine qx_iload C d_D_having_21 rfl ?_
        refine nx_iadd C d_D_having_23 ?_
        refine mx_ia C I 18 25 d_D_having_24 (by unfold md_a; omega) rfl rfl (by omega) (by omega) ?_
        refine qx_iload_n C d_D_having_25 rfl rfl ?_
        refine nx_icmp_lt C 36 d_D_having_26 (by decide) (by omega) (by omega) (fun h2 => ?_) (fun h2 => ?_)
        · refine qx_iconst C d_D_having_36 (v := iI (0)) rfl ?_
          refine nx_ior C d_D_having_37 (by omega) (by omega) ?_
          refine nx_istore_n C d_D_having_38 rfl (Nat.le_of_ble_eq_true rfl) (lo' := [_, _, _, some (.int _), _]) rfl ?_
          refine nx_iinc C d_D_having_39 rfl (lo' := [_, _, _, _, some (.int _)]) rfl ?_
          refine qx_goto C d_D_having_42 (tgt := 7) (by decide) ?_
          exact ih (j + 1) _ _ (by omega) (by rw [md_reach_s, ← hq, if_pos h2, ← hf]) (by omega)
        · refine qx_iconst C d_D_having_29 (v := iI (1)) rfl ?_
          refine qx_iload C d_D_having_30 rfl ?_
          refine nx_ishl1 C d_D_having_32 (by omega) ?_
          refine qx_goto C d_D_having_33 (tgt := 37) (by decide) ?_
          refine nx_ior C d_D_having_37 (by omega) (by omega) ?_
          refine nx_istore_n C d_D_having_38 rfl (Nat.le_of_ble_eq_true rfl) (lo' := [_, _, _, some (.int _), _]) rfl ?_
          refine nx_iinc C d_D_having_39 rfl (lo' := [_, _, _, _, some (.int _)]) rfl ?_
          refine qx_goto C d_D_having_42 (tgt := 7) (by decide) ?_
          exact ih (j + 1) _ _ (by omega) (by rw [md_reach_s, ← hq, if_neg h2, ← hf]) (by omega)
  refine qx_iconst C d_D_having_0 (v := iI (1)) rfl ?_
  refine qx_iload_n C d_D_having_1 rfl rfl ?_
  refine nx_ishl1 C d_D_having_2 (by omega) ?_
  refine nx_istore_n C d_D_having_3 rfl (Nat.le_of_ble_eq_true rfl) (lo' := [_, _, _, some (.int _), _]) rfl ?_
  refine qx_iconst C d_D_having_4 (v := iI (0)) rfl ?_
  refine nx_istore C d_D_having_5 (Nat.le_of_ble_eq_true rfl) (lo' := [_, _, _, _, some (.int _)]) rfl ?_
  exact L 5 0 _ _ (by omega) rfl (by omega)
end
section
/-! the reference: what it writes -/
/-- the places from lo to hi of one array anew -/
def md_w (A : md_A) (k : Nat) (lo hi : Int) (f : Int → Int) : md_A := fun j x => if j = k ∧ lo ≤ x ∧ x < hi then f x else A j x
theorem md_w_0 (A : md_A) (k : Nat) (lo : Int) (f : Int → Int) : md_w A k lo lo f = A := by
  funext j x
  exact if_neg (by omega)
theorem md_w_s (A : md_A) (k : Nat) {lo hi : Int} (f : Int → Int) {v : Int} (h : lo ≤ hi) (hv : v = f hi) : md_u (md_w A k lo hi f) k hi v = md_w A k lo (hi + 1) f := by
  funext j x
  unfold md_u md_w
  by_cases h1 : j = k ∧ x = hi
  · obtain ⟨rfl, rfl⟩ := h1
    rw [if_pos ⟨rfl, rfl⟩, if_pos (by omega), hv]
  · rw [if_neg h1]
    by_cases h2 : j = k ∧ lo ≤ x ∧ x < hi
    · rw [if_pos h2, if_pos (by omega)]
    · rw [if_neg h2, if_neg (by omega)]
theorem md_w_k (A : md_A) (k : Nat) {lo hi : Int} (f : Int → Int) (hf : f hi = A k hi) : md_w A k lo (hi + 1) f = md_w A k lo hi f := by
  funext j x
  unfold md_w
  by_cases h2 : j = k ∧ lo ≤ x ∧ x < hi
  · rw [if_pos h2, if_pos (by omega)]
  · rw [if_neg h2]
    by_cases h1 : j = k ∧ lo ≤ x ∧ x < hi + 1
    · rw [if_pos h1]
      obtain ⟨rfl, h3, h4⟩ := h1
      rw [show x = hi by omega, hf]
    · rw [if_neg h1]
theorem md_wk {A : md_A} {k j : Nat} {lo hi x : Int} {f : Int → Int} (h : j ≠ k) : md_w A k lo hi f j x = A j x := if_neg (fun q => h q.1)
theorem md_wo {A : md_A} {k j : Nat} {lo hi x : Int} {f : Int → Int} (h : x < lo ∨ hi ≤ x) : md_w A k lo hi f j x = A j x := if_neg (fun q => by omega)
theorem md_wi {A : md_A} {k : Nat} {lo hi x : Int} {f : Int → Int} (h : lo ≤ x ∧ x < hi) : md_w A k lo hi f k x = f x := if_pos ⟨rfl, h⟩
def md_push (A : md_A) (s t so ke va : Int) : md_A := md_u (md_u (md_u (md_u (md_u A 9 (48 * s + A 8 s) t) 10 (48 * s + A 8 s) so) 11 (48 * s + A 8 s) ke) 12 (48 * s + A 8 s) va) 8 s (A 8 s + 1)
def md_begin (A : md_A) (kind fr to t : Int) : md_A := md_u (md_u (md_u (md_u (md_w A 29 0 20 (fun _ => 0)) 29 0 kind) 29 1 fr) 29 2 to) 29 3 t
def md_post (A : md_A) : md_A := if A 27 0 = 48 then A else md_u (md_w A 28 (20 * A 27 0) (20 * A 27 0 + 20) (fun x => A 29 (x - 20 * A 27 0))) 27 0 (A 27 0 + 1)
def md_reply (A : md_A) (kind fr to good t : Int) : md_A := md_post (md_u (md_begin A kind fr to t) 29 6 (if good = 0 then 0 else 1))
def md_result (A : md_A) (fr to good i r : Int) : md_A := md_post (md_u (md_u (md_u (md_begin A 5 fr to (A 2 fr)) 29 4 i) 29 6 (if good = 0 then 0 else 1)) 29 9 r)
def md_follow (A : md_A) (s : Int) : md_A := if A 13 s = 3 then md_w (md_u A 13 s 0) 25 0 (A 21 0) (fun x => if A 22 x = s ∧ A 25 x = 0 then 2 else A 25 x) else md_u A 13 s 0
def md_newTerm (A : md_A) (s t : Int) : md_A := md_follow (md_u (md_u A 2 s t) 3 s (-1)) s
def md_take (A : md_A) (k : Int) : md_A := md_u (md_w A 28 (20 * k) (20 * A 27 0 - 20) (fun x => A 28 (x + 20))) 27 0 (A 27 0 - 1)
def md_sh (A : md_A) (lo : Int) (n : Nat) (gone : Int) : md_A := fun j x => if (j = 9 ∨ j = 10 ∨ j = 11 ∨ j = 12) ∧ lo ≤ x ∧ x < lo + n then A j (x + gone) else A j x
def md_shift (A : md_A) (s i : Int) : md_A := md_u (md_sh A (48 * s) (A 8 s - (i - A 4 s)).toNat (i - A 4 s)) 8 s (A 8 s - (i - A 4 s))
def md_lies (A : md_A) (i t s : Int) : Int := if t < md_termAt A s (md_last A s) ∨ (t = md_termAt A s (md_last A s) ∧ i < md_last A s) then 1 else 0
theorem md_sh_0 (A : md_A) (lo gone : Int) : md_sh A lo 0 gone = A := by
  funext j x
  exact if_neg (by omega)
theorem md_sh_r {A : md_A} {lo gone : Int} {n : Nat} {j : Nat} {x : Int} (h : lo + n ≤ x) : md_sh A lo n gone j x = A j x := if_neg (by omega)
theorem md_sh_s (A : md_A) (lo gone : Int) (n : Nat) {p : Int} (hp : p = lo + n) : md_u (md_u (md_u (md_u (md_sh A lo n gone) 9 p (A 9 (p + gone))) 10 p (A 10 (p + gone))) 11 p (A 11 (p + gone))) 12 p (A 12 (p + gone)) = md_sh A lo (n + 1) gone := by
  subst hp
  funext j x
  by_cases hx : x = lo + n
  · subst hx
    by_cases h9 : j = 9
    · subst h9; rw [md_uk (by decide), md_uk (by decide), md_uk (by decide), md_us]; exact (if_pos (by omega)).symm
    by_cases h10 : j = 10
    · subst h10; rw [md_uk (by decide), md_uk (by decide), md_us]; exact (if_pos (by omega)).symm
    by_cases h11 : j = 11
    · subst h11; rw [md_uk (by decide), md_us]; exact (if_pos (by omega)).symm
    by_cases h12 : j = 12
    · subst h12; rw [md_us]; exact (if_pos (by omega)).symm
    rw [md_uk h12, md_uk h11, md_uk h10, md_uk h9]
    unfold md_sh
    rw [if_neg (by omega), if_neg (by omega)]
  · rw [md_ui hx, md_ui hx, md_ui hx, md_ui hx]
    unfold md_sh
    by_cases h2 : (j = 9 ∨ j = 10 ∨ j = 11 ∨ j = 12) ∧ lo ≤ x ∧ x < lo + n
    · rw [if_pos h2, if_pos (by omega)]
    · rw [if_neg h2, if_neg (by omega)]
set_option maxRecDepth 100000 in
theorem m_push (l : Launch) (G : qh_G) (b : Nat) {o : Nat} {ad : Nat → Nat} {iv : Nat → Option Nat} (I : md_I o ad iv) (g : qh_H) {A : md_A} {s t so ke va : Int} (hs : 0 ≤ s ∧ s < 5) (hz : 0 ≤ A 8 s ∧ A 8 s < 48) (d : Nat) : qv l y_D_push c_D_push 7 none d 0 0 G b [.ref o, .int (iI s), .int (iI t), .int (iI so), .int (iI ke), .int (iI va)] (md_h G o ad iv g A) (md_h G o ad iv g (md_push A s t so ke va)) := by
  refine qx_of (lo := [some (.ref o), some (.int (iI s)), some (.int (iI t)), some (.int (iI so)), some (.int (iI ke)), some (.int (iI va)), none]) (by decide) (fun w hw => List.mem_cons_of_mem _ hw) rfl (Nat.le_of_ble_eq_true rfl) rfl ?_
  intro X C
  refine qx_bipush C d_D_push_0 (v := iI (48)) (by decide) ?_
  refine qx_iload_n C d_D_push_2 rfl rfl ?_
  refine nx_imul C d_D_push_3 ?_
  refine qx_aload_n C d_D_push_4 rfl rfl ?_
  refine mx_gi C d_D_push_5 fl_D_32 rfl ?_
  refine qx_iload_n C d_D_push_8 rfl rfl ?_
  refine mx_ia C I 8 5 d_D_push_9 (by unfold md_a; omega) rfl rfl (by omega) (by omega) ?_
  refine nx_iadd C d_D_push_10 ?_
  refine nx_istore C d_D_push_11 (Nat.le_of_ble_eq_true rfl) (lo' := [_, _, _, _, _, _, some (.int _)]) rfl ?_
  refine qx_aload_n C d_D_push_13 rfl rfl ?_
  refine mx_gi C d_D_push_14 fl_D_35 rfl ?_
  refine qx_iload C d_D_push_17 rfl ?_
  refine qx_iload_n C d_D_push_19 rfl rfl ?_
  refine mx_is C I 9 240 d_D_push_20 (by unfold md_a; omega) rfl rfl (by omega) (by omega) ?_
  refine qx_aload_n C d_D_push_21 rfl rfl ?_
  refine mx_gi C d_D_push_22 fl_D_38 rfl ?_
  refine qx_iload C d_D_push_25 rfl ?_
  refine qx_iload_n C d_D_push_27 rfl rfl ?_
  refine mx_is C I 10 240 d_D_push_28 (by unfold md_a; omega) rfl rfl (by omega) (by omega) ?_
  refine qx_aload_n C d_D_push_29 rfl rfl ?_
  refine mx_gi C d_D_push_30 fl_D_41 rfl ?_
  refine qx_iload C d_D_push_33 rfl ?_
  refine qx_iload C d_D_push_35 rfl ?_
  refine mx_is C I 11 240 d_D_push_37 (by unfold md_a; omega) rfl rfl (by omega) (by omega) ?_
  refine qx_aload_n C d_D_push_38 rfl rfl ?_
  refine mx_gi C d_D_push_39 fl_D_44 rfl ?_
  refine qx_iload C d_D_push_42 rfl ?_
  refine qx_iload C d_D_push_44 rfl ?_
  refine mx_is C I 12 240 d_D_push_46 (by unfold md_a; omega) rfl rfl (by omega) (by omega) ?_
  refine qx_aload_n C d_D_push_47 rfl rfl ?_
  refine mx_gi C d_D_push_48 fl_D_32 rfl ?_
  refine qx_iload_n C d_D_push_51 rfl rfl ?_
  refine qx_dup2 C d_D_push_52 rfl rfl ?_
  refine mx_ia C I 8 5 d_D_push_53 (by unfold md_a; omega) rfl rfl (by omega) (by omega) ?_
  refine qx_iconst C d_D_push_54 (v := iI (1)) rfl ?_
  refine nx_iadd C d_D_push_55 ?_
  refine mx_is C I 8 5 d_D_push_56 (by unfold md_a; omega) rfl rfl (by omega) (by omega) ?_
  exact qx_vret C d_D_push_57 (Nat.zero_le _) (Nat.zero_le _) ⟨rfl, rfl⟩
set_option maxRecDepth 100000 in
theorem m_begin (l : Launch) (G : qh_G) (b : Nat) {o : Nat} {ad : Nat → Nat} {iv : Nat → Option Nat} (I : md_I o ad iv) (g : qh_H) (A : md_A) {kind fr to t : Int} (d : Nat) : qv l y_D_begin c_D_begin 6 none d 0 0 G b [.ref o, .int (iI kind), .int (iI fr), .int (iI to), .int (iI t)] (md_h G o ad iv g A) (md_h G o ad iv g (md_begin A kind fr to t)) := by
  refine qx_of (lo := [some (.ref o), some (.int (iI kind)), some (.int (iI fr)), some (.int (iI to)), some (.int (iI t)), none]) (by decide) (fun w hw => List.mem_cons_of_mem _ hw) rfl (Nat.le_of_ble_eq_true rfl) rfl ?_
  intro X C
  have L : ∀ (r : Nat) (q : Int) (B : md_A), q + r = 20 → 0 ≤ q → B = md_w A 29 0 q (fun _ => 0) → X 3 [some (.ref o), some (.int (iI kind)), some (.int (iI fr)), some (.int (iI to)), some (.int (iI t)), some (.int (iI q))] [] (md_h G o ad iv g B) 0 0 := by
    intro r
    induction r with
    | zero =>
      intro q B hq h0 hB
      refine qx_iload C d_D_begin_3 rfl ?_
      refine qx_bipush C d_D_begin_5 (v := iI (20)) (by decide) ?_
      refine nx_icmp_ge C 24 d_D_begin_7 (by decide) (by omega) (by omega) (fun hc => ?_) (fun hc => ?_)
      · refine qx_aload_n C d_D_begin_24 rfl rfl ?_
        refine mx_gi C d_D_begin_25 fl_D_89 rfl ?_
        refine qx_iconst C d_D_begin_28 (v := iI (0)) rfl ?_
        refine qx_iload_n C d_D_begin_29 rfl rfl ?_
        refine mx_is C I 29 20 d_D_begin_30 (by unfold md_a; omega) rfl rfl (by omega) (by omega) ?_
        refine qx_aload_n C d_D_begin_31 rfl rfl ?_
        refine mx_gi C d_D_begin_32 fl_D_89 rfl ?_
        refine qx_iconst C d_D_begin_35 (v := iI (1)) rfl ?_
        refine qx_iload_n C d_D_begin_36 rfl rfl ?_
        refine mx_is C I 29 20 d_D_begin_37 (by unfold md_a; omega) rfl rfl (by omega) (by omega) ?_
        refine qx_aload_n C d_D_begin_38 rfl rfl ?_
        refine mx_gi C d_D_begin_39 fl_D_89 rfl ?_
        refine qx_iconst C d_D_begin_42 (v := iI (2)) rfl ?_
        refine qx_iload_n C d_D_begin_43 rfl rfl ?_
        refine mx_is C I 29 20 d_D_begin_44 (by unfold md_a; omega) rfl rfl (by omega) (by omega) ?_
        refine qx_aload_n C d_D_begin_45 rfl rfl ?_
        refine mx_gi C d_D_begin_46 fl_D_89 rfl ?_
        refine qx_iconst C d_D_begin_49 (v := iI (3)) rfl ?_
        refine qx_iload C d_D_begin_50 rfl ?_
        refine mx_is C I 29 20 d_D_begin_52 (by unfold md_a; omega) rfl rfl (by omega) (by omega) ?_
        refine qx_vret C d_D_begin_53 (Nat.zero_le _) (Nat.zero_le _) ⟨rfl, ?_⟩
        rw [hB, show q = 20 by omega]
        rfl
      · exact absurd hc (by omega)
    | succ r ih =>
      intro q B hq h0 hB
      refine qx_iload C d_D_begin_3 rfl ?_
      refine qx_bipush C d_D_begin_5 (v := iI (20)) (by decide) ?_
      refine nx_icmp_ge C 24 d_D_begin_7 (by decide) (by omega) (by omega) (fun hc => ?_) (fun hc => ?_)
      · exact absurd hc (by omega)
      · refine qx_aload_n C d_D_begin_10 rfl rfl ?_
        refine mx_gi C d_D_begin_11 fl_D_89 rfl ?_
        refine qx_iload C d_D_begin_14 rfl ?_
        refine qx_iconst C d_D_begin_16 (v := iI (0)) rfl ?_
        refine mx_is C I 29 20 d_D_begin_17 (by unfold md_a; omega) rfl rfl (by omega) (by omega) ?_
        refine nx_iinc C d_D_begin_18 rfl (lo' := [_, _, _, _, _, some (.int _)]) rfl ?_
        refine qx_goto C d_D_begin_21 (tgt := 3) (by decide) ?_
        exact ih _ _ (by omega) (by omega) (by rw [hB]; exact md_w_s A 29 _ h0 rfl)
  refine qx_iconst C d_D_begin_0 (v := iI (0)) rfl ?_
  refine nx_istore C d_D_begin_1 (Nat.le_of_ble_eq_true rfl) (lo' := [_, _, _, _, _, some (.int _)]) rfl ?_
  exact L 20 0 _ (by omega) (by omega) (md_w_0 A 29 0 _).symm
set_option maxRecDepth 100000 in
theorem m_post (l : Launch) (G : qh_G) (b : Nat) {o : Nat} {ad : Nat → Nat} {iv : Nat → Option Nat} (I : md_I o ad iv) (g : qh_H) {A : md_A} (hw : 0 ≤ A 27 0 ∧ A 27 0 ≤ 48) (d : Nat) : qv l y_D_post c_D_post 2 none d 0 0 G b [.ref o] (md_h G o ad iv g A) (md_h G o ad iv g (md_post A)) := by
  refine qx_of (lo := [some (.ref o), none]) (by decide) (fun w hw => List.mem_cons_of_mem _ hw) rfl (Nat.le_of_ble_eq_true rfl) rfl ?_
  intro X C
  refine qx_aload_n C d_D_post_0 rfl rfl ?_
  refine mx_gi C d_D_post_1 fl_D_119 rfl ?_
  refine qx_bipush C d_D_post_4 (v := iI (48)) (by decide) ?_
  refine nx_icmp_ne C 10 d_D_post_6 (by decide) (by omega) (by omega) (fun hc => ?_) (fun hc => ?_)
  · have L : ∀ (r : Nat) (q : Int) (B : md_A), q + r = 20 → 0 ≤ q → B = md_w A 28 (20 * A 27 0) (20 * A 27 0 + q) (fun x => A 29 (x - 20 * A 27 0)) → X 12 [some (.ref o), some (.int (iI q))] [] (md_h G o ad iv g B) 0 0 := by
      intro r
      induction r with
      | zero =>
        intro q B hq h0 hB
        have e1 : B 27 0 = A 27 0 := by rw [hB]; exact md_wk (by decide)
        refine qx_iload_n C d_D_post_12 rfl rfl ?_
        refine qx_bipush C d_D_post_13 (v := iI (20)) (by decide) ?_
        refine nx_icmp_ge C 44 d_D_post_15 (by decide) (by omega) (by omega) (fun h1 => ?_) (fun h1 => ?_)
        · refine qx_aload_n C d_D_post_44 rfl rfl ?_
          refine qx_dup C d_D_post_45 rfl ?_
          refine mx_gi C d_D_post_46 fl_D_119 rfl ?_
          refine qx_iconst C d_D_post_49 (v := iI (1)) rfl ?_
          refine nx_iadd C d_D_post_50 ?_
          refine mx_pi C I d_D_post_51 fp_D_119 (by decide) ?_
          refine qx_vret C d_D_post_54 (Nat.zero_le _) (Nat.zero_le _) ⟨rfl, ?_⟩
          unfold md_post
          rw [if_neg hc, e1, hB, show q = 20 by omega]
        · exact absurd h1 (by omega)
      | succ r ih =>
        intro q B hq h0 hB
        have e1 : B 27 0 = A 27 0 := by rw [hB]; exact md_wk (by decide)
        have e2 : B 29 q = A 29 q := by rw [hB]; exact md_wk (by decide)
        refine qx_iload_n C d_D_post_12 rfl rfl ?_
        refine qx_bipush C d_D_post_13 (v := iI (20)) (by decide) ?_
        refine nx_icmp_ge C 44 d_D_post_15 (by decide) (by omega) (by omega) (fun h1 => ?_) (fun h1 => ?_)
        · exact absurd h1 (by omega)
        · refine qx_aload_n C d_D_post_18 rfl rfl ?_
          refine mx_gi C d_D_post_19 fl_D_86 rfl ?_
          refine qx_bipush C d_D_post_22 (v := iI (20)) (by decide) ?_
          refine qx_aload_n C d_D_post_24 rfl rfl ?_
          refine mx_gi C d_D_post_25 fl_D_119 rfl ?_
          refine nx_imul C d_D_post_28 ?_
          refine qx_iload_n C d_D_post_29 rfl rfl ?_
          refine nx_iadd C d_D_post_30 ?_
          refine qx_aload_n C d_D_post_31 rfl rfl ?_
          refine mx_gi C d_D_post_32 fl_D_89 rfl ?_
          refine qx_iload_n C d_D_post_35 rfl rfl ?_
          refine mx_ia C I 29 20 d_D_post_36 (by unfold md_a; omega) rfl rfl (by omega) (by omega) ?_
          refine mx_is C I 28 960 d_D_post_37 (by unfold md_a; omega) rfl rfl (by omega) (by omega) ?_
          refine nx_iinc C d_D_post_38 rfl (lo' := [_, some (.int _)]) rfl ?_
          refine qx_goto C d_D_post_41 (tgt := 12) (by decide) ?_
          refine ih _ _ (by omega) (by omega) ?_
          rw [e1, e2, hB, show 20 * A 27 0 + (q + 1) = 20 * A 27 0 + q + 1 by omega]
          exact md_w_s A 28 _ (by omega) (by rw [show 20 * A 27 0 + q - 20 * A 27 0 = q by omega])
    refine qx_iconst C d_D_post_10 (v := iI (0)) rfl ?_
    refine nx_istore_n C d_D_post_11 rfl (Nat.le_of_ble_eq_true rfl) (lo' := [_, some (.int _)]) rfl ?_
    exact L 20 0 _ (by omega) (by omega) (by rw [show 20 * A 27 0 + 0 = 20 * A 27 0 by omega]; exact (md_w_0 A 28 _ _).symm)
  · refine qx_vret C d_D_post_9 (Nat.zero_le _) (Nat.zero_le _) ⟨rfl, ?_⟩
    unfold md_post
    rw [if_pos hc]
end
