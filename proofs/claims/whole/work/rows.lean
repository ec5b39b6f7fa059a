section
-- ===== PART A: goes FIRST, ahead of the names: the tables' words, and 'selects' of the private methods out of them =====
/-- a private method of a class that the tables say can be made, by its rows of tables_1 -/
def lw_okq (q : MethodName × Nat) : Prop := (q.1.cls ≠ "java/lang/invoke/MethodHandle" ∧ q.1.cls ≠ "java/lang/invoke/VarHandle") ∧ Cond.instantiable q.1.cls q.2 ∈ tables_1 ∧ Cond.privateMethod q.1 ∈ tables_1 ∧ Cond.instanceMethod q.1 ∈ tables_1
theorem lw_p0 : lw_okq (⟨"QuorumLog", "askAll", "(LQuorumLog$Server;II)V"⟩, 3) := ⟨⟨by decide +kernel, by decide +kernel⟩, List.mem_of_getElem? (i := 19) (by decide +kernel), List.mem_of_getElem? (i := 283) (by decide +kernel), List.mem_of_getElem? (i := 284) (by decide +kernel)⟩
theorem lw_p1 : lw_okq (⟨"QuorumLog", "standIfMostSaidYes", "(LQuorumLog$Server;)V"⟩, 3) := ⟨⟨by decide +kernel, by decide +kernel⟩, List.mem_of_getElem? (i := 19) (by decide +kernel), List.mem_of_getElem? (i := 306) (by decide +kernel), List.mem_of_getElem? (i := 307) (by decide +kernel)⟩
theorem lw_p2 : lw_okq (⟨"QuorumLog", "leadIfMostSaidYes", "(LQuorumLog$Server;)V"⟩, 3) := ⟨⟨by decide +kernel, by decide +kernel⟩, List.mem_of_getElem? (i := 19) (by decide +kernel), List.mem_of_getElem? (i := 319) (by decide +kernel), List.mem_of_getElem? (i := 320) (by decide +kernel)⟩
theorem lw_p3 : lw_okq (⟨"QuorumLog", "append", "(LQuorumLog$Server;LQuorumLog$Entry;)I"⟩, 3) := ⟨⟨by decide +kernel, by decide +kernel⟩, List.mem_of_getElem? (i := 19) (by decide +kernel), List.mem_of_getElem? (i := 350) (by decide +kernel), List.mem_of_getElem? (i := 351) (by decide +kernel)⟩
theorem lw_p4 : lw_okq (⟨"QuorumLog", "lookAtCommit", "(LQuorumLog$Server;)V"⟩, 3) := ⟨⟨by decide +kernel, by decide +kernel⟩, List.mem_of_getElem? (i := 19) (by decide +kernel), List.mem_of_getElem? (i := 358) (by decide +kernel), List.mem_of_getElem? (i := 359) (by decide +kernel)⟩
theorem lw_p5 : lw_okq (⟨"QuorumLog$Server", "reachedBy", "([II)I"⟩, 13) := ⟨⟨by decide +kernel, by decide +kernel⟩, List.mem_of_getElem? (i := 83) (by decide +kernel), List.mem_of_getElem? (i := 367) (by decide +kernel), List.mem_of_getElem? (i := 368) (by decide +kernel)⟩
theorem lw_p6 : lw_okq (⟨"QuorumLog", "follow", "(LQuorumLog$Server;)V"⟩, 3) := ⟨⟨by decide +kernel, by decide +kernel⟩, List.mem_of_getElem? (i := 19) (by decide +kernel), List.mem_of_getElem? (i := 372) (by decide +kernel), List.mem_of_getElem? (i := 373) (by decide +kernel)⟩
theorem lw_p7 : lw_okq (⟨"QuorumLog", "sendToAll", "(LQuorumLog$Server;)V"⟩, 3) := ⟨⟨by decide +kernel, by decide +kernel⟩, List.mem_of_getElem? (i := 19) (by decide +kernel), List.mem_of_getElem? (i := 384) (by decide +kernel), List.mem_of_getElem? (i := 385) (by decide +kernel)⟩
theorem lw_p8 : lw_okq (⟨"QuorumLog", "sendTo", "(LQuorumLog$Server;I)V"⟩, 3) := ⟨⟨by decide +kernel, by decide +kernel⟩, List.mem_of_getElem? (i := 19) (by decide +kernel), List.mem_of_getElem? (i := 388) (by decide +kernel), List.mem_of_getElem? (i := 389) (by decide +kernel)⟩
theorem lw_p9 : lw_okq (⟨"QuorumLog", "come", "(LQuorumLog$Server;LQuorumLog$Message;)V"⟩, 3) := ⟨⟨by decide +kernel, by decide +kernel⟩, List.mem_of_getElem? (i := 19) (by decide +kernel), List.mem_of_getElem? (i := 454) (by decide +kernel), List.mem_of_getElem? (i := 455) (by decide +kernel)⟩
theorem lw_p10 : lw_okq (⟨"QuorumLog", "enterTerm", "(LQuorumLog$Server;I)V"⟩, 3) := ⟨⟨by decide +kernel, by decide +kernel⟩, List.mem_of_getElem? (i := 19) (by decide +kernel), List.mem_of_getElem? (i := 458) (by decide +kernel), List.mem_of_getElem? (i := 459) (by decide +kernel)⟩
theorem lw_p11 : lw_okq (⟨"QuorumLog", "questionComes", "(LQuorumLog$Server;LQuorumLog$Message;)V"⟩, 3) := ⟨⟨by decide +kernel, by decide +kernel⟩, List.mem_of_getElem? (i := 19) (by decide +kernel), List.mem_of_getElem? (i := 462) (by decide +kernel), List.mem_of_getElem? (i := 463) (by decide +kernel)⟩
theorem lw_p12 : lw_okq (⟨"QuorumLog", "answerComes", "(LQuorumLog$Server;LQuorumLog$Message;)V"⟩, 3) := ⟨⟨by decide +kernel, by decide +kernel⟩, List.mem_of_getElem? (i := 19) (by decide +kernel), List.mem_of_getElem? (i := 471) (by decide +kernel), List.mem_of_getElem? (i := 472) (by decide +kernel)⟩
theorem lw_p13 : lw_okq (⟨"QuorumLog", "callComes", "(LQuorumLog$Server;LQuorumLog$Message;)V"⟩, 3) := ⟨⟨by decide +kernel, by decide +kernel⟩, List.mem_of_getElem? (i := 19) (by decide +kernel), List.mem_of_getElem? (i := 475) (by decide +kernel), List.mem_of_getElem? (i := 476) (by decide +kernel)⟩
theorem lw_p14 : lw_okq (⟨"QuorumLog", "voteComes", "(LQuorumLog$Server;LQuorumLog$Message;)V"⟩, 3) := ⟨⟨by decide +kernel, by decide +kernel⟩, List.mem_of_getElem? (i := 19) (by decide +kernel), List.mem_of_getElem? (i := 479) (by decide +kernel), List.mem_of_getElem? (i := 480) (by decide +kernel)⟩
theorem lw_p15 : lw_okq (⟨"QuorumLog", "appendComes", "(LQuorumLog$Server;LQuorumLog$Message;)V"⟩, 3) := ⟨⟨by decide +kernel, by decide +kernel⟩, List.mem_of_getElem? (i := 19) (by decide +kernel), List.mem_of_getElem? (i := 483) (by decide +kernel), List.mem_of_getElem? (i := 484) (by decide +kernel)⟩
def lw_privs_1 : List (MethodName × Nat) := [(⟨"QuorumLog", "askAll", "(LQuorumLog$Server;II)V"⟩, 3), (⟨"QuorumLog", "standIfMostSaidYes", "(LQuorumLog$Server;)V"⟩, 3), (⟨"QuorumLog", "leadIfMostSaidYes", "(LQuorumLog$Server;)V"⟩, 3), (⟨"QuorumLog", "append", "(LQuorumLog$Server;LQuorumLog$Entry;)I"⟩, 3), (⟨"QuorumLog", "lookAtCommit", "(LQuorumLog$Server;)V"⟩, 3), (⟨"QuorumLog$Server", "reachedBy", "([II)I"⟩, 13), (⟨"QuorumLog", "follow", "(LQuorumLog$Server;)V"⟩, 3), (⟨"QuorumLog", "sendToAll", "(LQuorumLog$Server;)V"⟩, 3), (⟨"QuorumLog", "sendTo", "(LQuorumLog$Server;I)V"⟩, 3), (⟨"QuorumLog", "come", "(LQuorumLog$Server;LQuorumLog$Message;)V"⟩, 3), (⟨"QuorumLog", "enterTerm", "(LQuorumLog$Server;I)V"⟩, 3), (⟨"QuorumLog", "questionComes", "(LQuorumLog$Server;LQuorumLog$Message;)V"⟩, 3), (⟨"QuorumLog", "answerComes", "(LQuorumLog$Server;LQuorumLog$Message;)V"⟩, 3), (⟨"QuorumLog", "callComes", "(LQuorumLog$Server;LQuorumLog$Message;)V"⟩, 3), (⟨"QuorumLog", "voteComes", "(LQuorumLog$Server;LQuorumLog$Message;)V"⟩, 3), (⟨"QuorumLog", "appendComes", "(LQuorumLog$Server;LQuorumLog$Message;)V"⟩, 3)]
theorem lw_r1 : ∀ q ∈ lw_privs_1, lw_okq q := List.forall_mem_cons.mpr ⟨lw_p0, List.forall_mem_cons.mpr ⟨lw_p1, List.forall_mem_cons.mpr ⟨lw_p2, List.forall_mem_cons.mpr ⟨lw_p3, List.forall_mem_cons.mpr ⟨lw_p4, List.forall_mem_cons.mpr ⟨lw_p5, List.forall_mem_cons.mpr ⟨lw_p6, List.forall_mem_cons.mpr ⟨lw_p7, List.forall_mem_cons.mpr ⟨lw_p8, List.forall_mem_cons.mpr ⟨lw_p9, List.forall_mem_cons.mpr ⟨lw_p10, List.forall_mem_cons.mpr ⟨lw_p11, List.forall_mem_cons.mpr ⟨lw_p12, List.forall_mem_cons.mpr ⟨lw_p13, List.forall_mem_cons.mpr ⟨lw_p14, List.forall_mem_cons.mpr ⟨lw_p15, fun _ h => absurd h List.not_mem_nil⟩⟩⟩⟩⟩⟩⟩⟩⟩⟩⟩⟩⟩⟩⟩⟩
theorem lw_p16 : lw_okq (⟨"QuorumLog", "sendResult", "(LQuorumLog$Server;IZII)V"⟩, 3) := ⟨⟨by decide +kernel, by decide +kernel⟩, List.mem_of_getElem? (i := 19) (by decide +kernel), List.mem_of_getElem? (i := 487) (by decide +kernel), List.mem_of_getElem? (i := 488) (by decide +kernel)⟩
theorem lw_p17 : lw_okq (⟨"QuorumLog$Log", "hasOrTakes", "(ILQuorumLog$Entry;)Z"⟩, 3) := ⟨⟨by decide +kernel, by decide +kernel⟩, List.mem_of_getElem? (i := 89) (by decide +kernel), List.mem_of_getElem? (i := 505) (by decide +kernel), List.mem_of_getElem? (i := 506) (by decide +kernel)⟩
theorem lw_p18 : lw_okq (⟨"QuorumLog", "resultComes", "(LQuorumLog$Server;LQuorumLog$Message;)V"⟩, 3) := ⟨⟨by decide +kernel, by decide +kernel⟩, List.mem_of_getElem? (i := 19) (by decide +kernel), List.mem_of_getElem? (i := 514) (by decide +kernel), List.mem_of_getElem? (i := 515) (by decide +kernel)⟩
theorem lw_p19 : lw_okq (⟨"QuorumLog", "lookAtReads", "(LQuorumLog$Server;)V"⟩, 3) := ⟨⟨by decide +kernel, by decide +kernel⟩, List.mem_of_getElem? (i := 19) (by decide +kernel), List.mem_of_getElem? (i := 518) (by decide +kernel), List.mem_of_getElem? (i := 519) (by decide +kernel)⟩
theorem lw_p20 : lw_okq (⟨"QuorumLog", "installComes", "(LQuorumLog$Server;LQuorumLog$Message;)V"⟩, 3) := ⟨⟨by decide +kernel, by decide +kernel⟩, List.mem_of_getElem? (i := 19) (by decide +kernel), List.mem_of_getElem? (i := 532) (by decide +kernel), List.mem_of_getElem? (i := 533) (by decide +kernel)⟩
theorem lw_p21 : lw_okq (⟨"QuorumLog", "leaderFor", "(II)LQuorumLog$Server;"⟩, 3) := ⟨⟨by decide +kernel, by decide +kernel⟩, List.mem_of_getElem? (i := 19) (by decide +kernel), List.mem_of_getElem? (i := 577) (by decide +kernel), List.mem_of_getElem? (i := 578) (by decide +kernel)⟩
theorem lw_p22 : lw_okq (⟨"java/lang/Throwable", "fillInStackTrace", "(I)Ljava/lang/Throwable;"⟩, 6) := ⟨⟨by decide +kernel, by decide +kernel⟩, List.mem_of_getElem? (i := 619) (by decide +kernel), List.mem_of_getElem? (i := 617) (by decide +kernel), List.mem_of_getElem? (i := 618) (by decide +kernel)⟩
theorem lw_p23 : lw_okq (⟨"QuorumLogModel", "isMine", "(I)Z"⟩, 30) := ⟨⟨by decide +kernel, by decide +kernel⟩, List.mem_of_getElem? (i := 712) (by decide +kernel), List.mem_of_getElem? (i := 821) (by decide +kernel), List.mem_of_getElem? (i := 822) (by decide +kernel)⟩
theorem lw_p24 : lw_okq (⟨"QuorumLogModel", "config", "(I)I"⟩, 30) := ⟨⟨by decide +kernel, by decide +kernel⟩, List.mem_of_getElem? (i := 712) (by decide +kernel), List.mem_of_getElem? (i := 825) (by decide +kernel), List.mem_of_getElem? (i := 826) (by decide +kernel)⟩
theorem lw_p25 : lw_okq (⟨"QuorumLogModel", "last", "(I)I"⟩, 30) := ⟨⟨by decide +kernel, by decide +kernel⟩, List.mem_of_getElem? (i := 712) (by decide +kernel), List.mem_of_getElem? (i := 829) (by decide +kernel), List.mem_of_getElem? (i := 830) (by decide +kernel)⟩
theorem lw_p26 : lw_okq (⟨"QuorumLogModel", "membersAt", "(II)I"⟩, 30) := ⟨⟨by decide +kernel, by decide +kernel⟩, List.mem_of_getElem? (i := 712) (by decide +kernel), List.mem_of_getElem? (i := 833) (by decide +kernel), List.mem_of_getElem? (i := 834) (by decide +kernel)⟩
theorem lw_p27 : lw_okq (⟨"QuorumLogModel", "latestMembers", "(II)I"⟩, 30) := ⟨⟨by decide +kernel, by decide +kernel⟩, List.mem_of_getElem? (i := 712) (by decide +kernel), List.mem_of_getElem? (i := 837) (by decide +kernel), List.mem_of_getElem? (i := 838) (by decide +kernel)⟩
theorem lw_p28 : lw_okq (⟨"QuorumLogModel", "cell", "(II)I"⟩, 30) := ⟨⟨by decide +kernel, by decide +kernel⟩, List.mem_of_getElem? (i := 712) (by decide +kernel), List.mem_of_getElem? (i := 841) (by decide +kernel), List.mem_of_getElem? (i := 842) (by decide +kernel)⟩
theorem lw_p29 : lw_okq (⟨"QuorumLogModel", "askAll", "(III)V"⟩, 30) := ⟨⟨by decide +kernel, by decide +kernel⟩, List.mem_of_getElem? (i := 712) (by decide +kernel), List.mem_of_getElem? (i := 845) (by decide +kernel), List.mem_of_getElem? (i := 846) (by decide +kernel)⟩
theorem lw_p30 : lw_okq (⟨"QuorumLogModel", "begin", "(IIII)V"⟩, 30) := ⟨⟨by decide +kernel, by decide +kernel⟩, List.mem_of_getElem? (i := 712) (by decide +kernel), List.mem_of_getElem? (i := 849) (by decide +kernel), List.mem_of_getElem? (i := 850) (by decide +kernel)⟩
theorem lw_p31 : lw_okq (⟨"QuorumLogModel", "lastTerm", "(I)I"⟩, 30) := ⟨⟨by decide +kernel, by decide +kernel⟩, List.mem_of_getElem? (i := 712) (by decide +kernel), List.mem_of_getElem? (i := 853) (by decide +kernel), List.mem_of_getElem? (i := 854) (by decide +kernel)⟩
def lw_privs_2 : List (MethodName × Nat) := [(⟨"QuorumLog", "sendResult", "(LQuorumLog$Server;IZII)V"⟩, 3), (⟨"QuorumLog$Log", "hasOrTakes", "(ILQuorumLog$Entry;)Z"⟩, 3), (⟨"QuorumLog", "resultComes", "(LQuorumLog$Server;LQuorumLog$Message;)V"⟩, 3), (⟨"QuorumLog", "lookAtReads", "(LQuorumLog$Server;)V"⟩, 3), (⟨"QuorumLog", "installComes", "(LQuorumLog$Server;LQuorumLog$Message;)V"⟩, 3), (⟨"QuorumLog", "leaderFor", "(II)LQuorumLog$Server;"⟩, 3), (⟨"java/lang/Throwable", "fillInStackTrace", "(I)Ljava/lang/Throwable;"⟩, 6), (⟨"QuorumLogModel", "isMine", "(I)Z"⟩, 30), (⟨"QuorumLogModel", "config", "(I)I"⟩, 30), (⟨"QuorumLogModel", "last", "(I)I"⟩, 30), (⟨"QuorumLogModel", "membersAt", "(II)I"⟩, 30), (⟨"QuorumLogModel", "latestMembers", "(II)I"⟩, 30), (⟨"QuorumLogModel", "cell", "(II)I"⟩, 30), (⟨"QuorumLogModel", "askAll", "(III)V"⟩, 30), (⟨"QuorumLogModel", "begin", "(IIII)V"⟩, 30), (⟨"QuorumLogModel", "lastTerm", "(I)I"⟩, 30)]
theorem lw_r2 : ∀ q ∈ lw_privs_2, lw_okq q := List.forall_mem_cons.mpr ⟨lw_p16, List.forall_mem_cons.mpr ⟨lw_p17, List.forall_mem_cons.mpr ⟨lw_p18, List.forall_mem_cons.mpr ⟨lw_p19, List.forall_mem_cons.mpr ⟨lw_p20, List.forall_mem_cons.mpr ⟨lw_p21, List.forall_mem_cons.mpr ⟨lw_p22, List.forall_mem_cons.mpr ⟨lw_p23, List.forall_mem_cons.mpr ⟨lw_p24, List.forall_mem_cons.mpr ⟨lw_p25, List.forall_mem_cons.mpr ⟨lw_p26, List.forall_mem_cons.mpr ⟨lw_p27, List.forall_mem_cons.mpr ⟨lw_p28, List.forall_mem_cons.mpr ⟨lw_p29, List.forall_mem_cons.mpr ⟨lw_p30, List.forall_mem_cons.mpr ⟨lw_p31, fun _ h => absurd h List.not_mem_nil⟩⟩⟩⟩⟩⟩⟩⟩⟩⟩⟩⟩⟩⟩⟩⟩
theorem lw_p32 : lw_okq (⟨"QuorumLogModel", "termAt", "(II)I"⟩, 30) := ⟨⟨by decide +kernel, by decide +kernel⟩, List.mem_of_getElem? (i := 712) (by decide +kernel), List.mem_of_getElem? (i := 857) (by decide +kernel), List.mem_of_getElem? (i := 858) (by decide +kernel)⟩
theorem lw_p33 : lw_okq (⟨"QuorumLogModel", "post", "()V"⟩, 30) := ⟨⟨by decide +kernel, by decide +kernel⟩, List.mem_of_getElem? (i := 712) (by decide +kernel), List.mem_of_getElem? (i := 861) (by decide +kernel), List.mem_of_getElem? (i := 862) (by decide +kernel)⟩
theorem lw_p34 : lw_okq (⟨"QuorumLogModel", "weigh", "(I)V"⟩, 30) := ⟨⟨by decide +kernel, by decide +kernel⟩, List.mem_of_getElem? (i := 712) (by decide +kernel), List.mem_of_getElem? (i := 865) (by decide +kernel), List.mem_of_getElem? (i := 866) (by decide +kernel)⟩
theorem lw_p35 : lw_okq (⟨"QuorumLogModel", "most", "(II)Z"⟩, 30) := ⟨⟨by decide +kernel, by decide +kernel⟩, List.mem_of_getElem? (i := 712) (by decide +kernel), List.mem_of_getElem? (i := 869) (by decide +kernel), List.mem_of_getElem? (i := 870) (by decide +kernel)⟩
theorem lw_p36 : lw_okq (⟨"QuorumLogModel", "lead", "(I)V"⟩, 30) := ⟨⟨by decide +kernel, by decide +kernel⟩, List.mem_of_getElem? (i := 712) (by decide +kernel), List.mem_of_getElem? (i := 876) (by decide +kernel), List.mem_of_getElem? (i := 877) (by decide +kernel)⟩
theorem lw_p37 : lw_okq (⟨"QuorumLogModel", "append", "(IIII)I"⟩, 30) := ⟨⟨by decide +kernel, by decide +kernel⟩, List.mem_of_getElem? (i := 712) (by decide +kernel), List.mem_of_getElem? (i := 880) (by decide +kernel), List.mem_of_getElem? (i := 881) (by decide +kernel)⟩
theorem lw_p38 : lw_okq (⟨"QuorumLogModel", "push", "(IIIII)V"⟩, 30) := ⟨⟨by decide +kernel, by decide +kernel⟩, List.mem_of_getElem? (i := 712) (by decide +kernel), List.mem_of_getElem? (i := 884) (by decide +kernel), List.mem_of_getElem? (i := 885) (by decide +kernel)⟩
theorem lw_p39 : lw_okq (⟨"QuorumLogModel", "lookAtCommit", "(I)V"⟩, 30) := ⟨⟨by decide +kernel, by decide +kernel⟩, List.mem_of_getElem? (i := 712) (by decide +kernel), List.mem_of_getElem? (i := 888) (by decide +kernel), List.mem_of_getElem? (i := 889) (by decide +kernel)⟩
theorem lw_p40 : lw_okq (⟨"QuorumLogModel", "having", "(II)I"⟩, 30) := ⟨⟨by decide +kernel, by decide +kernel⟩, List.mem_of_getElem? (i := 712) (by decide +kernel), List.mem_of_getElem? (i := 892) (by decide +kernel), List.mem_of_getElem? (i := 893) (by decide +kernel)⟩
theorem lw_p41 : lw_okq (⟨"QuorumLogModel", "follow", "(I)V"⟩, 30) := ⟨⟨by decide +kernel, by decide +kernel⟩, List.mem_of_getElem? (i := 712) (by decide +kernel), List.mem_of_getElem? (i := 896) (by decide +kernel), List.mem_of_getElem? (i := 897) (by decide +kernel)⟩
theorem lw_p42 : lw_okq (⟨"QuorumLogModel", "sendAll", "(I)V"⟩, 30) := ⟨⟨by decide +kernel, by decide +kernel⟩, List.mem_of_getElem? (i := 712) (by decide +kernel), List.mem_of_getElem? (i := 900) (by decide +kernel), List.mem_of_getElem? (i := 901) (by decide +kernel)⟩
theorem lw_p43 : lw_okq (⟨"QuorumLogModel", "sendTo", "(II)V"⟩, 30) := ⟨⟨by decide +kernel, by decide +kernel⟩, List.mem_of_getElem? (i := 712) (by decide +kernel), List.mem_of_getElem? (i := 904) (by decide +kernel), List.mem_of_getElem? (i := 905) (by decide +kernel)⟩
theorem lw_p44 : lw_okq (⟨"QuorumLogModel", "leads", "(I)Z"⟩, 30) := ⟨⟨by decide +kernel, by decide +kernel⟩, List.mem_of_getElem? (i := 712) (by decide +kernel), List.mem_of_getElem? (i := 912) (by decide +kernel), List.mem_of_getElem? (i := 913) (by decide +kernel)⟩
theorem lw_p45 : lw_okq (⟨"QuorumLogModel", "fail", "(I)I"⟩, 30) := ⟨⟨by decide +kernel, by decide +kernel⟩, List.mem_of_getElem? (i := 712) (by decide +kernel), List.mem_of_getElem? (i := 923) (by decide +kernel), List.mem_of_getElem? (i := 924) (by decide +kernel)⟩
theorem lw_p46 : lw_okq (⟨"QuorumLogModel", "isOld", "(I)Z"⟩, 30) := ⟨⟨by decide +kernel, by decide +kernel⟩, List.mem_of_getElem? (i := 712) (by decide +kernel), List.mem_of_getElem? (i := 931) (by decide +kernel), List.mem_of_getElem? (i := 932) (by decide +kernel)⟩
theorem lw_p47 : lw_okq (⟨"QuorumLogModel", "lookAtReads", "(I)V"⟩, 30) := ⟨⟨by decide +kernel, by decide +kernel⟩, List.mem_of_getElem? (i := 712) (by decide +kernel), List.mem_of_getElem? (i := 939) (by decide +kernel), List.mem_of_getElem? (i := 940) (by decide +kernel)⟩
def lw_privs_3 : List (MethodName × Nat) := [(⟨"QuorumLogModel", "termAt", "(II)I"⟩, 30), (⟨"QuorumLogModel", "post", "()V"⟩, 30), (⟨"QuorumLogModel", "weigh", "(I)V"⟩, 30), (⟨"QuorumLogModel", "most", "(II)Z"⟩, 30), (⟨"QuorumLogModel", "lead", "(I)V"⟩, 30), (⟨"QuorumLogModel", "append", "(IIII)I"⟩, 30), (⟨"QuorumLogModel", "push", "(IIIII)V"⟩, 30), (⟨"QuorumLogModel", "lookAtCommit", "(I)V"⟩, 30), (⟨"QuorumLogModel", "having", "(II)I"⟩, 30), (⟨"QuorumLogModel", "follow", "(I)V"⟩, 30), (⟨"QuorumLogModel", "sendAll", "(I)V"⟩, 30), (⟨"QuorumLogModel", "sendTo", "(II)V"⟩, 30), (⟨"QuorumLogModel", "leads", "(I)Z"⟩, 30), (⟨"QuorumLogModel", "fail", "(I)I"⟩, 30), (⟨"QuorumLogModel", "isOld", "(I)Z"⟩, 30), (⟨"QuorumLogModel", "lookAtReads", "(I)V"⟩, 30)]
theorem lw_r3 : ∀ q ∈ lw_privs_3, lw_okq q := List.forall_mem_cons.mpr ⟨lw_p32, List.forall_mem_cons.mpr ⟨lw_p33, List.forall_mem_cons.mpr ⟨lw_p34, List.forall_mem_cons.mpr ⟨lw_p35, List.forall_mem_cons.mpr ⟨lw_p36, List.forall_mem_cons.mpr ⟨lw_p37, List.forall_mem_cons.mpr ⟨lw_p38, List.forall_mem_cons.mpr ⟨lw_p39, List.forall_mem_cons.mpr ⟨lw_p40, List.forall_mem_cons.mpr ⟨lw_p41, List.forall_mem_cons.mpr ⟨lw_p42, List.forall_mem_cons.mpr ⟨lw_p43, List.forall_mem_cons.mpr ⟨lw_p44, List.forall_mem_cons.mpr ⟨lw_p45, List.forall_mem_cons.mpr ⟨lw_p46, List.forall_mem_cons.mpr ⟨lw_p47, fun _ h => absurd h List.not_mem_nil⟩⟩⟩⟩⟩⟩⟩⟩⟩⟩⟩⟩⟩⟩⟩⟩
theorem lw_p48 : lw_okq (⟨"QuorumLogModel", "valueAt", "(III)I"⟩, 30) := ⟨⟨by decide +kernel, by decide +kernel⟩, List.mem_of_getElem? (i := 712) (by decide +kernel), List.mem_of_getElem? (i := 943) (by decide +kernel), List.mem_of_getElem? (i := 944) (by decide +kernel)⟩
theorem lw_p49 : lw_okq (⟨"QuorumLogModel", "shift", "(II)V"⟩, 30) := ⟨⟨by decide +kernel, by decide +kernel⟩, List.mem_of_getElem? (i := 712) (by decide +kernel), List.mem_of_getElem? (i := 959) (by decide +kernel), List.mem_of_getElem? (i := 960) (by decide +kernel)⟩
theorem lw_p50 : lw_okq (⟨"QuorumLogModel", "takeOut", "(I)V"⟩, 30) := ⟨⟨by decide +kernel, by decide +kernel⟩, List.mem_of_getElem? (i := 712) (by decide +kernel), List.mem_of_getElem? (i := 975) (by decide +kernel), List.mem_of_getElem? (i := 976) (by decide +kernel)⟩
theorem lw_p51 : lw_okq (⟨"QuorumLogModel", "newTerm", "(II)V"⟩, 30) := ⟨⟨by decide +kernel, by decide +kernel⟩, List.mem_of_getElem? (i := 712) (by decide +kernel), List.mem_of_getElem? (i := 979) (by decide +kernel), List.mem_of_getElem? (i := 980) (by decide +kernel)⟩
theorem lw_p52 : lw_okq (⟨"QuorumLogModel", "question", "(III)V"⟩, 30) := ⟨⟨by decide +kernel, by decide +kernel⟩, List.mem_of_getElem? (i := 712) (by decide +kernel), List.mem_of_getElem? (i := 983) (by decide +kernel), List.mem_of_getElem? (i := 984) (by decide +kernel)⟩
theorem lw_p53 : lw_okq (⟨"QuorumLogModel", "liesBefore", "(III)Z"⟩, 30) := ⟨⟨by decide +kernel, by decide +kernel⟩, List.mem_of_getElem? (i := 712) (by decide +kernel), List.mem_of_getElem? (i := 987) (by decide +kernel), List.mem_of_getElem? (i := 988) (by decide +kernel)⟩
theorem lw_p54 : lw_okq (⟨"QuorumLogModel", "reply", "(IIIZI)V"⟩, 30) := ⟨⟨by decide +kernel, by decide +kernel⟩, List.mem_of_getElem? (i := 712) (by decide +kernel), List.mem_of_getElem? (i := 991) (by decide +kernel), List.mem_of_getElem? (i := 992) (by decide +kernel)⟩
theorem lw_p55 : lw_okq (⟨"QuorumLogModel", "answered", "(III)V"⟩, 30) := ⟨⟨by decide +kernel, by decide +kernel⟩, List.mem_of_getElem? (i := 712) (by decide +kernel), List.mem_of_getElem? (i := 995) (by decide +kernel), List.mem_of_getElem? (i := 996) (by decide +kernel)⟩
theorem lw_p56 : lw_okq (⟨"QuorumLogModel", "called", "(III)V"⟩, 30) := ⟨⟨by decide +kernel, by decide +kernel⟩, List.mem_of_getElem? (i := 712) (by decide +kernel), List.mem_of_getElem? (i := 999) (by decide +kernel), List.mem_of_getElem? (i := 1000) (by decide +kernel)⟩
theorem lw_p57 : lw_okq (⟨"QuorumLogModel", "voted", "(III)V"⟩, 30) := ⟨⟨by decide +kernel, by decide +kernel⟩, List.mem_of_getElem? (i := 712) (by decide +kernel), List.mem_of_getElem? (i := 1003) (by decide +kernel), List.mem_of_getElem? (i := 1004) (by decide +kernel)⟩
theorem lw_p58 : lw_okq (⟨"QuorumLogModel", "appended", "(II)V"⟩, 30) := ⟨⟨by decide +kernel, by decide +kernel⟩, List.mem_of_getElem? (i := 712) (by decide +kernel), List.mem_of_getElem? (i := 1007) (by decide +kernel), List.mem_of_getElem? (i := 1008) (by decide +kernel)⟩
theorem lw_p59 : lw_okq (⟨"QuorumLogModel", "result", "(IIZII)V"⟩, 30) := ⟨⟨by decide +kernel, by decide +kernel⟩, List.mem_of_getElem? (i := 712) (by decide +kernel), List.mem_of_getElem? (i := 1011) (by decide +kernel), List.mem_of_getElem? (i := 1012) (by decide +kernel)⟩
theorem lw_p60 : lw_okq (⟨"QuorumLogModel", "takeEntry", "(III)Z"⟩, 30) := ⟨⟨by decide +kernel, by decide +kernel⟩, List.mem_of_getElem? (i := 712) (by decide +kernel), List.mem_of_getElem? (i := 1015) (by decide +kernel), List.mem_of_getElem? (i := 1016) (by decide +kernel)⟩
theorem lw_p61 : lw_okq (⟨"QuorumLogModel", "resulted", "(II)V"⟩, 30) := ⟨⟨by decide +kernel, by decide +kernel⟩, List.mem_of_getElem? (i := 712) (by decide +kernel), List.mem_of_getElem? (i := 1019) (by decide +kernel), List.mem_of_getElem? (i := 1020) (by decide +kernel)⟩
theorem lw_p62 : lw_okq (⟨"QuorumLogModel", "installed", "(II)V"⟩, 30) := ⟨⟨by decide +kernel, by decide +kernel⟩, List.mem_of_getElem? (i := 712) (by decide +kernel), List.mem_of_getElem? (i := 1023) (by decide +kernel), List.mem_of_getElem? (i := 1024) (by decide +kernel)⟩
def lw_privs_4 : List (MethodName × Nat) := [(⟨"QuorumLogModel", "valueAt", "(III)I"⟩, 30), (⟨"QuorumLogModel", "shift", "(II)V"⟩, 30), (⟨"QuorumLogModel", "takeOut", "(I)V"⟩, 30), (⟨"QuorumLogModel", "newTerm", "(II)V"⟩, 30), (⟨"QuorumLogModel", "question", "(III)V"⟩, 30), (⟨"QuorumLogModel", "liesBefore", "(III)Z"⟩, 30), (⟨"QuorumLogModel", "reply", "(IIIZI)V"⟩, 30), (⟨"QuorumLogModel", "answered", "(III)V"⟩, 30), (⟨"QuorumLogModel", "called", "(III)V"⟩, 30), (⟨"QuorumLogModel", "voted", "(III)V"⟩, 30), (⟨"QuorumLogModel", "appended", "(II)V"⟩, 30), (⟨"QuorumLogModel", "result", "(IIZII)V"⟩, 30), (⟨"QuorumLogModel", "takeEntry", "(III)Z"⟩, 30), (⟨"QuorumLogModel", "resulted", "(II)V"⟩, 30), (⟨"QuorumLogModel", "installed", "(II)V"⟩, 30)]
theorem lw_r4 : ∀ q ∈ lw_privs_4, lw_okq q := List.forall_mem_cons.mpr ⟨lw_p48, List.forall_mem_cons.mpr ⟨lw_p49, List.forall_mem_cons.mpr ⟨lw_p50, List.forall_mem_cons.mpr ⟨lw_p51, List.forall_mem_cons.mpr ⟨lw_p52, List.forall_mem_cons.mpr ⟨lw_p53, List.forall_mem_cons.mpr ⟨lw_p54, List.forall_mem_cons.mpr ⟨lw_p55, List.forall_mem_cons.mpr ⟨lw_p56, List.forall_mem_cons.mpr ⟨lw_p57, List.forall_mem_cons.mpr ⟨lw_p58, List.forall_mem_cons.mpr ⟨lw_p59, List.forall_mem_cons.mpr ⟨lw_p60, List.forall_mem_cons.mpr ⟨lw_p61, List.forall_mem_cons.mpr ⟨lw_p62, fun _ h => absurd h List.not_mem_nil⟩⟩⟩⟩⟩⟩⟩⟩⟩⟩⟩⟩⟩⟩⟩
def lw_privs : List (MethodName × Nat) := lw_privs_1 ++ (lw_privs_2 ++ (lw_privs_3 ++ (lw_privs_4)))
def lw_tbl : List Cond := k2_sels lw_privs ++ tables_1
theorem lw_privs_ok : ∀ q ∈ lw_privs, lw_okq q := by
  show ∀ q ∈ lw_privs_1 ++ (lw_privs_2 ++ (lw_privs_3 ++ (lw_privs_4))), lw_okq q
  exact List.forall_mem_append.mpr ⟨lw_r1, List.forall_mem_append.mpr ⟨lw_r2, List.forall_mem_append.mpr ⟨lw_r3, lw_r4⟩⟩⟩
end
section
/-! names: classes, fields, methods, words (by wip/whole/gen_names.py) -/
def qu_W : List Cond := lw_tbl.filter goodWord
theorem qu_good : ∀ w ∈ qu_W, (w.onTables && w.keeps) = true ∨ ∃ ty, w = .arrayClass ty := fun w hw => good_of_word (List.mem_filter.mp hw).2
theorem qu_in {w : Cond} (i : Nat) (h : tables_1[i]? = some w) (hg : goodWord w = true) : w ∈ qu_W := List.mem_filter.mpr ⟨List.mem_append_right _ (List.mem_of_getElem? h), hg⟩
theorem qu_is {w : Cond} (i : Nat) (h : (k2_sels lw_privs)[i]? = some w) (hg : goodWord w = true) : w ∈ qu_W := List.mem_filter.mpr ⟨List.mem_append_left _ (List.mem_of_getElem? h), hg⟩
def T_Q : u_T := fun k => match k with
  | 0 => ("QuorumLog", "servers", "[LQuorumLog$Server;", true)
  | 1 => ("QuorumLog", "row", "LQuorumLog$Row;", true)
  | _ => ("QuorumLog", "reads", "LQuorumLog$Reads;", true)
def t_Q : Nat → FieldType := fun k => match k with
  | 0 => .array (.object "QuorumLog$Server")
  | 1 => .object "QuorumLog$Row"
  | _ => .object "QuorumLog$Reads"
theorem n_Q : ∀ x, x < 3 → ∀ y, y < 3 → x ≠ y → (T_Q x).2.1 ≠ (T_Q y).2.1 := by decide +kernel
theorem k_Q : ∀ j, j < 3 → parseFieldDescriptor (T_Q j).2.2.1 = some (t_Q j) := by decide +kernel
def T_E : u_T := fun k => match k with
  | 0 => ("QuorumLog$Entry", "term", "I", true)
  | 1 => ("QuorumLog$Entry", "sort", "I", true)
  | 2 => ("QuorumLog$Entry", "subject", "I", true)
  | _ => ("QuorumLog$Entry", "value", "I", true)
def t_E : Nat → FieldType := fun k => match k with
  | 0 => .int
  | 1 => .int
  | 2 => .int
  | _ => .int
theorem n_E : ∀ x, x < 4 → ∀ y, y < 4 → x ≠ y → (T_E x).2.1 ≠ (T_E y).2.1 := by decide +kernel
theorem k_E : ∀ j, j < 4 → parseFieldDescriptor (T_E j).2.2.1 = some (t_E j) := by decide +kernel
def T_L : u_T := fun k => match k with
  | 0 => ("QuorumLog$Log", "snapshot", "LQuorumLog$Snapshot;", false)
  | 1 => ("QuorumLog$Log", "entries", "[LQuorumLog$Entry;", true)
  | _ => ("QuorumLog$Log", "count", "I", false)
def t_L : Nat → FieldType := fun k => match k with
  | 0 => .object "QuorumLog$Snapshot"
  | 1 => .array (.object "QuorumLog$Entry")
  | _ => .int
theorem n_L : ∀ x, x < 3 → ∀ y, y < 3 → x ≠ y → (T_L x).2.1 ≠ (T_L y).2.1 := by decide +kernel
theorem k_L : ∀ j, j < 3 → parseFieldDescriptor (T_L j).2.2.1 = some (t_L j) := by decide +kernel
def T_M : u_T := fun k => match k with
  | 0 => ("QuorumLog$Message", "entries", "[LQuorumLog$Entry;", true)
  | 1 => ("QuorumLog$Message", "kind", "I", false)
  | 2 => ("QuorumLog$Message", "sender", "I", false)
  | 3 => ("QuorumLog$Message", "receiver", "I", false)
  | 4 => ("QuorumLog$Message", "term", "I", false)
  | 5 => ("QuorumLog$Message", "index", "I", false)
  | 6 => ("QuorumLog$Message", "logTerm", "I", false)
  | 7 => ("QuorumLog$Message", "size", "I", false)
  | 8 => ("QuorumLog$Message", "commit", "I", false)
  | 9 => ("QuorumLog$Message", "round", "I", false)
  | 10 => ("QuorumLog$Message", "yes", "Z", false)
  | _ => ("QuorumLog$Message", "snapshot", "LQuorumLog$Snapshot;", false)
def t_M : Nat → FieldType := fun k => match k with
  | 0 => .array (.object "QuorumLog$Entry")
  | 1 => .int
  | 2 => .int
  | 3 => .int
  | 4 => .int
  | 5 => .int
  | 6 => .int
  | 7 => .int
  | 8 => .int
  | 9 => .int
  | 10 => .boolean
  | _ => .object "QuorumLog$Snapshot"
theorem n_M : ∀ x, x < 12 → ∀ y, y < 12 → x ≠ y → (T_M x).2.1 ≠ (T_M y).2.1 := by decide +kernel
theorem k_M : ∀ j, j < 12 → parseFieldDescriptor (T_M j).2.2.1 = some (t_M j) := by decide +kernel
def T_R : u_T := fun k => match k with
  | 0 => ("QuorumLog$Reads", "leaders", "[I", true)
  | 1 => ("QuorumLog$Reads", "keys", "[I", true)
  | 2 => ("QuorumLog$Reads", "rounds", "[I", true)
  | 3 => ("QuorumLog$Reads", "outcomes", "[I", true)
  | 4 => ("QuorumLog$Reads", "answers", "[I", true)
  | _ => ("QuorumLog$Reads", "count", "I", false)
def t_R : Nat → FieldType := fun k => match k with
  | 0 => .array .int
  | 1 => .array .int
  | 2 => .array .int
  | 3 => .array .int
  | 4 => .array .int
  | _ => .int
theorem n_R : ∀ x, x < 6 → ∀ y, y < 6 → x ≠ y → (T_R x).2.1 ≠ (T_R y).2.1 := by decide +kernel
theorem k_R : ∀ j, j < 6 → parseFieldDescriptor (T_R j).2.2.1 = some (t_R j) := by decide +kernel
def T_W : u_T := fun k => match k with
  | 0 => ("QuorumLog$Row", "places", "[LQuorumLog$Message;", true)
  | 1 => ("QuorumLog$Row", "taken", "LQuorumLog$Message;", false)
  | _ => ("QuorumLog$Row", "count", "I", false)
def t_W : Nat → FieldType := fun k => match k with
  | 0 => .array (.object "QuorumLog$Message")
  | 1 => .object "QuorumLog$Message"
  | _ => .int
theorem n_W : ∀ x, x < 3 → ∀ y, y < 3 → x ≠ y → (T_W x).2.1 ≠ (T_W y).2.1 := by decide +kernel
theorem k_W : ∀ j, j < 3 → parseFieldDescriptor (T_W j).2.2.1 = some (t_W j) := by decide +kernel
def T_S : u_T := fun k => match k with
  | 0 => ("QuorumLog$Server", "number", "I", true)
  | 1 => ("QuorumLog$Server", "log", "LQuorumLog$Log;", true)
  | 2 => ("QuorumLog$Server", "next", "[I", true)
  | 3 => ("QuorumLog$Server", "match", "[I", true)
  | 4 => ("QuorumLog$Server", "confirmed", "[I", true)
  | 5 => ("QuorumLog$Server", "up", "Z", false)
  | 6 => ("QuorumLog$Server", "heard", "Z", false)
  | 7 => ("QuorumLog$Server", "term", "I", false)
  | 8 => ("QuorumLog$Server", "vote", "I", false)
  | 9 => ("QuorumLog$Server", "role", "I", false)
  | 10 => ("QuorumLog$Server", "commit", "I", false)
  | 11 => ("QuorumLog$Server", "round", "I", false)
  | _ => ("QuorumLog$Server", "yes", "I", false)
def t_S : Nat → FieldType := fun k => match k with
  | 0 => .int
  | 1 => .object "QuorumLog$Log"
  | 2 => .array .int
  | 3 => .array .int
  | 4 => .array .int
  | 5 => .boolean
  | 6 => .boolean
  | 7 => .int
  | 8 => .int
  | 9 => .int
  | 10 => .int
  | 11 => .int
  | _ => .int
theorem n_S : ∀ x, x < 13 → ∀ y, y < 13 → x ≠ y → (T_S x).2.1 ≠ (T_S y).2.1 := by decide +kernel
theorem k_S : ∀ j, j < 13 → parseFieldDescriptor (T_S j).2.2.1 = some (t_S j) := by decide +kernel
def T_N : u_T := fun k => match k with
  | 0 => ("QuorumLog$Snapshot", "index", "I", true)
  | 1 => ("QuorumLog$Snapshot", "term", "I", true)
  | 2 => ("QuorumLog$Snapshot", "members", "I", true)
  | _ => ("QuorumLog$Snapshot", "values", "[I", true)
def t_N : Nat → FieldType := fun k => match k with
  | 0 => .int
  | 1 => .int
  | 2 => .int
  | _ => .array .int
theorem n_N : ∀ x, x < 4 → ∀ y, y < 4 → x ≠ y → (T_N x).2.1 ≠ (T_N y).2.1 := by decide +kernel
theorem k_N : ∀ j, j < 4 → parseFieldDescriptor (T_N j).2.2.1 = some (t_N j) := by decide +kernel
def T_D : u_T := fun k => match k with
  | 0 => ("QuorumLogModel", "code", "I", false)
  | 1 => ("QuorumLogModel", "down", "[Z", true)
  | 2 => ("QuorumLogModel", "term", "[I", true)
  | 3 => ("QuorumLogModel", "vote", "[I", true)
  | 4 => ("QuorumLogModel", "snapIndex", "[I", true)
  | 5 => ("QuorumLogModel", "snapTerm", "[I", true)
  | 6 => ("QuorumLogModel", "snapMembers", "[I", true)
  | 7 => ("QuorumLogModel", "snapValue", "[I", true)
  | 8 => ("QuorumLogModel", "size", "[I", true)
  | 9 => ("QuorumLogModel", "logTerm", "[I", true)
  | 10 => ("QuorumLogModel", "logSort", "[I", true)
  | 11 => ("QuorumLogModel", "logKey", "[I", true)
  | 12 => ("QuorumLogModel", "logValue", "[I", true)
  | 13 => ("QuorumLogModel", "role", "[I", true)
  | 14 => ("QuorumLogModel", "commit", "[I", true)
  | 15 => ("QuorumLogModel", "heard", "[Z", true)
  | 16 => ("QuorumLogModel", "yes", "[I", true)
  | 17 => ("QuorumLogModel", "next", "[I", true)
  | 18 => ("QuorumLogModel", "match", "[I", true)
  | 19 => ("QuorumLogModel", "confirmed", "[I", true)
  | 20 => ("QuorumLogModel", "round", "[I", true)
  | 21 => ("QuorumLogModel", "reads", "I", false)
  | 22 => ("QuorumLogModel", "readOf", "[I", true)
  | 23 => ("QuorumLogModel", "readKey", "[I", true)
  | 24 => ("QuorumLogModel", "readRound", "[I", true)
  | 25 => ("QuorumLogModel", "readOutcome", "[I", true)
  | 26 => ("QuorumLogModel", "readValue", "[I", true)
  | 27 => ("QuorumLogModel", "waiting", "I", false)
  | 28 => ("QuorumLogModel", "mail", "[I", true)
  | _ => ("QuorumLogModel", "come", "[I", true)
def t_D : Nat → FieldType := fun k => match k with
  | 0 => .int
  | 1 => .array .boolean
  | 2 => .array .int
  | 3 => .array .int
  | 4 => .array .int
  | 5 => .array .int
  | 6 => .array .int
  | 7 => .array .int
  | 8 => .array .int
  | 9 => .array .int
  | 10 => .array .int
  | 11 => .array .int
  | 12 => .array .int
  | 13 => .array .int
  | 14 => .array .int
  | 15 => .array .boolean
  | 16 => .array .int
  | 17 => .array .int
  | 18 => .array .int
  | 19 => .array .int
  | 20 => .array .int
  | 21 => .int
  | 22 => .array .int
  | 23 => .array .int
  | 24 => .array .int
  | 25 => .array .int
  | 26 => .array .int
  | 27 => .int
  | 28 => .array .int
  | _ => .array .int
theorem n_D : ∀ x, x < 30 → ∀ y, y < 30 → x ≠ y → (T_D x).2.1 ≠ (T_D y).2.1 := by decide +kernel
theorem k_D : ∀ j, j < 30 → parseFieldDescriptor (T_D j).2.2.1 = some (t_D j) := by decide +kernel
abbrev qu_Cl : List vw_C := [("QuorumLog", T_Q, 3), ("QuorumLog$Entry", T_E, 4), ("QuorumLog$Log", T_L, 3), ("QuorumLog$Message", T_M, 12), ("QuorumLog$Reads", T_R, 6), ("QuorumLog$Row", T_W, 3), ("QuorumLog$Server", T_S, 13), ("QuorumLog$Snapshot", T_N, 4), ("QuorumLogModel", T_D, 30)]
abbrev qu_Ty (d : Nat → ClassId) : List (ClassId × FieldType) := [(d 0, .int), (d 1, .boolean), (d 2, .long), (d 3, .object "QuorumLog$Server"), (d 4, .object "QuorumLog$Entry"), (d 5, .object "QuorumLog$Message")]
abbrev qu_Ao : List String := ["QuorumLog$Server", "QuorumLog$Entry", "QuorumLog$Message"]
abbrev c_Q_init : ByteArray := prog_1_method_1_code
abbrev y_Q_init : MethodName := ⟨"QuorumLog", "<init>", "(I)V"⟩
abbrev c_R_init : ByteArray := prog_5_method_1_code
abbrev y_R_init : MethodName := ⟨"QuorumLog$Reads", "<init>", "()V"⟩
abbrev c_N_init : ByteArray := prog_8_method_1_code
abbrev y_N_init : MethodName := ⟨"QuorumLog$Snapshot", "<init>", "(III[I)V"⟩
abbrev c_S_init : ByteArray := prog_7_method_1_code
abbrev y_S_init : MethodName := ⟨"QuorumLog$Server", "<init>", "(ILQuorumLog$Snapshot;)V"⟩
abbrev c_L_init : ByteArray := prog_3_method_1_code
abbrev y_L_init : MethodName := ⟨"QuorumLog$Log", "<init>", "(LQuorumLog$Snapshot;)V"⟩
abbrev c_W_init : ByteArray := prog_6_method_1_code
abbrev y_W_init : MethodName := ⟨"QuorumLog$Row", "<init>", "(LQuorumLog$Snapshot;)V"⟩
abbrev c_M_init : ByteArray := prog_4_method_1_code
abbrev y_M_init : MethodName := ⟨"QuorumLog$Message", "<init>", "(LQuorumLog$Snapshot;)V"⟩
abbrev c_Q_timer : ByteArray := prog_1_method_2_code
abbrev y_Q_timer : MethodName := ⟨"QuorumLog", "timer", "(I)Z"⟩
abbrev c_Q_isServer : ByteArray := prog_1_method_19_code
abbrev y_Q_isServer : MethodName := ⟨"QuorumLog", "isServer", "(I)Z"⟩
abbrev c_S_mayAsk : ByteArray := prog_7_method_3_code
abbrev y_S_mayAsk : MethodName := ⟨"QuorumLog$Server", "mayAsk", "()Z"⟩
abbrev c_L_configuration : ByteArray := prog_3_method_7_code
abbrev y_L_configuration : MethodName := ⟨"QuorumLog$Log", "configuration", "()I"⟩
abbrev c_L_last : ByteArray := prog_3_method_2_code
abbrev y_L_last : MethodName := ⟨"QuorumLog$Log", "last", "()I"⟩
abbrev c_L_latestMembersUpTo : ByteArray := prog_3_method_6_code
abbrev y_L_latestMembersUpTo : MethodName := ⟨"QuorumLog$Log", "latestMembersUpTo", "(I)I"⟩
abbrev c_L_find : ByteArray := prog_3_method_4_code
abbrev y_L_find : MethodName := ⟨"QuorumLog$Log", "find", "(I)LQuorumLog$Entry;"⟩
abbrev c_L_membersAt : ByteArray := prog_3_method_8_code
abbrev y_L_membersAt : MethodName := ⟨"QuorumLog$Log", "membersAt", "(I)I"⟩
abbrev c_Q_isIn : ByteArray := prog_1_method_21_code
abbrev y_Q_isIn : MethodName := ⟨"QuorumLog", "isIn", "(II)Z"⟩
abbrev c_Q_askAll : ByteArray := prog_1_method_24_code
abbrev y_Q_askAll : MethodName := ⟨"QuorumLog", "askAll", "(LQuorumLog$Server;II)V"⟩
abbrev c_W_send : ByteArray := prog_6_method_3_code
abbrev y_W_send : MethodName := ⟨"QuorumLog$Row", "send", "(IIII)LQuorumLog$Message;"⟩
abbrev c_M_begin : ByteArray := prog_4_method_2_code
abbrev y_M_begin : MethodName := ⟨"QuorumLog$Message", "begin", "(IIII)V"⟩
abbrev c_L_lastTerm : ByteArray := prog_3_method_3_code
abbrev y_L_lastTerm : MethodName := ⟨"QuorumLog$Log", "lastTerm", "()I"⟩
abbrev c_L_termAt : ByteArray := prog_3_method_5_code
abbrev y_L_termAt : MethodName := ⟨"QuorumLog$Log", "termAt", "(I)I"⟩
abbrev c_Q_standIfMostSaidYes : ByteArray := prog_1_method_25_code
abbrev y_Q_standIfMostSaidYes : MethodName := ⟨"QuorumLog", "standIfMostSaidYes", "(LQuorumLog$Server;)V"⟩
abbrev c_Q_areMost : ByteArray := prog_1_method_22_code
abbrev y_Q_areMost : MethodName := ⟨"QuorumLog", "areMost", "(II)Z"⟩
abbrev c_Q_leadIfMostSaidYes : ByteArray := prog_1_method_26_code
abbrev y_Q_leadIfMostSaidYes : MethodName := ⟨"QuorumLog", "leadIfMostSaidYes", "(LQuorumLog$Server;)V"⟩
abbrev c_E_init : ByteArray := prog_2_method_1_code
abbrev y_E_init : MethodName := ⟨"QuorumLog$Entry", "<init>", "(IIII)V"⟩
abbrev c_Q_append : ByteArray := prog_1_method_27_code
abbrev y_Q_append : MethodName := ⟨"QuorumLog", "append", "(LQuorumLog$Server;LQuorumLog$Entry;)I"⟩
abbrev c_L_add : ByteArray := prog_3_method_10_code
abbrev y_L_add : MethodName := ⟨"QuorumLog$Log", "add", "(LQuorumLog$Entry;)Z"⟩
abbrev c_Q_lookAtCommit : ByteArray := prog_1_method_28_code
abbrev y_Q_lookAtCommit : MethodName := ⟨"QuorumLog", "lookAtCommit", "(LQuorumLog$Server;)V"⟩
abbrev c_S_holdersOf : ByteArray := prog_7_method_6_code
abbrev y_S_holdersOf : MethodName := ⟨"QuorumLog$Server", "holdersOf", "(I)I"⟩
abbrev c_S_reachedBy : ByteArray := prog_7_method_8_code
abbrev y_S_reachedBy : MethodName := ⟨"QuorumLog$Server", "reachedBy", "([II)I"⟩
abbrev c_Q_follow : ByteArray := prog_1_method_32_code
abbrev y_Q_follow : MethodName := ⟨"QuorumLog", "follow", "(LQuorumLog$Server;)V"⟩
abbrev c_R_failAllOf : ByteArray := prog_5_method_6_code
abbrev y_R_failAllOf : MethodName := ⟨"QuorumLog$Reads", "failAllOf", "(I)V"⟩
abbrev c_R_isKeptBy : ByteArray := prog_5_method_3_code
abbrev y_R_isKeptBy : MethodName := ⟨"QuorumLog$Reads", "isKeptBy", "(II)Z"⟩
abbrev c_Q_sendToAll : ByteArray := prog_1_method_29_code
abbrev y_Q_sendToAll : MethodName := ⟨"QuorumLog", "sendToAll", "(LQuorumLog$Server;)V"⟩
abbrev c_Q_sendTo : ByteArray := prog_1_method_30_code
abbrev y_Q_sendTo : MethodName := ⟨"QuorumLog", "sendTo", "(LQuorumLog$Server;I)V"⟩
abbrev c_L_copyBehind : ByteArray := prog_3_method_12_code
abbrev y_L_copyBehind : MethodName := ⟨"QuorumLog$Log", "copyBehind", "(I[LQuorumLog$Entry;)I"⟩
abbrev c_Q_beat : ByteArray := prog_1_method_3_code
abbrev y_Q_beat : MethodName := ⟨"QuorumLog", "beat", "(I)Z"⟩
abbrev c_S_leads : ByteArray := prog_7_method_2_code
abbrev y_S_leads : MethodName := ⟨"QuorumLog$Server", "leads", "()Z"⟩
abbrev c_Q_outcome : ByteArray := prog_1_method_7_code
abbrev y_Q_outcome : MethodName := ⟨"QuorumLog", "outcome", "(I)I"⟩
abbrev c_R_holds : ByteArray := prog_5_method_2_code
abbrev y_R_holds : MethodName := ⟨"QuorumLog$Reads", "holds", "(I)Z"⟩
abbrev c_Q_value : ByteArray := prog_1_method_8_code
abbrev y_Q_value : MethodName := ⟨"QuorumLog", "value", "(I)I"⟩
abbrev c_Q_compact : ByteArray := prog_1_method_9_code
abbrev y_Q_compact : MethodName := ⟨"QuorumLog", "compact", "(I)Z"⟩
abbrev c_L_snapshotAt : ByteArray := prog_3_method_17_code
abbrev y_L_snapshotAt : MethodName := ⟨"QuorumLog$Log", "snapshotAt", "(I)LQuorumLog$Snapshot;"⟩
abbrev c_L_storedUpTo : ByteArray := prog_3_method_9_code
abbrev y_L_storedUpTo : MethodName := ⟨"QuorumLog$Log", "storedUpTo", "(II)I"⟩
abbrev c_L_beginBehind : ByteArray := prog_3_method_18_code
abbrev y_L_beginBehind : MethodName := ⟨"QuorumLog$Log", "beginBehind", "(LQuorumLog$Snapshot;)V"⟩
abbrev c_Q_crash : ByteArray := prog_1_method_10_code
abbrev y_Q_crash : MethodName := ⟨"QuorumLog", "crash", "(I)Z"⟩
abbrev c_Q_restart : ByteArray := prog_1_method_11_code
abbrev y_Q_restart : MethodName := ⟨"QuorumLog", "restart", "(I)Z"⟩
abbrev c_Q_deliver : ByteArray := prog_1_method_12_code
abbrev y_Q_deliver : MethodName := ⟨"QuorumLog", "deliver", "(I)I"⟩
abbrev c_W_holds : ByteArray := prog_6_method_2_code
abbrev y_W_holds : MethodName := ⟨"QuorumLog$Row", "holds", "(I)Z"⟩
abbrev c_W_take : ByteArray := prog_6_method_4_code
abbrev y_W_take : MethodName := ⟨"QuorumLog$Row", "take", "(I)LQuorumLog$Message;"⟩
abbrev c_Q_come : ByteArray := prog_1_method_34_code
abbrev y_Q_come : MethodName := ⟨"QuorumLog", "come", "(LQuorumLog$Server;LQuorumLog$Message;)V"⟩
abbrev c_Q_enterTerm : ByteArray := prog_1_method_33_code
abbrev y_Q_enterTerm : MethodName := ⟨"QuorumLog", "enterTerm", "(LQuorumLog$Server;I)V"⟩
abbrev c_Q_questionComes : ByteArray := prog_1_method_35_code
abbrev y_Q_questionComes : MethodName := ⟨"QuorumLog", "questionComes", "(LQuorumLog$Server;LQuorumLog$Message;)V"⟩
abbrev c_L_isBehindOf : ByteArray := prog_3_method_13_code
abbrev y_L_isBehindOf : MethodName := ⟨"QuorumLog$Log", "isBehindOf", "(LQuorumLog$Message;)Z"⟩
abbrev c_Q_answerComes : ByteArray := prog_1_method_36_code
abbrev y_Q_answerComes : MethodName := ⟨"QuorumLog", "answerComes", "(LQuorumLog$Server;LQuorumLog$Message;)V"⟩
abbrev c_Q_callComes : ByteArray := prog_1_method_37_code
abbrev y_Q_callComes : MethodName := ⟨"QuorumLog", "callComes", "(LQuorumLog$Server;LQuorumLog$Message;)V"⟩
abbrev c_Q_voteComes : ByteArray := prog_1_method_38_code
abbrev y_Q_voteComes : MethodName := ⟨"QuorumLog", "voteComes", "(LQuorumLog$Server;LQuorumLog$Message;)V"⟩
abbrev c_Q_appendComes : ByteArray := prog_1_method_39_code
abbrev y_Q_appendComes : MethodName := ⟨"QuorumLog", "appendComes", "(LQuorumLog$Server;LQuorumLog$Message;)V"⟩
abbrev c_Q_sendResult : ByteArray := prog_1_method_41_code
abbrev y_Q_sendResult : MethodName := ⟨"QuorumLog", "sendResult", "(LQuorumLog$Server;IZII)V"⟩
abbrev c_L_fitsBehind : ByteArray := prog_3_method_14_code
abbrev y_L_fitsBehind : MethodName := ⟨"QuorumLog$Log", "fitsBehind", "(II)Z"⟩
abbrev c_L_takeOver : ByteArray := prog_3_method_15_code
abbrev y_L_takeOver : MethodName := ⟨"QuorumLog$Log", "takeOver", "(LQuorumLog$Message;)I"⟩
abbrev c_L_hasOrTakes : ByteArray := prog_3_method_16_code
abbrev y_L_hasOrTakes : MethodName := ⟨"QuorumLog$Log", "hasOrTakes", "(ILQuorumLog$Entry;)Z"⟩
abbrev c_L_cutFrom : ByteArray := prog_3_method_11_code
abbrev y_L_cutFrom : MethodName := ⟨"QuorumLog$Log", "cutFrom", "(I)V"⟩
abbrev c_Q_resultComes : ByteArray := prog_1_method_42_code
abbrev y_Q_resultComes : MethodName := ⟨"QuorumLog", "resultComes", "(LQuorumLog$Server;LQuorumLog$Message;)V"⟩
abbrev c_Q_lookAtReads : ByteArray := prog_1_method_31_code
abbrev y_Q_lookAtReads : MethodName := ⟨"QuorumLog", "lookAtReads", "(LQuorumLog$Server;)V"⟩
abbrev c_S_confirmersOf : ByteArray := prog_7_method_7_code
abbrev y_S_confirmersOf : MethodName := ⟨"QuorumLog$Server", "confirmersOf", "(I)I"⟩
abbrev c_S_storedNow : ByteArray := prog_7_method_5_code
abbrev y_S_storedNow : MethodName := ⟨"QuorumLog$Server", "storedNow", "(I)I"⟩
abbrev c_Q_installComes : ByteArray := prog_1_method_40_code
abbrev y_Q_installComes : MethodName := ⟨"QuorumLog", "installComes", "(LQuorumLog$Server;LQuorumLog$Message;)V"⟩
abbrev c_Q_lose : ByteArray := prog_1_method_13_code
abbrev y_Q_lose : MethodName := ⟨"QuorumLog", "lose", "(I)Z"⟩
abbrev c_Q_waiting : ByteArray := prog_1_method_14_code
abbrev y_Q_waiting : MethodName := ⟨"QuorumLog", "waiting", "()I"⟩
abbrev c_Q_message : ByteArray := prog_1_method_15_code
abbrev y_Q_message : MethodName := ⟨"QuorumLog", "message", "(II)I"⟩
abbrev c_Q_state : ByteArray := prog_1_method_16_code
abbrev y_Q_state : MethodName := ⟨"QuorumLog", "state", "(II)I"⟩
abbrev c_Q_entry : ByteArray := prog_1_method_17_code
abbrev y_Q_entry : MethodName := ⟨"QuorumLog", "entry", "(III)I"⟩
abbrev c_Q_stored : ByteArray := prog_1_method_18_code
abbrev y_Q_stored : MethodName := ⟨"QuorumLog", "stored", "(II)I"⟩
abbrev c_Q_isKey : ByteArray := prog_1_method_20_code
abbrev y_Q_isKey : MethodName := ⟨"QuorumLog", "isKey", "(I)Z"⟩
abbrev c_Z_cell : ByteArray := method_2_code
abbrev y_Z_cell : MethodName := ⟨"QuorumLogLaw", "cell", "([II)I"⟩
abbrev c_Z_put : ByteArray := method_3_code
abbrev y_Z_put : MethodName := ⟨"QuorumLogLaw", "put", "(LQuorumLog;III[J)I"⟩
abbrev c_Q_put : ByteArray := prog_1_method_4_code
abbrev y_Q_put : MethodName := ⟨"QuorumLog", "put", "(III)I"⟩
abbrev c_Q_leaderFor : ByteArray := prog_1_method_23_code
abbrev y_Q_leaderFor : MethodName := ⟨"QuorumLog", "leaderFor", "(II)LQuorumLog$Server;"⟩
abbrev c_Z_change : ByteArray := method_4_code
abbrev y_Z_change : MethodName := ⟨"QuorumLogLaw", "change", "(LQuorumLog;IIZ[J)I"⟩
abbrev c_Q_change : ByteArray := prog_1_method_5_code
abbrev y_Q_change : MethodName := ⟨"QuorumLog", "change", "(IIZ)I"⟩
abbrev c_S_hasCommitOfItsTerm : ByteArray := prog_7_method_4_code
abbrev y_S_hasCommitOfItsTerm : MethodName := ⟨"QuorumLog$Server", "hasCommitOfItsTerm", "()Z"⟩
abbrev c_Z_read : ByteArray := method_5_code
abbrev y_Z_read : MethodName := ⟨"QuorumLogLaw", "read", "(LQuorumLog;II[J)I"⟩
abbrev c_Q_read : ByteArray := prog_1_method_6_code
abbrev y_Q_read : MethodName := ⟨"QuorumLog", "read", "(II)I"⟩
abbrev c_R_keptBy : ByteArray := prog_5_method_4_code
abbrev y_R_keptBy : MethodName := ⟨"QuorumLog$Reads", "keptBy", "(I)I"⟩
abbrev c_R_keep : ByteArray := prog_5_method_5_code
abbrev y_R_keep : MethodName := ⟨"QuorumLog$Reads", "keep", "(III)I"⟩
abbrev c_D_init : ByteArray := prog_10_method_1_code
abbrev y_D_init : MethodName := ⟨"QuorumLogModel", "<init>", "(I)V"⟩
abbrev c_D_thrown : ByteArray := prog_10_method_2_code
abbrev y_D_thrown : MethodName := ⟨"QuorumLogModel", "thrown", "()I"⟩
abbrev c_D_timer : ByteArray := prog_10_method_27_code
abbrev y_D_timer : MethodName := ⟨"QuorumLogModel", "timer", "(I)Z"⟩
abbrev c_D_isServer : ByteArray := prog_10_method_4_code
abbrev y_D_isServer : MethodName := ⟨"QuorumLogModel", "isServer", "(I)Z"⟩
abbrev c_D_isMine : ByteArray := prog_10_method_26_code
abbrev y_D_isMine : MethodName := ⟨"QuorumLogModel", "isMine", "(I)Z"⟩
abbrev c_D_config : ByteArray := prog_10_method_12_code
abbrev y_D_config : MethodName := ⟨"QuorumLogModel", "config", "(I)I"⟩
abbrev c_D_last : ByteArray := prog_10_method_6_code
abbrev y_D_last : MethodName := ⟨"QuorumLogModel", "last", "(I)I"⟩
abbrev c_D_membersAt : ByteArray := prog_10_method_11_code
abbrev y_D_membersAt : MethodName := ⟨"QuorumLogModel", "membersAt", "(II)I"⟩
abbrev c_D_latestMembers : ByteArray := prog_10_method_10_code
abbrev y_D_latestMembers : MethodName := ⟨"QuorumLogModel", "latestMembers", "(II)I"⟩
abbrev c_D_cell : ByteArray := prog_10_method_7_code
abbrev y_D_cell : MethodName := ⟨"QuorumLogModel", "cell", "(II)I"⟩
abbrev c_D_askAll : ByteArray := prog_10_method_19_code
abbrev y_D_askAll : MethodName := ⟨"QuorumLogModel", "askAll", "(III)V"⟩
abbrev c_D_begin : ByteArray := prog_10_method_17_code
abbrev y_D_begin : MethodName := ⟨"QuorumLogModel", "begin", "(IIII)V"⟩
abbrev c_D_lastTerm : ByteArray := prog_10_method_9_code
abbrev y_D_lastTerm : MethodName := ⟨"QuorumLogModel", "lastTerm", "(I)I"⟩
abbrev c_D_termAt : ByteArray := prog_10_method_8_code
abbrev y_D_termAt : MethodName := ⟨"QuorumLogModel", "termAt", "(II)I"⟩
abbrev c_D_post : ByteArray := prog_10_method_18_code
abbrev y_D_post : MethodName := ⟨"QuorumLogModel", "post", "()V"⟩
abbrev c_D_weigh : ByteArray := prog_10_method_28_code
abbrev y_D_weigh : MethodName := ⟨"QuorumLogModel", "weigh", "(I)V"⟩
abbrev c_D_most : ByteArray := prog_10_method_15_code
abbrev y_D_most : MethodName := ⟨"QuorumLogModel", "most", "(II)Z"⟩
abbrev c_D_count : ByteArray := prog_10_method_14_code
abbrev y_D_count : MethodName := ⟨"QuorumLogModel", "count", "(I)I"⟩
abbrev c_D_lead : ByteArray := prog_10_method_29_code
abbrev y_D_lead : MethodName := ⟨"QuorumLogModel", "lead", "(I)V"⟩
abbrev c_D_append : ByteArray := prog_10_method_30_code
abbrev y_D_append : MethodName := ⟨"QuorumLogModel", "append", "(IIII)I"⟩
abbrev c_D_push : ByteArray := prog_10_method_16_code
abbrev y_D_push : MethodName := ⟨"QuorumLogModel", "push", "(IIIII)V"⟩
abbrev c_D_lookAtCommit : ByteArray := prog_10_method_32_code
abbrev y_D_lookAtCommit : MethodName := ⟨"QuorumLogModel", "lookAtCommit", "(I)V"⟩
abbrev c_D_having : ByteArray := prog_10_method_31_code
abbrev y_D_having : MethodName := ⟨"QuorumLogModel", "having", "(II)I"⟩
abbrev c_D_follow : ByteArray := prog_10_method_24_code
abbrev y_D_follow : MethodName := ⟨"QuorumLogModel", "follow", "(I)V"⟩
abbrev c_D_sendAll : ByteArray := prog_10_method_23_code
abbrev y_D_sendAll : MethodName := ⟨"QuorumLogModel", "sendAll", "(I)V"⟩
abbrev c_D_sendTo : ByteArray := prog_10_method_22_code
abbrev y_D_sendTo : MethodName := ⟨"QuorumLogModel", "sendTo", "(II)V"⟩
abbrev c_D_beat : ByteArray := prog_10_method_35_code
abbrev y_D_beat : MethodName := ⟨"QuorumLogModel", "beat", "(I)Z"⟩
abbrev c_D_leads : ByteArray := prog_10_method_34_code
abbrev y_D_leads : MethodName := ⟨"QuorumLogModel", "leads", "(I)Z"⟩
abbrev c_D_put : ByteArray := prog_10_method_36_code
abbrev y_D_put : MethodName := ⟨"QuorumLogModel", "put", "(III)I"⟩
abbrev c_D_isKey : ByteArray := prog_10_method_5_code
abbrev y_D_isKey : MethodName := ⟨"QuorumLogModel", "isKey", "(I)Z"⟩
abbrev c_D_fail : ByteArray := prog_10_method_3_code
abbrev y_D_fail : MethodName := ⟨"QuorumLogModel", "fail", "(I)I"⟩
abbrev c_D_change : ByteArray := prog_10_method_38_code
abbrev y_D_change : MethodName := ⟨"QuorumLogModel", "change", "(IIZ)I"⟩
abbrev c_D_isOld : ByteArray := prog_10_method_37_code
abbrev y_D_isOld : MethodName := ⟨"QuorumLogModel", "isOld", "(I)Z"⟩
abbrev c_D_read : ByteArray := prog_10_method_39_code
abbrev y_D_read : MethodName := ⟨"QuorumLogModel", "read", "(II)I"⟩
abbrev c_D_lookAtReads : ByteArray := prog_10_method_33_code
abbrev y_D_lookAtReads : MethodName := ⟨"QuorumLogModel", "lookAtReads", "(I)V"⟩
abbrev c_D_valueAt : ByteArray := prog_10_method_13_code
abbrev y_D_valueAt : MethodName := ⟨"QuorumLogModel", "valueAt", "(III)I"⟩
abbrev c_D_outcome : ByteArray := prog_10_method_40_code
abbrev y_D_outcome : MethodName := ⟨"QuorumLogModel", "outcome", "(I)I"⟩
abbrev c_D_value : ByteArray := prog_10_method_41_code
abbrev y_D_value : MethodName := ⟨"QuorumLogModel", "value", "(I)I"⟩
abbrev c_D_compact : ByteArray := prog_10_method_43_code
abbrev y_D_compact : MethodName := ⟨"QuorumLogModel", "compact", "(I)Z"⟩
abbrev c_D_shift : ByteArray := prog_10_method_42_code
abbrev y_D_shift : MethodName := ⟨"QuorumLogModel", "shift", "(II)V"⟩
abbrev c_D_crash : ByteArray := prog_10_method_44_code
abbrev y_D_crash : MethodName := ⟨"QuorumLogModel", "crash", "(I)Z"⟩
abbrev c_D_restart : ByteArray := prog_10_method_45_code
abbrev y_D_restart : MethodName := ⟨"QuorumLogModel", "restart", "(I)Z"⟩
abbrev c_D_deliver : ByteArray := prog_10_method_48_code
abbrev y_D_deliver : MethodName := ⟨"QuorumLogModel", "deliver", "(I)I"⟩
abbrev c_D_takeOut : ByteArray := prog_10_method_46_code
abbrev y_D_takeOut : MethodName := ⟨"QuorumLogModel", "takeOut", "(I)V"⟩
abbrev c_D_newTerm : ByteArray := prog_10_method_25_code
abbrev y_D_newTerm : MethodName := ⟨"QuorumLogModel", "newTerm", "(II)V"⟩
abbrev c_D_question : ByteArray := prog_10_method_49_code
abbrev y_D_question : MethodName := ⟨"QuorumLogModel", "question", "(III)V"⟩
abbrev c_D_liesBefore : ByteArray := prog_10_method_47_code
abbrev y_D_liesBefore : MethodName := ⟨"QuorumLogModel", "liesBefore", "(III)Z"⟩
abbrev c_D_reply : ByteArray := prog_10_method_20_code
abbrev y_D_reply : MethodName := ⟨"QuorumLogModel", "reply", "(IIIZI)V"⟩
abbrev c_D_answered : ByteArray := prog_10_method_50_code
abbrev y_D_answered : MethodName := ⟨"QuorumLogModel", "answered", "(III)V"⟩
abbrev c_D_called : ByteArray := prog_10_method_51_code
abbrev y_D_called : MethodName := ⟨"QuorumLogModel", "called", "(III)V"⟩
abbrev c_D_voted : ByteArray := prog_10_method_52_code
abbrev y_D_voted : MethodName := ⟨"QuorumLogModel", "voted", "(III)V"⟩
abbrev c_D_appended : ByteArray := prog_10_method_53_code
abbrev y_D_appended : MethodName := ⟨"QuorumLogModel", "appended", "(II)V"⟩
abbrev c_D_result : ByteArray := prog_10_method_21_code
abbrev y_D_result : MethodName := ⟨"QuorumLogModel", "result", "(IIZII)V"⟩
abbrev c_D_takeEntry : ByteArray := prog_10_method_54_code
abbrev y_D_takeEntry : MethodName := ⟨"QuorumLogModel", "takeEntry", "(III)Z"⟩
abbrev c_D_resulted : ByteArray := prog_10_method_56_code
abbrev y_D_resulted : MethodName := ⟨"QuorumLogModel", "resulted", "(II)V"⟩
abbrev c_D_installed : ByteArray := prog_10_method_55_code
abbrev y_D_installed : MethodName := ⟨"QuorumLogModel", "installed", "(II)V"⟩
abbrev c_D_lose : ByteArray := prog_10_method_57_code
abbrev y_D_lose : MethodName := ⟨"QuorumLogModel", "lose", "(I)Z"⟩
abbrev c_D_waiting : ByteArray := prog_10_method_58_code
abbrev y_D_waiting : MethodName := ⟨"QuorumLogModel", "waiting", "()I"⟩
abbrev c_D_message : ByteArray := prog_10_method_59_code
abbrev y_D_message : MethodName := ⟨"QuorumLogModel", "message", "(II)I"⟩
abbrev c_D_state : ByteArray := prog_10_method_60_code
abbrev y_D_state : MethodName := ⟨"QuorumLogModel", "state", "(II)I"⟩
abbrev c_D_entry : ByteArray := prog_10_method_61_code
abbrev y_D_entry : MethodName := ⟨"QuorumLogModel", "entry", "(III)I"⟩
abbrev c_D_stored : ByteArray := prog_10_method_62_code
abbrev y_D_stored : MethodName := ⟨"QuorumLogModel", "stored", "(II)I"⟩
abbrev c_I_bitCount : ByteArray := prog_14_method_49_code
abbrev y_I_bitCount : MethodName := ⟨"java/lang/Integer", "bitCount", "(I)I"⟩
abbrev c_H_min : ByteArray := prog_15_method_69_code
abbrev y_H_min : MethodName := ⟨"java/lang/Math", "min", "(II)I"⟩
abbrev c_H_max : ByteArray := prog_15_method_65_code
abbrev y_H_max : MethodName := ⟨"java/lang/Math", "max", "(II)I"⟩
abbrev qu_Mn : List Cond := [Cond.methodLinkNest "QuorumLog" 17 y_R_init "QuorumLog", Cond.methodLinkNest "QuorumLog$Server" 48 y_Q_isIn "QuorumLog"]
end
section
/-! words in the tables, by their places -/
theorem qm_0 : Cond.initialized "QuorumLogLaw" ∈ qu_W := qu_in 0 (by decide +kernel) (by decide +kernel)
theorem qm_1 : Cond.initialized "QuorumLog" ∈ qu_W := qu_in 1 (by decide +kernel) (by decide +kernel)
theorem qm_2 : Cond.initialized "QuorumLog$Reads" ∈ qu_W := qu_in 2 (by decide +kernel) (by decide +kernel)
theorem qm_3 : Cond.initialized "QuorumLog$Snapshot" ∈ qu_W := qu_in 3 (by decide +kernel) (by decide +kernel)
theorem qm_4 : Cond.initialized "QuorumLog$Server" ∈ qu_W := qu_in 4 (by decide +kernel) (by decide +kernel)
theorem qm_5 : Cond.initialized "QuorumLog$Log" ∈ qu_W := qu_in 5 (by decide +kernel) (by decide +kernel)
theorem qm_6 : Cond.initialized "QuorumLog$Row" ∈ qu_W := qu_in 6 (by decide +kernel) (by decide +kernel)
theorem qm_7 : Cond.initialized "QuorumLog$Message" ∈ qu_W := qu_in 7 (by decide +kernel) (by decide +kernel)
theorem qm_8 : Cond.initialized "QuorumLogModel" ∈ qu_W := qu_in 8 (by decide +kernel) (by decide +kernel)
theorem qm_9 : Cond.initialized "java/lang/Integer" ∈ qu_W := qu_in 9 (by decide +kernel) (by decide +kernel)
theorem qm_10 : Cond.initialized "QuorumLog$Entry" ∈ qu_W := qu_in 10 (by decide +kernel) (by decide +kernel)
theorem qm_17 : Cond.initialized "java/lang/Math" ∈ qu_W := qu_in 17 (by decide +kernel) (by decide +kernel)
theorem qm_22 : Cond.code y_Q_init c_Q_init 5 none ∈ qu_W := qu_in 22 (by decide +kernel) (by decide +kernel)
theorem qm_23 : Cond.methodLink "QuorumLog" 1 Lib.objectInit ∈ qu_W := qu_in 23 (by decide +kernel) (by decide +kernel)
theorem qm_24 : Cond.instanceMethod Lib.objectInit ∈ qu_W := qu_in 24 (by decide +kernel) (by decide +kernel)
theorem qm_25 : Cond.code Lib.objectInit ⟨#[0xb1]⟩ 1 none ∈ qu_W := qu_in 25 (by decide +kernel) (by decide +kernel)
theorem qm_26 : Cond.classLink "QuorumLog" 9 "QuorumLog$Server" ∈ qu_W := qu_in 26 (by decide +kernel) (by decide +kernel)
theorem qm_28 : Cond.classLink "QuorumLog" 15 "QuorumLog$Reads" ∈ qu_W := qu_in 28 (by decide +kernel) (by decide +kernel)
theorem qm_29 : Cond.instantiable "QuorumLog$Reads" 6 ∈ qu_W := qu_in 29 (by decide +kernel) (by decide +kernel)
theorem qm_31 : Cond.instanceMethod y_R_init ∈ qu_W := qu_in 31 (by decide +kernel) (by decide +kernel)
theorem qm_32 : Cond.code y_R_init c_R_init 1 none ∈ qu_W := qu_in 32 (by decide +kernel) (by decide +kernel)
theorem qm_33 : Cond.methodLink "QuorumLog$Reads" 3 Lib.objectInit ∈ qu_W := qu_in 33 (by decide +kernel) (by decide +kernel)
theorem qm_34 : Cond.fieldLink "QuorumLog$Reads" 9 "QuorumLog$Reads" "leaders" "[I" ∈ qu_W := qu_in 34 (by decide +kernel) (by decide +kernel)
theorem qm_35 : Cond.fieldLink "QuorumLog$Reads" 15 "QuorumLog$Reads" "keys" "[I" ∈ qu_W := qu_in 35 (by decide +kernel) (by decide +kernel)
theorem qm_36 : Cond.fieldLink "QuorumLog" 312 "QuorumLog$Reads" "keys" "[I" ∈ qu_W := qu_in 36 (by decide +kernel) (by decide +kernel)
theorem qm_37 : Cond.fieldLink "QuorumLog$Reads" 18 "QuorumLog$Reads" "rounds" "[I" ∈ qu_W := qu_in 37 (by decide +kernel) (by decide +kernel)
theorem qm_38 : Cond.fieldLink "QuorumLog" 306 "QuorumLog$Reads" "rounds" "[I" ∈ qu_W := qu_in 38 (by decide +kernel) (by decide +kernel)
theorem qm_39 : Cond.fieldLink "QuorumLog$Reads" 21 "QuorumLog$Reads" "outcomes" "[I" ∈ qu_W := qu_in 39 (by decide +kernel) (by decide +kernel)
theorem qm_40 : Cond.fieldLink "QuorumLog" 160 "QuorumLog$Reads" "outcomes" "[I" ∈ qu_W := qu_in 40 (by decide +kernel) (by decide +kernel)
theorem qm_41 : Cond.fieldLink "QuorumLog$Reads" 24 "QuorumLog$Reads" "answers" "[I" ∈ qu_W := qu_in 41 (by decide +kernel) (by decide +kernel)
theorem qm_42 : Cond.fieldLink "QuorumLog" 164 "QuorumLog$Reads" "answers" "[I" ∈ qu_W := qu_in 42 (by decide +kernel) (by decide +kernel)
theorem qm_43 : Cond.fieldLink "QuorumLog$Reads" 27 "QuorumLog$Reads" "count" "I" ∈ qu_W := qu_in 43 (by decide +kernel) (by decide +kernel)
theorem qm_44 : Cond.fieldLink "QuorumLog" 144 "QuorumLog$Reads" "count" "I" ∈ qu_W := qu_in 44 (by decide +kernel) (by decide +kernel)
theorem qm_45 : Cond.laysFinal "QuorumLog$Reads" "QuorumLog$Reads" "leaders" "[I" ∈ qu_W := qu_in 45 (by decide +kernel) (by decide +kernel)
theorem qm_47 : Cond.laysFinal "QuorumLog$Reads" "QuorumLog$Reads" "keys" "[I" ∈ qu_W := qu_in 47 (by decide +kernel) (by decide +kernel)
theorem qm_49 : Cond.laysFinal "QuorumLog$Reads" "QuorumLog$Reads" "rounds" "[I" ∈ qu_W := qu_in 49 (by decide +kernel) (by decide +kernel)
theorem qm_51 : Cond.laysFinal "QuorumLog$Reads" "QuorumLog$Reads" "outcomes" "[I" ∈ qu_W := qu_in 51 (by decide +kernel) (by decide +kernel)
theorem qm_53 : Cond.laysFinal "QuorumLog$Reads" "QuorumLog$Reads" "answers" "[I" ∈ qu_W := qu_in 53 (by decide +kernel) (by decide +kernel)
theorem qm_55 : Cond.lays "QuorumLog$Reads" "QuorumLog$Reads" "count" "I" ∈ qu_W := qu_in 55 (by decide +kernel) (by decide +kernel)
theorem qm_58 : Cond.arrayClass .int ∈ qu_W := qu_in 58 (by decide +kernel) (by decide +kernel)
theorem qm_59 : Cond.classLink "QuorumLog" 22 "QuorumLog$Snapshot" ∈ qu_W := qu_in 59 (by decide +kernel) (by decide +kernel)
theorem qm_60 : Cond.instantiable "QuorumLog$Snapshot" 4 ∈ qu_W := qu_in 60 (by decide +kernel) (by decide +kernel)
theorem qm_61 : Cond.methodLink "QuorumLog" 24 y_N_init ∈ qu_W := qu_in 61 (by decide +kernel) (by decide +kernel)
theorem qm_62 : Cond.instanceMethod y_N_init ∈ qu_W := qu_in 62 (by decide +kernel) (by decide +kernel)
theorem qm_63 : Cond.code y_N_init c_N_init 5 none ∈ qu_W := qu_in 63 (by decide +kernel) (by decide +kernel)
theorem qm_64 : Cond.methodLink "QuorumLog$Snapshot" 1 Lib.objectInit ∈ qu_W := qu_in 64 (by decide +kernel) (by decide +kernel)
theorem qm_65 : Cond.fieldLink "QuorumLog$Snapshot" 7 "QuorumLog$Snapshot" "index" "I" ∈ qu_W := qu_in 65 (by decide +kernel) (by decide +kernel)
theorem qm_66 : Cond.fieldLink "QuorumLog$Log" 21 "QuorumLog$Snapshot" "index" "I" ∈ qu_W := qu_in 66 (by decide +kernel) (by decide +kernel)
theorem qm_67 : Cond.fieldLink "QuorumLog" 174 "QuorumLog$Snapshot" "index" "I" ∈ qu_W := qu_in 67 (by decide +kernel) (by decide +kernel)
theorem qm_68 : Cond.fieldLink "QuorumLog$Snapshot" 13 "QuorumLog$Snapshot" "term" "I" ∈ qu_W := qu_in 68 (by decide +kernel) (by decide +kernel)
theorem qm_69 : Cond.fieldLink "QuorumLog$Log" 38 "QuorumLog$Snapshot" "term" "I" ∈ qu_W := qu_in 69 (by decide +kernel) (by decide +kernel)
theorem qm_70 : Cond.fieldLink "QuorumLog$Snapshot" 16 "QuorumLog$Snapshot" "members" "I" ∈ qu_W := qu_in 70 (by decide +kernel) (by decide +kernel)
theorem qm_71 : Cond.fieldLink "QuorumLog$Log" 55 "QuorumLog$Snapshot" "members" "I" ∈ qu_W := qu_in 71 (by decide +kernel) (by decide +kernel)
theorem qm_72 : Cond.fieldLink "QuorumLog$Snapshot" 19 "QuorumLog$Snapshot" "values" "[I" ∈ qu_W := qu_in 72 (by decide +kernel) (by decide +kernel)
theorem qm_73 : Cond.fieldLink "QuorumLog$Log" 64 "QuorumLog$Snapshot" "values" "[I" ∈ qu_W := qu_in 73 (by decide +kernel) (by decide +kernel)
theorem qm_74 : Cond.laysFinal "QuorumLog$Snapshot" "QuorumLog$Snapshot" "index" "I" ∈ qu_W := qu_in 74 (by decide +kernel) (by decide +kernel)
theorem qm_76 : Cond.laysFinal "QuorumLog$Snapshot" "QuorumLog$Snapshot" "term" "I" ∈ qu_W := qu_in 76 (by decide +kernel) (by decide +kernel)
theorem qm_78 : Cond.laysFinal "QuorumLog$Snapshot" "QuorumLog$Snapshot" "members" "I" ∈ qu_W := qu_in 78 (by decide +kernel) (by decide +kernel)
theorem qm_80 : Cond.laysFinal "QuorumLog$Snapshot" "QuorumLog$Snapshot" "values" "[I" ∈ qu_W := qu_in 80 (by decide +kernel) (by decide +kernel)
theorem qm_83 : Cond.instantiable "QuorumLog$Server" 13 ∈ qu_W := qu_in 83 (by decide +kernel) (by decide +kernel)
theorem qm_84 : Cond.methodLink "QuorumLog" 27 y_S_init ∈ qu_W := qu_in 84 (by decide +kernel) (by decide +kernel)
theorem qm_85 : Cond.instanceMethod y_S_init ∈ qu_W := qu_in 85 (by decide +kernel) (by decide +kernel)
theorem qm_86 : Cond.code y_S_init c_S_init 3 none ∈ qu_W := qu_in 86 (by decide +kernel) (by decide +kernel)
theorem qm_87 : Cond.methodLink "QuorumLog$Server" 3 Lib.objectInit ∈ qu_W := qu_in 87 (by decide +kernel) (by decide +kernel)
theorem qm_88 : Cond.classLink "QuorumLog$Server" 35 "QuorumLog$Log" ∈ qu_W := qu_in 88 (by decide +kernel) (by decide +kernel)
theorem qm_89 : Cond.instantiable "QuorumLog$Log" 3 ∈ qu_W := qu_in 89 (by decide +kernel) (by decide +kernel)
theorem qm_90 : Cond.methodLink "QuorumLog$Server" 37 y_L_init ∈ qu_W := qu_in 90 (by decide +kernel) (by decide +kernel)
theorem qm_91 : Cond.instanceMethod y_L_init ∈ qu_W := qu_in 91 (by decide +kernel) (by decide +kernel)
theorem qm_92 : Cond.code y_L_init c_L_init 2 none ∈ qu_W := qu_in 92 (by decide +kernel) (by decide +kernel)
theorem qm_93 : Cond.methodLink "QuorumLog$Log" 3 Lib.objectInit ∈ qu_W := qu_in 93 (by decide +kernel) (by decide +kernel)
theorem qm_94 : Cond.classLink "QuorumLog$Log" 9 "QuorumLog$Entry" ∈ qu_W := qu_in 94 (by decide +kernel) (by decide +kernel)
theorem qm_96 : Cond.fieldLink "QuorumLog$Log" 17 "QuorumLog$Log" "snapshot" "LQuorumLog$Snapshot;" ∈ qu_W := qu_in 96 (by decide +kernel) (by decide +kernel)
theorem qm_97 : Cond.fieldLink "QuorumLog" 170 "QuorumLog$Log" "snapshot" "LQuorumLog$Snapshot;" ∈ qu_W := qu_in 97 (by decide +kernel) (by decide +kernel)
theorem qm_98 : Cond.fieldLink "QuorumLog$Log" 11 "QuorumLog$Log" "entries" "[LQuorumLog$Entry;" ∈ qu_W := qu_in 98 (by decide +kernel) (by decide +kernel)
theorem qm_99 : Cond.fieldLink "QuorumLog$Log" 27 "QuorumLog$Log" "count" "I" ∈ qu_W := qu_in 99 (by decide +kernel) (by decide +kernel)
theorem qm_100 : Cond.fieldLink "QuorumLog$Server" 52 "QuorumLog$Log" "count" "I" ∈ qu_W := qu_in 100 (by decide +kernel) (by decide +kernel)
theorem qm_101 : Cond.fieldLink "QuorumLog" 89 "QuorumLog$Log" "count" "I" ∈ qu_W := qu_in 101 (by decide +kernel) (by decide +kernel)
theorem qm_102 : Cond.lays "QuorumLog$Log" "QuorumLog$Log" "snapshot" "LQuorumLog$Snapshot;" ∈ qu_W := qu_in 102 (by decide +kernel) (by decide +kernel)
theorem qm_104 : Cond.laysFinal "QuorumLog$Log" "QuorumLog$Log" "entries" "[LQuorumLog$Entry;" ∈ qu_W := qu_in 104 (by decide +kernel) (by decide +kernel)
theorem qm_106 : Cond.lays "QuorumLog$Log" "QuorumLog$Log" "count" "I" ∈ qu_W := qu_in 106 (by decide +kernel) (by decide +kernel)
theorem qm_109 : Cond.fieldLink "QuorumLog$Server" 32 "QuorumLog$Server" "number" "I" ∈ qu_W := qu_in 109 (by decide +kernel) (by decide +kernel)
theorem qm_110 : Cond.fieldLink "QuorumLog" 55 "QuorumLog$Server" "number" "I" ∈ qu_W := qu_in 110 (by decide +kernel) (by decide +kernel)
theorem qm_111 : Cond.fieldLink "QuorumLog$Server" 40 "QuorumLog$Server" "log" "LQuorumLog$Log;" ∈ qu_W := qu_in 111 (by decide +kernel) (by decide +kernel)
theorem qm_112 : Cond.fieldLink "QuorumLog" 85 "QuorumLog$Server" "log" "LQuorumLog$Log;" ∈ qu_W := qu_in 112 (by decide +kernel) (by decide +kernel)
theorem qm_113 : Cond.fieldLink "QuorumLog$Server" 9 "QuorumLog$Server" "next" "[I" ∈ qu_W := qu_in 113 (by decide +kernel) (by decide +kernel)
theorem qm_114 : Cond.fieldLink "QuorumLog" 267 "QuorumLog$Server" "next" "[I" ∈ qu_W := qu_in 114 (by decide +kernel) (by decide +kernel)
theorem qm_115 : Cond.fieldLink "QuorumLog$Server" 15 "QuorumLog$Server" "match" "[I" ∈ qu_W := qu_in 115 (by decide +kernel) (by decide +kernel)
theorem qm_116 : Cond.fieldLink "QuorumLog" 270 "QuorumLog$Server" "match" "[I" ∈ qu_W := qu_in 116 (by decide +kernel) (by decide +kernel)
theorem qm_117 : Cond.fieldLink "QuorumLog$Server" 18 "QuorumLog$Server" "confirmed" "[I" ∈ qu_W := qu_in 117 (by decide +kernel) (by decide +kernel)
theorem qm_118 : Cond.fieldLink "QuorumLog" 273 "QuorumLog$Server" "confirmed" "[I" ∈ qu_W := qu_in 118 (by decide +kernel) (by decide +kernel)
theorem qm_119 : Cond.fieldLink "QuorumLog$Server" 21 "QuorumLog$Server" "up" "Z" ∈ qu_W := qu_in 119 (by decide +kernel) (by decide +kernel)
theorem qm_120 : Cond.fieldLink "QuorumLog" 167 "QuorumLog$Server" "up" "Z" ∈ qu_W := qu_in 120 (by decide +kernel) (by decide +kernel)
theorem qm_121 : Cond.fieldLink "QuorumLog" 47 "QuorumLog$Server" "heard" "Z" ∈ qu_W := qu_in 121 (by decide +kernel) (by decide +kernel)
theorem qm_122 : Cond.fieldLink "QuorumLog" 61 "QuorumLog$Server" "term" "I" ∈ qu_W := qu_in 122 (by decide +kernel) (by decide +kernel)
theorem qm_123 : Cond.fieldLink "QuorumLog$Server" 62 "QuorumLog$Server" "term" "I" ∈ qu_W := qu_in 123 (by decide +kernel) (by decide +kernel)
theorem qm_124 : Cond.fieldLink "QuorumLog$Server" 25 "QuorumLog$Server" "vote" "I" ∈ qu_W := qu_in 124 (by decide +kernel) (by decide +kernel)
theorem qm_125 : Cond.fieldLink "QuorumLog" 220 "QuorumLog$Server" "vote" "I" ∈ qu_W := qu_in 125 (by decide +kernel) (by decide +kernel)
theorem qm_126 : Cond.fieldLink "QuorumLog$Server" 29 "QuorumLog$Server" "role" "I" ∈ qu_W := qu_in 126 (by decide +kernel) (by decide +kernel)
theorem qm_127 : Cond.fieldLink "QuorumLog" 51 "QuorumLog$Server" "role" "I" ∈ qu_W := qu_in 127 (by decide +kernel) (by decide +kernel)
theorem qm_128 : Cond.fieldLink "QuorumLog$Server" 55 "QuorumLog$Server" "commit" "I" ∈ qu_W := qu_in 128 (by decide +kernel) (by decide +kernel)
theorem qm_129 : Cond.fieldLink "QuorumLog" 133 "QuorumLog$Server" "commit" "I" ∈ qu_W := qu_in 129 (by decide +kernel) (by decide +kernel)
theorem qm_130 : Cond.fieldLink "QuorumLog" 147 "QuorumLog$Server" "round" "I" ∈ qu_W := qu_in 130 (by decide +kernel) (by decide +kernel)
theorem qm_131 : Cond.fieldLink "QuorumLog" 58 "QuorumLog$Server" "yes" "I" ∈ qu_W := qu_in 131 (by decide +kernel) (by decide +kernel)
theorem qm_132 : Cond.laysFinal "QuorumLog$Server" "QuorumLog$Server" "number" "I" ∈ qu_W := qu_in 132 (by decide +kernel) (by decide +kernel)
theorem qm_134 : Cond.laysFinal "QuorumLog$Server" "QuorumLog$Server" "log" "LQuorumLog$Log;" ∈ qu_W := qu_in 134 (by decide +kernel) (by decide +kernel)
theorem qm_136 : Cond.laysFinal "QuorumLog$Server" "QuorumLog$Server" "next" "[I" ∈ qu_W := qu_in 136 (by decide +kernel) (by decide +kernel)
theorem qm_138 : Cond.laysFinal "QuorumLog$Server" "QuorumLog$Server" "match" "[I" ∈ qu_W := qu_in 138 (by decide +kernel) (by decide +kernel)
theorem qm_140 : Cond.laysFinal "QuorumLog$Server" "QuorumLog$Server" "confirmed" "[I" ∈ qu_W := qu_in 140 (by decide +kernel) (by decide +kernel)
theorem qm_142 : Cond.lays "QuorumLog$Server" "QuorumLog$Server" "up" "Z" ∈ qu_W := qu_in 142 (by decide +kernel) (by decide +kernel)
theorem qm_144 : Cond.lays "QuorumLog$Server" "QuorumLog$Server" "heard" "Z" ∈ qu_W := qu_in 144 (by decide +kernel) (by decide +kernel)
theorem qm_146 : Cond.lays "QuorumLog$Server" "QuorumLog$Server" "term" "I" ∈ qu_W := qu_in 146 (by decide +kernel) (by decide +kernel)
theorem qm_148 : Cond.lays "QuorumLog$Server" "QuorumLog$Server" "vote" "I" ∈ qu_W := qu_in 148 (by decide +kernel) (by decide +kernel)
theorem qm_150 : Cond.lays "QuorumLog$Server" "QuorumLog$Server" "role" "I" ∈ qu_W := qu_in 150 (by decide +kernel) (by decide +kernel)
theorem qm_152 : Cond.lays "QuorumLog$Server" "QuorumLog$Server" "commit" "I" ∈ qu_W := qu_in 152 (by decide +kernel) (by decide +kernel)
theorem qm_154 : Cond.lays "QuorumLog$Server" "QuorumLog$Server" "round" "I" ∈ qu_W := qu_in 154 (by decide +kernel) (by decide +kernel)
theorem qm_156 : Cond.lays "QuorumLog$Server" "QuorumLog$Server" "yes" "I" ∈ qu_W := qu_in 156 (by decide +kernel) (by decide +kernel)
theorem qm_159 : Cond.classLink "QuorumLog" 30 "QuorumLog$Row" ∈ qu_W := qu_in 159 (by decide +kernel) (by decide +kernel)
theorem qm_160 : Cond.instantiable "QuorumLog$Row" 3 ∈ qu_W := qu_in 160 (by decide +kernel) (by decide +kernel)
theorem qm_161 : Cond.methodLink "QuorumLog" 32 y_W_init ∈ qu_W := qu_in 161 (by decide +kernel) (by decide +kernel)
theorem qm_162 : Cond.instanceMethod y_W_init ∈ qu_W := qu_in 162 (by decide +kernel) (by decide +kernel)
theorem qm_163 : Cond.code y_W_init c_W_init 3 none ∈ qu_W := qu_in 163 (by decide +kernel) (by decide +kernel)
theorem qm_164 : Cond.methodLink "QuorumLog$Row" 3 Lib.objectInit ∈ qu_W := qu_in 164 (by decide +kernel) (by decide +kernel)
theorem qm_165 : Cond.classLink "QuorumLog$Row" 9 "QuorumLog$Message" ∈ qu_W := qu_in 165 (by decide +kernel) (by decide +kernel)
theorem qm_167 : Cond.instantiable "QuorumLog$Message" 12 ∈ qu_W := qu_in 167 (by decide +kernel) (by decide +kernel)
theorem qm_168 : Cond.methodLink "QuorumLog$Row" 17 y_M_init ∈ qu_W := qu_in 168 (by decide +kernel) (by decide +kernel)
theorem qm_169 : Cond.instanceMethod y_M_init ∈ qu_W := qu_in 169 (by decide +kernel) (by decide +kernel)
theorem qm_170 : Cond.code y_M_init c_M_init 2 none ∈ qu_W := qu_in 170 (by decide +kernel) (by decide +kernel)
theorem qm_171 : Cond.methodLink "QuorumLog$Message" 3 Lib.objectInit ∈ qu_W := qu_in 171 (by decide +kernel) (by decide +kernel)
theorem qm_172 : Cond.classLink "QuorumLog$Message" 9 "QuorumLog$Entry" ∈ qu_W := qu_in 172 (by decide +kernel) (by decide +kernel)
theorem qm_173 : Cond.fieldLink "QuorumLog$Message" 11 "QuorumLog$Message" "entries" "[LQuorumLog$Entry;" ∈ qu_W := qu_in 173 (by decide +kernel) (by decide +kernel)
theorem qm_174 : Cond.fieldLink "QuorumLog$Log" 80 "QuorumLog$Message" "entries" "[LQuorumLog$Entry;" ∈ qu_W := qu_in 174 (by decide +kernel) (by decide +kernel)
theorem qm_175 : Cond.fieldLink "QuorumLog" 295 "QuorumLog$Message" "entries" "[LQuorumLog$Entry;" ∈ qu_W := qu_in 175 (by decide +kernel) (by decide +kernel)
theorem qm_176 : Cond.fieldLink "QuorumLog$Message" 21 "QuorumLog$Message" "kind" "I" ∈ qu_W := qu_in 176 (by decide +kernel) (by decide +kernel)
theorem qm_177 : Cond.fieldLink "QuorumLog" 201 "QuorumLog$Message" "kind" "I" ∈ qu_W := qu_in 177 (by decide +kernel) (by decide +kernel)
theorem qm_178 : Cond.fieldLink "QuorumLog$Message" 25 "QuorumLog$Message" "sender" "I" ∈ qu_W := qu_in 178 (by decide +kernel) (by decide +kernel)
theorem qm_179 : Cond.fieldLink "QuorumLog" 209 "QuorumLog$Message" "sender" "I" ∈ qu_W := qu_in 179 (by decide +kernel) (by decide +kernel)
theorem qm_180 : Cond.fieldLink "QuorumLog$Message" 28 "QuorumLog$Message" "receiver" "I" ∈ qu_W := qu_in 180 (by decide +kernel) (by decide +kernel)
theorem qm_181 : Cond.fieldLink "QuorumLog" 192 "QuorumLog$Message" "receiver" "I" ∈ qu_W := qu_in 181 (by decide +kernel) (by decide +kernel)
theorem qm_182 : Cond.fieldLink "QuorumLog$Message" 31 "QuorumLog$Message" "term" "I" ∈ qu_W := qu_in 182 (by decide +kernel) (by decide +kernel)
theorem qm_183 : Cond.fieldLink "QuorumLog" 212 "QuorumLog$Message" "term" "I" ∈ qu_W := qu_in 183 (by decide +kernel) (by decide +kernel)
theorem qm_184 : Cond.fieldLink "QuorumLog$Message" 34 "QuorumLog$Message" "index" "I" ∈ qu_W := qu_in 184 (by decide +kernel) (by decide +kernel)
theorem qm_185 : Cond.fieldLink "QuorumLog$Log" 76 "QuorumLog$Message" "index" "I" ∈ qu_W := qu_in 185 (by decide +kernel) (by decide +kernel)
theorem qm_186 : Cond.fieldLink "QuorumLog" 213 "QuorumLog$Message" "index" "I" ∈ qu_W := qu_in 186 (by decide +kernel) (by decide +kernel)
theorem qm_187 : Cond.fieldLink "QuorumLog$Message" 37 "QuorumLog$Message" "logTerm" "I" ∈ qu_W := qu_in 187 (by decide +kernel) (by decide +kernel)
theorem qm_188 : Cond.fieldLink "QuorumLog$Log" 71 "QuorumLog$Message" "logTerm" "I" ∈ qu_W := qu_in 188 (by decide +kernel) (by decide +kernel)
theorem qm_189 : Cond.fieldLink "QuorumLog" 261 "QuorumLog$Message" "logTerm" "I" ∈ qu_W := qu_in 189 (by decide +kernel) (by decide +kernel)
theorem qm_190 : Cond.fieldLink "QuorumLog$Message" 40 "QuorumLog$Message" "size" "I" ∈ qu_W := qu_in 190 (by decide +kernel) (by decide +kernel)
theorem qm_191 : Cond.fieldLink "QuorumLog$Log" 77 "QuorumLog$Message" "size" "I" ∈ qu_W := qu_in 191 (by decide +kernel) (by decide +kernel)
theorem qm_192 : Cond.fieldLink "QuorumLog" 214 "QuorumLog$Message" "size" "I" ∈ qu_W := qu_in 192 (by decide +kernel) (by decide +kernel)
theorem qm_193 : Cond.fieldLink "QuorumLog$Message" 43 "QuorumLog$Message" "commit" "I" ∈ qu_W := qu_in 193 (by decide +kernel) (by decide +kernel)
theorem qm_194 : Cond.fieldLink "QuorumLog" 294 "QuorumLog$Message" "commit" "I" ∈ qu_W := qu_in 194 (by decide +kernel) (by decide +kernel)
theorem qm_195 : Cond.fieldLink "QuorumLog$Message" 46 "QuorumLog$Message" "round" "I" ∈ qu_W := qu_in 195 (by decide +kernel) (by decide +kernel)
theorem qm_196 : Cond.fieldLink "QuorumLog" 219 "QuorumLog$Message" "round" "I" ∈ qu_W := qu_in 196 (by decide +kernel) (by decide +kernel)
theorem qm_197 : Cond.fieldLink "QuorumLog$Message" 49 "QuorumLog$Message" "yes" "Z" ∈ qu_W := qu_in 197 (by decide +kernel) (by decide +kernel)
theorem qm_198 : Cond.fieldLink "QuorumLog" 217 "QuorumLog$Message" "yes" "Z" ∈ qu_W := qu_in 198 (by decide +kernel) (by decide +kernel)
theorem qm_199 : Cond.fieldLink "QuorumLog$Message" 17 "QuorumLog$Message" "snapshot" "LQuorumLog$Snapshot;" ∈ qu_W := qu_in 199 (by decide +kernel) (by decide +kernel)
theorem qm_200 : Cond.fieldLink "QuorumLog" 293 "QuorumLog$Message" "snapshot" "LQuorumLog$Snapshot;" ∈ qu_W := qu_in 200 (by decide +kernel) (by decide +kernel)
theorem qm_201 : Cond.laysFinal "QuorumLog$Message" "QuorumLog$Message" "entries" "[LQuorumLog$Entry;" ∈ qu_W := qu_in 201 (by decide +kernel) (by decide +kernel)
theorem qm_203 : Cond.lays "QuorumLog$Message" "QuorumLog$Message" "kind" "I" ∈ qu_W := qu_in 203 (by decide +kernel) (by decide +kernel)
theorem qm_205 : Cond.lays "QuorumLog$Message" "QuorumLog$Message" "sender" "I" ∈ qu_W := qu_in 205 (by decide +kernel) (by decide +kernel)
theorem qm_207 : Cond.lays "QuorumLog$Message" "QuorumLog$Message" "receiver" "I" ∈ qu_W := qu_in 207 (by decide +kernel) (by decide +kernel)
theorem qm_209 : Cond.lays "QuorumLog$Message" "QuorumLog$Message" "term" "I" ∈ qu_W := qu_in 209 (by decide +kernel) (by decide +kernel)
theorem qm_211 : Cond.lays "QuorumLog$Message" "QuorumLog$Message" "index" "I" ∈ qu_W := qu_in 211 (by decide +kernel) (by decide +kernel)
theorem qm_213 : Cond.lays "QuorumLog$Message" "QuorumLog$Message" "logTerm" "I" ∈ qu_W := qu_in 213 (by decide +kernel) (by decide +kernel)
theorem qm_215 : Cond.lays "QuorumLog$Message" "QuorumLog$Message" "size" "I" ∈ qu_W := qu_in 215 (by decide +kernel) (by decide +kernel)
theorem qm_217 : Cond.lays "QuorumLog$Message" "QuorumLog$Message" "commit" "I" ∈ qu_W := qu_in 217 (by decide +kernel) (by decide +kernel)
theorem qm_219 : Cond.lays "QuorumLog$Message" "QuorumLog$Message" "round" "I" ∈ qu_W := qu_in 219 (by decide +kernel) (by decide +kernel)
theorem qm_221 : Cond.lays "QuorumLog$Message" "QuorumLog$Message" "yes" "Z" ∈ qu_W := qu_in 221 (by decide +kernel) (by decide +kernel)
theorem qm_223 : Cond.lays "QuorumLog$Message" "QuorumLog$Message" "snapshot" "LQuorumLog$Snapshot;" ∈ qu_W := qu_in 223 (by decide +kernel) (by decide +kernel)
theorem qm_226 : Cond.fieldLink "QuorumLog$Row" 11 "QuorumLog$Row" "places" "[LQuorumLog$Message;" ∈ qu_W := qu_in 226 (by decide +kernel) (by decide +kernel)
theorem qm_227 : Cond.fieldLink "QuorumLog" 205 "QuorumLog$Row" "places" "[LQuorumLog$Message;" ∈ qu_W := qu_in 227 (by decide +kernel) (by decide +kernel)
theorem qm_228 : Cond.fieldLink "QuorumLog$Row" 20 "QuorumLog$Row" "taken" "LQuorumLog$Message;" ∈ qu_W := qu_in 228 (by decide +kernel) (by decide +kernel)
theorem qm_229 : Cond.fieldLink "QuorumLog$Row" 24 "QuorumLog$Row" "count" "I" ∈ qu_W := qu_in 229 (by decide +kernel) (by decide +kernel)
theorem qm_230 : Cond.fieldLink "QuorumLog" 204 "QuorumLog$Row" "count" "I" ∈ qu_W := qu_in 230 (by decide +kernel) (by decide +kernel)
theorem qm_231 : Cond.laysFinal "QuorumLog$Row" "QuorumLog$Row" "places" "[LQuorumLog$Message;" ∈ qu_W := qu_in 231 (by decide +kernel) (by decide +kernel)
theorem qm_233 : Cond.lays "QuorumLog$Row" "QuorumLog$Row" "taken" "LQuorumLog$Message;" ∈ qu_W := qu_in 233 (by decide +kernel) (by decide +kernel)
theorem qm_235 : Cond.lays "QuorumLog$Row" "QuorumLog$Row" "count" "I" ∈ qu_W := qu_in 235 (by decide +kernel) (by decide +kernel)
theorem qm_238 : Cond.fieldLink "QuorumLog" 11 "QuorumLog" "servers" "[LQuorumLog$Server;" ∈ qu_W := qu_in 238 (by decide +kernel) (by decide +kernel)
theorem qm_239 : Cond.fieldLink "QuorumLog" 35 "QuorumLog" "row" "LQuorumLog$Row;" ∈ qu_W := qu_in 239 (by decide +kernel) (by decide +kernel)
theorem qm_240 : Cond.fieldLink "QuorumLog" 18 "QuorumLog" "reads" "LQuorumLog$Reads;" ∈ qu_W := qu_in 240 (by decide +kernel) (by decide +kernel)
theorem qm_241 : Cond.laysFinal "QuorumLog" "QuorumLog" "servers" "[LQuorumLog$Server;" ∈ qu_W := qu_in 241 (by decide +kernel) (by decide +kernel)
theorem qm_243 : Cond.laysFinal "QuorumLog" "QuorumLog" "row" "LQuorumLog$Row;" ∈ qu_W := qu_in 243 (by decide +kernel) (by decide +kernel)
theorem qm_245 : Cond.laysFinal "QuorumLog" "QuorumLog" "reads" "LQuorumLog$Reads;" ∈ qu_W := qu_in 245 (by decide +kernel) (by decide +kernel)
theorem qm_251 : Cond.code y_Q_timer c_Q_timer 3 (some .boolean) ∈ qu_W := qu_in 251 (by decide +kernel) (by decide +kernel)
theorem qm_252 : Cond.methodLink "QuorumLog" 39 y_Q_isServer ∈ qu_W := qu_in 252 (by decide +kernel) (by decide +kernel)
theorem qm_253 : Cond.static y_Q_isServer ∈ qu_W := qu_in 253 (by decide +kernel) (by decide +kernel)
theorem qm_254 : Cond.code y_Q_isServer c_Q_isServer 1 (some .boolean) ∈ qu_W := qu_in 254 (by decide +kernel) (by decide +kernel)
theorem qm_255 : Cond.methodLink "QuorumLog" 43 y_S_mayAsk ∈ qu_W := qu_in 255 (by decide +kernel) (by decide +kernel)
theorem qm_256 : Cond.instanceMethod y_S_mayAsk ∈ qu_W := qu_in 256 (by decide +kernel) (by decide +kernel)
theorem qm_257 : Cond.selects "QuorumLog$Server" y_S_mayAsk y_S_mayAsk ∈ qu_W := qu_in 257 (by decide +kernel) (by decide +kernel)
theorem qm_258 : Cond.code y_S_mayAsk c_S_mayAsk 1 (some .boolean) ∈ qu_W := qu_in 258 (by decide +kernel) (by decide +kernel)
theorem qm_259 : Cond.methodLink "QuorumLog$Server" 44 y_L_configuration ∈ qu_W := qu_in 259 (by decide +kernel) (by decide +kernel)
theorem qm_260 : Cond.instanceMethod y_L_configuration ∈ qu_W := qu_in 260 (by decide +kernel) (by decide +kernel)
theorem qm_261 : Cond.selects "QuorumLog$Log" y_L_configuration y_L_configuration ∈ qu_W := qu_in 261 (by decide +kernel) (by decide +kernel)
theorem qm_262 : Cond.code y_L_configuration c_L_configuration 1 (some .int) ∈ qu_W := qu_in 262 (by decide +kernel) (by decide +kernel)
theorem qm_263 : Cond.methodLink "QuorumLog$Log" 30 y_L_last ∈ qu_W := qu_in 263 (by decide +kernel) (by decide +kernel)
theorem qm_264 : Cond.instanceMethod y_L_last ∈ qu_W := qu_in 264 (by decide +kernel) (by decide +kernel)
theorem qm_265 : Cond.selects "QuorumLog$Log" y_L_last y_L_last ∈ qu_W := qu_in 265 (by decide +kernel) (by decide +kernel)
theorem qm_266 : Cond.code y_L_last c_L_last 1 (some .int) ∈ qu_W := qu_in 266 (by decide +kernel) (by decide +kernel)
theorem qm_267 : Cond.methodLink "QuorumLog$Log" 49 y_L_latestMembersUpTo ∈ qu_W := qu_in 267 (by decide +kernel) (by decide +kernel)
theorem qm_268 : Cond.instanceMethod y_L_latestMembersUpTo ∈ qu_W := qu_in 268 (by decide +kernel) (by decide +kernel)
theorem qm_269 : Cond.selects "QuorumLog$Log" y_L_latestMembersUpTo y_L_latestMembersUpTo ∈ qu_W := qu_in 269 (by decide +kernel) (by decide +kernel)
theorem qm_270 : Cond.code y_L_latestMembersUpTo c_L_latestMembersUpTo 4 (some .int) ∈ qu_W := qu_in 270 (by decide +kernel) (by decide +kernel)
theorem qm_271 : Cond.methodLink "QuorumLog$Log" 41 y_L_find ∈ qu_W := qu_in 271 (by decide +kernel) (by decide +kernel)
theorem qm_272 : Cond.instanceMethod y_L_find ∈ qu_W := qu_in 272 (by decide +kernel) (by decide +kernel)
theorem qm_273 : Cond.selects "QuorumLog$Log" y_L_find y_L_find ∈ qu_W := qu_in 273 (by decide +kernel) (by decide +kernel)
theorem qm_274 : Cond.code y_L_find c_L_find 3 (some (.object "QuorumLog$Entry")) ∈ qu_W := qu_in 274 (by decide +kernel) (by decide +kernel)
theorem qm_275 : Cond.methodLink "QuorumLog$Log" 52 y_L_membersAt ∈ qu_W := qu_in 275 (by decide +kernel) (by decide +kernel)
theorem qm_276 : Cond.instanceMethod y_L_membersAt ∈ qu_W := qu_in 276 (by decide +kernel) (by decide +kernel)
theorem qm_277 : Cond.selects "QuorumLog$Log" y_L_membersAt y_L_membersAt ∈ qu_W := qu_in 277 (by decide +kernel) (by decide +kernel)
theorem qm_278 : Cond.code y_L_membersAt c_L_membersAt 3 (some .int) ∈ qu_W := qu_in 278 (by decide +kernel) (by decide +kernel)
theorem qm_280 : Cond.static y_Q_isIn ∈ qu_W := qu_in 280 (by decide +kernel) (by decide +kernel)
theorem qm_281 : Cond.code y_Q_isIn c_Q_isIn 2 (some .boolean) ∈ qu_W := qu_in 281 (by decide +kernel) (by decide +kernel)
theorem qm_282 : Cond.methodLink "QuorumLog" 64 y_Q_askAll ∈ qu_W := qu_in 282 (by decide +kernel) (by decide +kernel)
theorem qm_284 : Cond.instanceMethod y_Q_askAll ∈ qu_W := qu_in 284 (by decide +kernel) (by decide +kernel)
theorem qm_285 : Cond.code y_Q_askAll c_Q_askAll 7 none ∈ qu_W := qu_in 285 (by decide +kernel) (by decide +kernel)
theorem qm_286 : Cond.methodLink "QuorumLog" 115 y_L_configuration ∈ qu_W := qu_in 286 (by decide +kernel) (by decide +kernel)
theorem qm_287 : Cond.methodLink "QuorumLog" 250 y_Q_isIn ∈ qu_W := qu_in 287 (by decide +kernel) (by decide +kernel)
theorem qm_288 : Cond.methodLink "QuorumLog" 254 y_W_send ∈ qu_W := qu_in 288 (by decide +kernel) (by decide +kernel)
theorem qm_289 : Cond.instanceMethod y_W_send ∈ qu_W := qu_in 289 (by decide +kernel) (by decide +kernel)
theorem qm_290 : Cond.selects "QuorumLog$Row" y_W_send y_W_send ∈ qu_W := qu_in 290 (by decide +kernel) (by decide +kernel)
theorem qm_291 : Cond.code y_W_send c_W_send 6 (some (.object "QuorumLog$Message")) ∈ qu_W := qu_in 291 (by decide +kernel) (by decide +kernel)
theorem qm_292 : Cond.methodLink "QuorumLog$Row" 28 y_M_begin ∈ qu_W := qu_in 292 (by decide +kernel) (by decide +kernel)
theorem qm_293 : Cond.instanceMethod y_M_begin ∈ qu_W := qu_in 293 (by decide +kernel) (by decide +kernel)
theorem qm_294 : Cond.selects "QuorumLog$Message" y_M_begin y_M_begin ∈ qu_W := qu_in 294 (by decide +kernel) (by decide +kernel)
theorem qm_295 : Cond.code y_M_begin c_M_begin 5 none ∈ qu_W := qu_in 295 (by decide +kernel) (by decide +kernel)
theorem qm_296 : Cond.methodLink "QuorumLog" 126 y_L_last ∈ qu_W := qu_in 296 (by decide +kernel) (by decide +kernel)
theorem qm_297 : Cond.methodLink "QuorumLog" 258 y_L_lastTerm ∈ qu_W := qu_in 297 (by decide +kernel) (by decide +kernel)
theorem qm_298 : Cond.instanceMethod y_L_lastTerm ∈ qu_W := qu_in 298 (by decide +kernel) (by decide +kernel)
theorem qm_299 : Cond.selects "QuorumLog$Log" y_L_lastTerm y_L_lastTerm ∈ qu_W := qu_in 299 (by decide +kernel) (by decide +kernel)
theorem qm_300 : Cond.code y_L_lastTerm c_L_lastTerm 1 (some .int) ∈ qu_W := qu_in 300 (by decide +kernel) (by decide +kernel)
theorem qm_301 : Cond.methodLink "QuorumLog$Log" 34 y_L_termAt ∈ qu_W := qu_in 301 (by decide +kernel) (by decide +kernel)
theorem qm_302 : Cond.instanceMethod y_L_termAt ∈ qu_W := qu_in 302 (by decide +kernel) (by decide +kernel)
theorem qm_303 : Cond.selects "QuorumLog$Log" y_L_termAt y_L_termAt ∈ qu_W := qu_in 303 (by decide +kernel) (by decide +kernel)
theorem qm_304 : Cond.code y_L_termAt c_L_termAt 3 (some .int) ∈ qu_W := qu_in 304 (by decide +kernel) (by decide +kernel)
theorem qm_305 : Cond.methodLink "QuorumLog" 68 y_Q_standIfMostSaidYes ∈ qu_W := qu_in 305 (by decide +kernel) (by decide +kernel)
theorem qm_307 : Cond.instanceMethod y_Q_standIfMostSaidYes ∈ qu_W := qu_in 307 (by decide +kernel) (by decide +kernel)
theorem qm_308 : Cond.code y_Q_standIfMostSaidYes c_Q_standIfMostSaidYes 2 none ∈ qu_W := qu_in 308 (by decide +kernel) (by decide +kernel)
theorem qm_309 : Cond.methodLink "QuorumLog" 264 y_Q_areMost ∈ qu_W := qu_in 309 (by decide +kernel) (by decide +kernel)
theorem qm_310 : Cond.static y_Q_areMost ∈ qu_W := qu_in 310 (by decide +kernel) (by decide +kernel)
theorem qm_311 : Cond.code y_Q_areMost c_Q_areMost 2 (some .boolean) ∈ qu_W := qu_in 311 (by decide +kernel) (by decide +kernel)
theorem qm_312 : Cond.methodLink "QuorumLog" 243 y_I_bitCount ∈ qu_W := qu_in 312 (by decide +kernel) (by decide +kernel)
theorem qm_313 : Cond.static y_I_bitCount ∈ qu_W := qu_in 313 (by decide +kernel) (by decide +kernel)
theorem qm_314 : Cond.code y_I_bitCount c_I_bitCount 1 (some .int) ∈ qu_W := qu_in 314 (by decide +kernel) (by decide +kernel)
theorem qm_318 : Cond.methodLink "QuorumLog" 72 y_Q_leadIfMostSaidYes ∈ qu_W := qu_in 318 (by decide +kernel) (by decide +kernel)
theorem qm_320 : Cond.instanceMethod y_Q_leadIfMostSaidYes ∈ qu_W := qu_in 320 (by decide +kernel) (by decide +kernel)
theorem qm_321 : Cond.code y_Q_leadIfMostSaidYes c_Q_leadIfMostSaidYes 3 none ∈ qu_W := qu_in 321 (by decide +kernel) (by decide +kernel)
theorem qm_322 : Cond.classLink "QuorumLog" 101 "QuorumLog$Entry" ∈ qu_W := qu_in 322 (by decide +kernel) (by decide +kernel)
theorem qm_323 : Cond.instantiable "QuorumLog$Entry" 4 ∈ qu_W := qu_in 323 (by decide +kernel) (by decide +kernel)
theorem qm_324 : Cond.methodLink "QuorumLog" 103 y_E_init ∈ qu_W := qu_in 324 (by decide +kernel) (by decide +kernel)
theorem qm_325 : Cond.instanceMethod y_E_init ∈ qu_W := qu_in 325 (by decide +kernel) (by decide +kernel)
theorem qm_326 : Cond.code y_E_init c_E_init 5 none ∈ qu_W := qu_in 326 (by decide +kernel) (by decide +kernel)
theorem qm_327 : Cond.methodLink "QuorumLog$Entry" 1 Lib.objectInit ∈ qu_W := qu_in 327 (by decide +kernel) (by decide +kernel)
theorem qm_328 : Cond.fieldLink "QuorumLog$Entry" 7 "QuorumLog$Entry" "term" "I" ∈ qu_W := qu_in 328 (by decide +kernel) (by decide +kernel)
theorem qm_329 : Cond.fieldLink "QuorumLog$Log" 45 "QuorumLog$Entry" "term" "I" ∈ qu_W := qu_in 329 (by decide +kernel) (by decide +kernel)
theorem qm_330 : Cond.fieldLink "QuorumLog" 227 "QuorumLog$Entry" "term" "I" ∈ qu_W := qu_in 330 (by decide +kernel) (by decide +kernel)
theorem qm_331 : Cond.fieldLink "QuorumLog$Entry" 13 "QuorumLog$Entry" "sort" "I" ∈ qu_W := qu_in 331 (by decide +kernel) (by decide +kernel)
theorem qm_332 : Cond.fieldLink "QuorumLog$Log" 46 "QuorumLog$Entry" "sort" "I" ∈ qu_W := qu_in 332 (by decide +kernel) (by decide +kernel)
theorem qm_333 : Cond.fieldLink "QuorumLog" 228 "QuorumLog$Entry" "sort" "I" ∈ qu_W := qu_in 333 (by decide +kernel) (by decide +kernel)
theorem qm_334 : Cond.fieldLink "QuorumLog$Entry" 16 "QuorumLog$Entry" "subject" "I" ∈ qu_W := qu_in 334 (by decide +kernel) (by decide +kernel)
theorem qm_335 : Cond.fieldLink "QuorumLog$Log" 58 "QuorumLog$Entry" "subject" "I" ∈ qu_W := qu_in 335 (by decide +kernel) (by decide +kernel)
theorem qm_336 : Cond.fieldLink "QuorumLog" 231 "QuorumLog$Entry" "subject" "I" ∈ qu_W := qu_in 336 (by decide +kernel) (by decide +kernel)
theorem qm_337 : Cond.fieldLink "QuorumLog$Entry" 19 "QuorumLog$Entry" "value" "I" ∈ qu_W := qu_in 337 (by decide +kernel) (by decide +kernel)
theorem qm_338 : Cond.fieldLink "QuorumLog$Log" 61 "QuorumLog$Entry" "value" "I" ∈ qu_W := qu_in 338 (by decide +kernel) (by decide +kernel)
theorem qm_339 : Cond.fieldLink "QuorumLog" 234 "QuorumLog$Entry" "value" "I" ∈ qu_W := qu_in 339 (by decide +kernel) (by decide +kernel)
theorem qm_340 : Cond.laysFinal "QuorumLog$Entry" "QuorumLog$Entry" "term" "I" ∈ qu_W := qu_in 340 (by decide +kernel) (by decide +kernel)
theorem qm_342 : Cond.laysFinal "QuorumLog$Entry" "QuorumLog$Entry" "sort" "I" ∈ qu_W := qu_in 342 (by decide +kernel) (by decide +kernel)
theorem qm_344 : Cond.laysFinal "QuorumLog$Entry" "QuorumLog$Entry" "subject" "I" ∈ qu_W := qu_in 344 (by decide +kernel) (by decide +kernel)
theorem qm_346 : Cond.laysFinal "QuorumLog$Entry" "QuorumLog$Entry" "value" "I" ∈ qu_W := qu_in 346 (by decide +kernel) (by decide +kernel)
theorem qm_349 : Cond.methodLink "QuorumLog" 106 y_Q_append ∈ qu_W := qu_in 349 (by decide +kernel) (by decide +kernel)
theorem qm_351 : Cond.instanceMethod y_Q_append ∈ qu_W := qu_in 351 (by decide +kernel) (by decide +kernel)
theorem qm_352 : Cond.code y_Q_append c_Q_append 3 (some .int) ∈ qu_W := qu_in 352 (by decide +kernel) (by decide +kernel)
theorem qm_353 : Cond.methodLink "QuorumLog" 276 y_L_add ∈ qu_W := qu_in 353 (by decide +kernel) (by decide +kernel)
theorem qm_354 : Cond.instanceMethod y_L_add ∈ qu_W := qu_in 354 (by decide +kernel) (by decide +kernel)
theorem qm_355 : Cond.selects "QuorumLog$Log" y_L_add y_L_add ∈ qu_W := qu_in 355 (by decide +kernel) (by decide +kernel)
theorem qm_356 : Cond.code y_L_add c_L_add 2 (some .boolean) ∈ qu_W := qu_in 356 (by decide +kernel) (by decide +kernel)
theorem qm_357 : Cond.methodLink "QuorumLog" 280 y_Q_lookAtCommit ∈ qu_W := qu_in 357 (by decide +kernel) (by decide +kernel)
theorem qm_359 : Cond.instanceMethod y_Q_lookAtCommit ∈ qu_W := qu_in 359 (by decide +kernel) (by decide +kernel)
theorem qm_360 : Cond.code y_Q_lookAtCommit c_Q_lookAtCommit 4 none ∈ qu_W := qu_in 360 (by decide +kernel) (by decide +kernel)
theorem qm_361 : Cond.methodLink "QuorumLog" 283 y_L_termAt ∈ qu_W := qu_in 361 (by decide +kernel) (by decide +kernel)
theorem qm_362 : Cond.methodLink "QuorumLog" 286 y_S_holdersOf ∈ qu_W := qu_in 362 (by decide +kernel) (by decide +kernel)
theorem qm_363 : Cond.instanceMethod y_S_holdersOf ∈ qu_W := qu_in 363 (by decide +kernel) (by decide +kernel)
theorem qm_364 : Cond.selects "QuorumLog$Server" y_S_holdersOf y_S_holdersOf ∈ qu_W := qu_in 364 (by decide +kernel) (by decide +kernel)
theorem qm_365 : Cond.code y_S_holdersOf c_S_holdersOf 2 (some .int) ∈ qu_W := qu_in 365 (by decide +kernel) (by decide +kernel)
theorem qm_366 : Cond.methodLink "QuorumLog$Server" 69 y_S_reachedBy ∈ qu_W := qu_in 366 (by decide +kernel) (by decide +kernel)
theorem qm_368 : Cond.instanceMethod y_S_reachedBy ∈ qu_W := qu_in 368 (by decide +kernel) (by decide +kernel)
theorem qm_369 : Cond.code y_S_reachedBy c_S_reachedBy 5 (some .int) ∈ qu_W := qu_in 369 (by decide +kernel) (by decide +kernel)
theorem qm_370 : Cond.methodLink "QuorumLog" 129 y_L_latestMembersUpTo ∈ qu_W := qu_in 370 (by decide +kernel) (by decide +kernel)
theorem qm_371 : Cond.methodLink "QuorumLog" 184 y_Q_follow ∈ qu_W := qu_in 371 (by decide +kernel) (by decide +kernel)
theorem qm_373 : Cond.instanceMethod y_Q_follow ∈ qu_W := qu_in 373 (by decide +kernel) (by decide +kernel)
theorem qm_374 : Cond.code y_Q_follow c_Q_follow 2 none ∈ qu_W := qu_in 374 (by decide +kernel) (by decide +kernel)
theorem qm_375 : Cond.methodLink "QuorumLog" 315 y_R_failAllOf ∈ qu_W := qu_in 375 (by decide +kernel) (by decide +kernel)
theorem qm_376 : Cond.instanceMethod y_R_failAllOf ∈ qu_W := qu_in 376 (by decide +kernel) (by decide +kernel)
theorem qm_377 : Cond.selects "QuorumLog$Reads" y_R_failAllOf y_R_failAllOf ∈ qu_W := qu_in 377 (by decide +kernel) (by decide +kernel)
theorem qm_378 : Cond.code y_R_failAllOf c_R_failAllOf 3 none ∈ qu_W := qu_in 378 (by decide +kernel) (by decide +kernel)
theorem qm_379 : Cond.methodLink "QuorumLog$Reads" 31 y_R_isKeptBy ∈ qu_W := qu_in 379 (by decide +kernel) (by decide +kernel)
theorem qm_380 : Cond.instanceMethod y_R_isKeptBy ∈ qu_W := qu_in 380 (by decide +kernel) (by decide +kernel)
theorem qm_381 : Cond.selects "QuorumLog$Reads" y_R_isKeptBy y_R_isKeptBy ∈ qu_W := qu_in 381 (by decide +kernel) (by decide +kernel)
theorem qm_382 : Cond.code y_R_isKeptBy c_R_isKeptBy 3 (some .boolean) ∈ qu_W := qu_in 382 (by decide +kernel) (by decide +kernel)
theorem qm_383 : Cond.methodLink "QuorumLog" 78 y_Q_sendToAll ∈ qu_W := qu_in 383 (by decide +kernel) (by decide +kernel)
theorem qm_385 : Cond.instanceMethod y_Q_sendToAll ∈ qu_W := qu_in 385 (by decide +kernel) (by decide +kernel)
theorem qm_386 : Cond.code y_Q_sendToAll c_Q_sendToAll 4 none ∈ qu_W := qu_in 386 (by decide +kernel) (by decide +kernel)
theorem qm_387 : Cond.methodLink "QuorumLog" 289 y_Q_sendTo ∈ qu_W := qu_in 387 (by decide +kernel) (by decide +kernel)
theorem qm_389 : Cond.instanceMethod y_Q_sendTo ∈ qu_W := qu_in 389 (by decide +kernel) (by decide +kernel)
theorem qm_390 : Cond.code y_Q_sendTo c_Q_sendTo 6 none ∈ qu_W := qu_in 390 (by decide +kernel) (by decide +kernel)
theorem qm_391 : Cond.methodLink "QuorumLog" 299 y_L_copyBehind ∈ qu_W := qu_in 391 (by decide +kernel) (by decide +kernel)
theorem qm_392 : Cond.instanceMethod y_L_copyBehind ∈ qu_W := qu_in 392 (by decide +kernel) (by decide +kernel)
theorem qm_393 : Cond.selects "QuorumLog$Log" y_L_copyBehind y_L_copyBehind ∈ qu_W := qu_in 393 (by decide +kernel) (by decide +kernel)
theorem qm_394 : Cond.code y_L_copyBehind c_L_copyBehind 5 (some .int) ∈ qu_W := qu_in 394 (by decide +kernel) (by decide +kernel)
theorem qm_398 : Cond.code y_Q_beat c_Q_beat 2 (some .boolean) ∈ qu_W := qu_in 398 (by decide +kernel) (by decide +kernel)
theorem qm_399 : Cond.methodLink "QuorumLog" 75 y_S_leads ∈ qu_W := qu_in 399 (by decide +kernel) (by decide +kernel)
theorem qm_400 : Cond.instanceMethod y_S_leads ∈ qu_W := qu_in 400 (by decide +kernel) (by decide +kernel)
theorem qm_401 : Cond.selects "QuorumLog$Server" y_S_leads y_S_leads ∈ qu_W := qu_in 401 (by decide +kernel) (by decide +kernel)
theorem qm_402 : Cond.code y_S_leads c_S_leads 1 (some .boolean) ∈ qu_W := qu_in 402 (by decide +kernel) (by decide +kernel)
theorem qm_406 : Cond.code y_Q_outcome c_Q_outcome 2 (some .int) ∈ qu_W := qu_in 406 (by decide +kernel) (by decide +kernel)
theorem qm_407 : Cond.methodLink "QuorumLog" 157 y_R_holds ∈ qu_W := qu_in 407 (by decide +kernel) (by decide +kernel)
theorem qm_408 : Cond.instanceMethod y_R_holds ∈ qu_W := qu_in 408 (by decide +kernel) (by decide +kernel)
theorem qm_409 : Cond.selects "QuorumLog$Reads" y_R_holds y_R_holds ∈ qu_W := qu_in 409 (by decide +kernel) (by decide +kernel)
theorem qm_410 : Cond.code y_R_holds c_R_holds 2 (some .boolean) ∈ qu_W := qu_in 410 (by decide +kernel) (by decide +kernel)
theorem qm_414 : Cond.code y_Q_value c_Q_value 2 (some .int) ∈ qu_W := qu_in 414 (by decide +kernel) (by decide +kernel)
theorem qm_418 : Cond.code y_Q_compact c_Q_compact 3 (some .boolean) ∈ qu_W := qu_in 418 (by decide +kernel) (by decide +kernel)
theorem qm_419 : Cond.methodLink "QuorumLog" 177 y_L_snapshotAt ∈ qu_W := qu_in 419 (by decide +kernel) (by decide +kernel)
theorem qm_420 : Cond.instanceMethod y_L_snapshotAt ∈ qu_W := qu_in 420 (by decide +kernel) (by decide +kernel)
theorem qm_421 : Cond.selects "QuorumLog$Log" y_L_snapshotAt y_L_snapshotAt ∈ qu_W := qu_in 421 (by decide +kernel) (by decide +kernel)
theorem qm_422 : Cond.code y_L_snapshotAt c_L_snapshotAt 4 (some (.object "QuorumLog$Snapshot")) ∈ qu_W := qu_in 422 (by decide +kernel) (by decide +kernel)
theorem qm_423 : Cond.methodLink "QuorumLog$Log" 93 y_L_storedUpTo ∈ qu_W := qu_in 423 (by decide +kernel) (by decide +kernel)
theorem qm_424 : Cond.instanceMethod y_L_storedUpTo ∈ qu_W := qu_in 424 (by decide +kernel) (by decide +kernel)
theorem qm_425 : Cond.selects "QuorumLog$Log" y_L_storedUpTo y_L_storedUpTo ∈ qu_W := qu_in 425 (by decide +kernel) (by decide +kernel)
theorem qm_426 : Cond.code y_L_storedUpTo c_L_storedUpTo 5 (some .int) ∈ qu_W := qu_in 426 (by decide +kernel) (by decide +kernel)
theorem qm_427 : Cond.classLink "QuorumLog$Log" 22 "QuorumLog$Snapshot" ∈ qu_W := qu_in 427 (by decide +kernel) (by decide +kernel)
theorem qm_428 : Cond.methodLink "QuorumLog$Log" 97 y_N_init ∈ qu_W := qu_in 428 (by decide +kernel) (by decide +kernel)
theorem qm_429 : Cond.methodLink "QuorumLog" 181 y_L_beginBehind ∈ qu_W := qu_in 429 (by decide +kernel) (by decide +kernel)
theorem qm_430 : Cond.instanceMethod y_L_beginBehind ∈ qu_W := qu_in 430 (by decide +kernel) (by decide +kernel)
theorem qm_431 : Cond.selects "QuorumLog$Log" y_L_beginBehind y_L_beginBehind ∈ qu_W := qu_in 431 (by decide +kernel) (by decide +kernel)
theorem qm_432 : Cond.code y_L_beginBehind c_L_beginBehind 6 none ∈ qu_W := qu_in 432 (by decide +kernel) (by decide +kernel)
theorem qm_436 : Cond.code y_Q_crash c_Q_crash 3 (some .boolean) ∈ qu_W := qu_in 436 (by decide +kernel) (by decide +kernel)
theorem qm_440 : Cond.code y_Q_restart c_Q_restart 2 (some .boolean) ∈ qu_W := qu_in 440 (by decide +kernel) (by decide +kernel)
theorem qm_444 : Cond.code y_Q_deliver c_Q_deliver 4 (some .int) ∈ qu_W := qu_in 444 (by decide +kernel) (by decide +kernel)
theorem qm_445 : Cond.methodLink "QuorumLog" 187 y_W_holds ∈ qu_W := qu_in 445 (by decide +kernel) (by decide +kernel)
theorem qm_446 : Cond.instanceMethod y_W_holds ∈ qu_W := qu_in 446 (by decide +kernel) (by decide +kernel)
theorem qm_447 : Cond.selects "QuorumLog$Row" y_W_holds y_W_holds ∈ qu_W := qu_in 447 (by decide +kernel) (by decide +kernel)
theorem qm_448 : Cond.code y_W_holds c_W_holds 2 (some .boolean) ∈ qu_W := qu_in 448 (by decide +kernel) (by decide +kernel)
theorem qm_449 : Cond.methodLink "QuorumLog" 188 y_W_take ∈ qu_W := qu_in 449 (by decide +kernel) (by decide +kernel)
theorem qm_450 : Cond.instanceMethod y_W_take ∈ qu_W := qu_in 450 (by decide +kernel) (by decide +kernel)
theorem qm_451 : Cond.selects "QuorumLog$Row" y_W_take y_W_take ∈ qu_W := qu_in 451 (by decide +kernel) (by decide +kernel)
theorem qm_452 : Cond.code y_W_take c_W_take 4 (some (.object "QuorumLog$Message")) ∈ qu_W := qu_in 452 (by decide +kernel) (by decide +kernel)
theorem qm_453 : Cond.methodLink "QuorumLog" 197 y_Q_come ∈ qu_W := qu_in 453 (by decide +kernel) (by decide +kernel)
theorem qm_455 : Cond.instanceMethod y_Q_come ∈ qu_W := qu_in 455 (by decide +kernel) (by decide +kernel)
theorem qm_456 : Cond.code y_Q_come c_Q_come 3 none ∈ qu_W := qu_in 456 (by decide +kernel) (by decide +kernel)
theorem qm_457 : Cond.methodLink "QuorumLog" 319 y_Q_enterTerm ∈ qu_W := qu_in 457 (by decide +kernel) (by decide +kernel)
theorem qm_459 : Cond.instanceMethod y_Q_enterTerm ∈ qu_W := qu_in 459 (by decide +kernel) (by decide +kernel)
theorem qm_460 : Cond.code y_Q_enterTerm c_Q_enterTerm 3 none ∈ qu_W := qu_in 460 (by decide +kernel) (by decide +kernel)
theorem qm_461 : Cond.methodLink "QuorumLog" 322 y_Q_questionComes ∈ qu_W := qu_in 461 (by decide +kernel) (by decide +kernel)
theorem qm_463 : Cond.instanceMethod y_Q_questionComes ∈ qu_W := qu_in 463 (by decide +kernel) (by decide +kernel)
theorem qm_464 : Cond.code y_Q_questionComes c_Q_questionComes 5 none ∈ qu_W := qu_in 464 (by decide +kernel) (by decide +kernel)
theorem qm_465 : Cond.methodLink "QuorumLog" 343 y_L_isBehindOf ∈ qu_W := qu_in 465 (by decide +kernel) (by decide +kernel)
theorem qm_466 : Cond.instanceMethod y_L_isBehindOf ∈ qu_W := qu_in 466 (by decide +kernel) (by decide +kernel)
theorem qm_467 : Cond.selects "QuorumLog$Log" y_L_isBehindOf y_L_isBehindOf ∈ qu_W := qu_in 467 (by decide +kernel) (by decide +kernel)
theorem qm_468 : Cond.code y_L_isBehindOf c_L_isBehindOf 3 (some .boolean) ∈ qu_W := qu_in 468 (by decide +kernel) (by decide +kernel)
theorem qm_469 : Cond.methodLink "QuorumLog$Log" 68 y_L_lastTerm ∈ qu_W := qu_in 469 (by decide +kernel) (by decide +kernel)
theorem qm_470 : Cond.methodLink "QuorumLog" 325 y_Q_answerComes ∈ qu_W := qu_in 470 (by decide +kernel) (by decide +kernel)
theorem qm_472 : Cond.instanceMethod y_Q_answerComes ∈ qu_W := qu_in 472 (by decide +kernel) (by decide +kernel)
theorem qm_473 : Cond.code y_Q_answerComes c_Q_answerComes 3 none ∈ qu_W := qu_in 473 (by decide +kernel) (by decide +kernel)
theorem qm_474 : Cond.methodLink "QuorumLog" 328 y_Q_callComes ∈ qu_W := qu_in 474 (by decide +kernel) (by decide +kernel)
theorem qm_476 : Cond.instanceMethod y_Q_callComes ∈ qu_W := qu_in 476 (by decide +kernel) (by decide +kernel)
theorem qm_477 : Cond.code y_Q_callComes c_Q_callComes 6 none ∈ qu_W := qu_in 477 (by decide +kernel) (by decide +kernel)
theorem qm_478 : Cond.methodLink "QuorumLog" 331 y_Q_voteComes ∈ qu_W := qu_in 478 (by decide +kernel) (by decide +kernel)
theorem qm_480 : Cond.instanceMethod y_Q_voteComes ∈ qu_W := qu_in 480 (by decide +kernel) (by decide +kernel)
theorem qm_481 : Cond.code y_Q_voteComes c_Q_voteComes 3 none ∈ qu_W := qu_in 481 (by decide +kernel) (by decide +kernel)
theorem qm_482 : Cond.methodLink "QuorumLog" 334 y_Q_appendComes ∈ qu_W := qu_in 482 (by decide +kernel) (by decide +kernel)
theorem qm_484 : Cond.instanceMethod y_Q_appendComes ∈ qu_W := qu_in 484 (by decide +kernel) (by decide +kernel)
theorem qm_485 : Cond.code y_Q_appendComes c_Q_appendComes 4 none ∈ qu_W := qu_in 485 (by decide +kernel) (by decide +kernel)
theorem qm_486 : Cond.methodLink "QuorumLog" 347 y_Q_sendResult ∈ qu_W := qu_in 486 (by decide +kernel) (by decide +kernel)
theorem qm_488 : Cond.instanceMethod y_Q_sendResult ∈ qu_W := qu_in 488 (by decide +kernel) (by decide +kernel)
theorem qm_489 : Cond.code y_Q_sendResult c_Q_sendResult 7 none ∈ qu_W := qu_in 489 (by decide +kernel) (by decide +kernel)
theorem qm_490 : Cond.methodLink "QuorumLog" 351 y_L_fitsBehind ∈ qu_W := qu_in 490 (by decide +kernel) (by decide +kernel)
theorem qm_491 : Cond.instanceMethod y_L_fitsBehind ∈ qu_W := qu_in 491 (by decide +kernel) (by decide +kernel)
theorem qm_492 : Cond.selects "QuorumLog$Log" y_L_fitsBehind y_L_fitsBehind ∈ qu_W := qu_in 492 (by decide +kernel) (by decide +kernel)
theorem qm_493 : Cond.code y_L_fitsBehind c_L_fitsBehind 3 (some .boolean) ∈ qu_W := qu_in 493 (by decide +kernel) (by decide +kernel)
theorem qm_494 : Cond.methodLink "QuorumLog" 354 y_H_min ∈ qu_W := qu_in 494 (by decide +kernel) (by decide +kernel)
theorem qm_495 : Cond.static y_H_min ∈ qu_W := qu_in 495 (by decide +kernel) (by decide +kernel)
theorem qm_496 : Cond.code y_H_min c_H_min 2 (some .int) ∈ qu_W := qu_in 496 (by decide +kernel) (by decide +kernel)
theorem qm_497 : Cond.methodLink "QuorumLog" 360 y_H_max ∈ qu_W := qu_in 497 (by decide +kernel) (by decide +kernel)
theorem qm_498 : Cond.static y_H_max ∈ qu_W := qu_in 498 (by decide +kernel) (by decide +kernel)
theorem qm_499 : Cond.code y_H_max c_H_max 2 (some .int) ∈ qu_W := qu_in 499 (by decide +kernel) (by decide +kernel)
theorem qm_500 : Cond.methodLink "QuorumLog" 363 y_L_takeOver ∈ qu_W := qu_in 500 (by decide +kernel) (by decide +kernel)
theorem qm_501 : Cond.instanceMethod y_L_takeOver ∈ qu_W := qu_in 501 (by decide +kernel) (by decide +kernel)
theorem qm_502 : Cond.selects "QuorumLog$Log" y_L_takeOver y_L_takeOver ∈ qu_W := qu_in 502 (by decide +kernel) (by decide +kernel)
theorem qm_503 : Cond.code y_L_takeOver c_L_takeOver 4 (some .int) ∈ qu_W := qu_in 503 (by decide +kernel) (by decide +kernel)
theorem qm_504 : Cond.methodLink "QuorumLog$Log" 81 y_L_hasOrTakes ∈ qu_W := qu_in 504 (by decide +kernel) (by decide +kernel)
theorem qm_506 : Cond.instanceMethod y_L_hasOrTakes ∈ qu_W := qu_in 506 (by decide +kernel) (by decide +kernel)
theorem qm_507 : Cond.code y_L_hasOrTakes c_L_hasOrTakes 3 (some .boolean) ∈ qu_W := qu_in 507 (by decide +kernel) (by decide +kernel)
theorem qm_508 : Cond.methodLink "QuorumLog$Log" 85 y_L_cutFrom ∈ qu_W := qu_in 508 (by decide +kernel) (by decide +kernel)
theorem qm_509 : Cond.instanceMethod y_L_cutFrom ∈ qu_W := qu_in 509 (by decide +kernel) (by decide +kernel)
theorem qm_510 : Cond.selects "QuorumLog$Log" y_L_cutFrom y_L_cutFrom ∈ qu_W := qu_in 510 (by decide +kernel) (by decide +kernel)
theorem qm_511 : Cond.code y_L_cutFrom c_L_cutFrom 3 none ∈ qu_W := qu_in 511 (by decide +kernel) (by decide +kernel)
theorem qm_512 : Cond.methodLink "QuorumLog$Log" 89 y_L_add ∈ qu_W := qu_in 512 (by decide +kernel) (by decide +kernel)
theorem qm_513 : Cond.methodLink "QuorumLog" 337 y_Q_resultComes ∈ qu_W := qu_in 513 (by decide +kernel) (by decide +kernel)
theorem qm_515 : Cond.instanceMethod y_Q_resultComes ∈ qu_W := qu_in 515 (by decide +kernel) (by decide +kernel)
theorem qm_516 : Cond.code y_Q_resultComes c_Q_resultComes 5 none ∈ qu_W := qu_in 516 (by decide +kernel) (by decide +kernel)
theorem qm_517 : Cond.methodLink "QuorumLog" 154 y_Q_lookAtReads ∈ qu_W := qu_in 517 (by decide +kernel) (by decide +kernel)
theorem qm_519 : Cond.instanceMethod y_Q_lookAtReads ∈ qu_W := qu_in 519 (by decide +kernel) (by decide +kernel)
theorem qm_520 : Cond.code y_Q_lookAtReads c_Q_lookAtReads 4 none ∈ qu_W := qu_in 520 (by decide +kernel) (by decide +kernel)
theorem qm_521 : Cond.methodLink "QuorumLog" 303 y_R_isKeptBy ∈ qu_W := qu_in 521 (by decide +kernel) (by decide +kernel)
theorem qm_522 : Cond.methodLink "QuorumLog" 309 y_S_confirmersOf ∈ qu_W := qu_in 522 (by decide +kernel) (by decide +kernel)
theorem qm_523 : Cond.instanceMethod y_S_confirmersOf ∈ qu_W := qu_in 523 (by decide +kernel) (by decide +kernel)
theorem qm_524 : Cond.selects "QuorumLog$Server" y_S_confirmersOf y_S_confirmersOf ∈ qu_W := qu_in 524 (by decide +kernel) (by decide +kernel)
theorem qm_525 : Cond.code y_S_confirmersOf c_S_confirmersOf 2 (some .int) ∈ qu_W := qu_in 525 (by decide +kernel) (by decide +kernel)
theorem qm_526 : Cond.methodLink "QuorumLog" 240 y_S_storedNow ∈ qu_W := qu_in 526 (by decide +kernel) (by decide +kernel)
theorem qm_527 : Cond.instanceMethod y_S_storedNow ∈ qu_W := qu_in 527 (by decide +kernel) (by decide +kernel)
theorem qm_528 : Cond.selects "QuorumLog$Server" y_S_storedNow y_S_storedNow ∈ qu_W := qu_in 528 (by decide +kernel) (by decide +kernel)
theorem qm_529 : Cond.code y_S_storedNow c_S_storedNow 2 (some .int) ∈ qu_W := qu_in 529 (by decide +kernel) (by decide +kernel)
theorem qm_530 : Cond.methodLink "QuorumLog$Server" 65 y_L_storedUpTo ∈ qu_W := qu_in 530 (by decide +kernel) (by decide +kernel)
theorem qm_531 : Cond.methodLink "QuorumLog" 340 y_Q_installComes ∈ qu_W := qu_in 531 (by decide +kernel) (by decide +kernel)
theorem qm_533 : Cond.instanceMethod y_Q_installComes ∈ qu_W := qu_in 533 (by decide +kernel) (by decide +kernel)
theorem qm_534 : Cond.code y_Q_installComes c_Q_installComes 3 none ∈ qu_W := qu_in 534 (by decide +kernel) (by decide +kernel)
theorem qm_538 : Cond.code y_Q_lose c_Q_lose 2 (some .boolean) ∈ qu_W := qu_in 538 (by decide +kernel) (by decide +kernel)
theorem qm_542 : Cond.code y_Q_waiting c_Q_waiting 1 (some .int) ∈ qu_W := qu_in 542 (by decide +kernel) (by decide +kernel)
theorem qm_546 : Cond.code y_Q_message c_Q_message 4 (some .int) ∈ qu_W := qu_in 546 (by decide +kernel) (by decide +kernel)
theorem qm_550 : Cond.code y_Q_state c_Q_state 4 (some .int) ∈ qu_W := qu_in 550 (by decide +kernel) (by decide +kernel)
theorem qm_554 : Cond.code y_Q_entry c_Q_entry 5 (some .int) ∈ qu_W := qu_in 554 (by decide +kernel) (by decide +kernel)
theorem qm_555 : Cond.methodLink "QuorumLog" 223 y_L_find ∈ qu_W := qu_in 555 (by decide +kernel) (by decide +kernel)
theorem qm_559 : Cond.code y_Q_stored c_Q_stored 3 (some .int) ∈ qu_W := qu_in 559 (by decide +kernel) (by decide +kernel)
theorem qm_560 : Cond.methodLink "QuorumLog" 237 y_Q_isKey ∈ qu_W := qu_in 560 (by decide +kernel) (by decide +kernel)
theorem qm_561 : Cond.static y_Q_isKey ∈ qu_W := qu_in 561 (by decide +kernel) (by decide +kernel)
theorem qm_562 : Cond.code y_Q_isKey c_Q_isKey 1 (some .boolean) ∈ qu_W := qu_in 562 (by decide +kernel) (by decide +kernel)
theorem qm_565 : Cond.code y_Z_cell c_Z_cell 2 (some .int) ∈ qu_W := qu_in 565 (by decide +kernel) (by decide +kernel)
theorem qm_572 : Cond.methodLink "QuorumLogLaw" 7 y_Q_put ∈ qu_W := qu_in 572 (by decide +kernel) (by decide +kernel)
theorem qm_573 : Cond.instanceMethod y_Q_put ∈ qu_W := qu_in 573 (by decide +kernel) (by decide +kernel)
theorem qm_574 : Cond.selects "QuorumLog" y_Q_put y_Q_put ∈ qu_W := qu_in 574 (by decide +kernel) (by decide +kernel)
theorem qm_575 : Cond.code y_Q_put c_Q_put 5 (some .int) ∈ qu_W := qu_in 575 (by decide +kernel) (by decide +kernel)
theorem qm_576 : Cond.methodLink "QuorumLog" 81 y_Q_leaderFor ∈ qu_W := qu_in 576 (by decide +kernel) (by decide +kernel)
theorem qm_578 : Cond.instanceMethod y_Q_leaderFor ∈ qu_W := qu_in 578 (by decide +kernel) (by decide +kernel)
theorem qm_579 : Cond.code y_Q_leaderFor c_Q_leaderFor 3 (some (.object "QuorumLog$Server")) ∈ qu_W := qu_in 579 (by decide +kernel) (by decide +kernel)
theorem qm_683 : Cond.methodLink "QuorumLogLaw" 19 y_Q_change ∈ qu_W := qu_in 683 (by decide +kernel) (by decide +kernel)
theorem qm_684 : Cond.instanceMethod y_Q_change ∈ qu_W := qu_in 684 (by decide +kernel) (by decide +kernel)
theorem qm_685 : Cond.selects "QuorumLog" y_Q_change y_Q_change ∈ qu_W := qu_in 685 (by decide +kernel) (by decide +kernel)
theorem qm_686 : Cond.code y_Q_change c_Q_change 8 (some .int) ∈ qu_W := qu_in 686 (by decide +kernel) (by decide +kernel)
theorem qm_689 : Cond.methodLink "QuorumLog" 136 y_S_hasCommitOfItsTerm ∈ qu_W := qu_in 689 (by decide +kernel) (by decide +kernel)
theorem qm_690 : Cond.instanceMethod y_S_hasCommitOfItsTerm ∈ qu_W := qu_in 690 (by decide +kernel) (by decide +kernel)
theorem qm_691 : Cond.selects "QuorumLog$Server" y_S_hasCommitOfItsTerm y_S_hasCommitOfItsTerm ∈ qu_W := qu_in 691 (by decide +kernel) (by decide +kernel)
theorem qm_692 : Cond.code y_S_hasCommitOfItsTerm c_S_hasCommitOfItsTerm 1 (some .boolean) ∈ qu_W := qu_in 692 (by decide +kernel) (by decide +kernel)
theorem qm_693 : Cond.methodLink "QuorumLog$Server" 58 y_L_termAt ∈ qu_W := qu_in 693 (by decide +kernel) (by decide +kernel)
theorem qm_698 : Cond.methodLink "QuorumLogLaw" 23 y_Q_read ∈ qu_W := qu_in 698 (by decide +kernel) (by decide +kernel)
theorem qm_699 : Cond.instanceMethod y_Q_read ∈ qu_W := qu_in 699 (by decide +kernel) (by decide +kernel)
theorem qm_700 : Cond.selects "QuorumLog" y_Q_read y_Q_read ∈ qu_W := qu_in 700 (by decide +kernel) (by decide +kernel)
theorem qm_701 : Cond.code y_Q_read c_Q_read 5 (some .int) ∈ qu_W := qu_in 701 (by decide +kernel) (by decide +kernel)
theorem qm_702 : Cond.methodLink "QuorumLog" 141 y_R_keptBy ∈ qu_W := qu_in 702 (by decide +kernel) (by decide +kernel)
theorem qm_703 : Cond.instanceMethod y_R_keptBy ∈ qu_W := qu_in 703 (by decide +kernel) (by decide +kernel)
theorem qm_704 : Cond.selects "QuorumLog$Reads" y_R_keptBy y_R_keptBy ∈ qu_W := qu_in 704 (by decide +kernel) (by decide +kernel)
theorem qm_705 : Cond.code y_R_keptBy c_R_keptBy 4 (some .int) ∈ qu_W := qu_in 705 (by decide +kernel) (by decide +kernel)
theorem qm_707 : Cond.methodLink "QuorumLog" 150 y_R_keep ∈ qu_W := qu_in 707 (by decide +kernel) (by decide +kernel)
theorem qm_708 : Cond.instanceMethod y_R_keep ∈ qu_W := qu_in 708 (by decide +kernel) (by decide +kernel)
theorem qm_709 : Cond.selects "QuorumLog$Reads" y_R_keep y_R_keep ∈ qu_W := qu_in 709 (by decide +kernel) (by decide +kernel)
theorem qm_710 : Cond.code y_R_keep c_R_keep 5 (some .int) ∈ qu_W := qu_in 710 (by decide +kernel) (by decide +kernel)
theorem qm_715 : Cond.code y_D_init c_D_init 3 none ∈ qu_W := qu_in 715 (by decide +kernel) (by decide +kernel)
theorem qm_716 : Cond.methodLink "QuorumLogModel" 1 Lib.objectInit ∈ qu_W := qu_in 716 (by decide +kernel) (by decide +kernel)
theorem qm_717 : Cond.fieldLink "QuorumLogModel" 92 "QuorumLogModel" "code" "I" ∈ qu_W := qu_in 717 (by decide +kernel) (by decide +kernel)
theorem qm_718 : Cond.fieldLink "QuorumLogModel" 7 "QuorumLogModel" "down" "[Z" ∈ qu_W := qu_in 718 (by decide +kernel) (by decide +kernel)
theorem qm_719 : Cond.fieldLink "QuorumLogModel" 13 "QuorumLogModel" "term" "[I" ∈ qu_W := qu_in 719 (by decide +kernel) (by decide +kernel)
theorem qm_720 : Cond.fieldLink "QuorumLogModel" 17 "QuorumLogModel" "vote" "[I" ∈ qu_W := qu_in 720 (by decide +kernel) (by decide +kernel)
theorem qm_721 : Cond.fieldLink "QuorumLogModel" 20 "QuorumLogModel" "snapIndex" "[I" ∈ qu_W := qu_in 721 (by decide +kernel) (by decide +kernel)
theorem qm_722 : Cond.fieldLink "QuorumLogModel" 23 "QuorumLogModel" "snapTerm" "[I" ∈ qu_W := qu_in 722 (by decide +kernel) (by decide +kernel)
theorem qm_723 : Cond.fieldLink "QuorumLogModel" 26 "QuorumLogModel" "snapMembers" "[I" ∈ qu_W := qu_in 723 (by decide +kernel) (by decide +kernel)
theorem qm_724 : Cond.fieldLink "QuorumLogModel" 29 "QuorumLogModel" "snapValue" "[I" ∈ qu_W := qu_in 724 (by decide +kernel) (by decide +kernel)
theorem qm_725 : Cond.fieldLink "QuorumLogModel" 32 "QuorumLogModel" "size" "[I" ∈ qu_W := qu_in 725 (by decide +kernel) (by decide +kernel)
theorem qm_726 : Cond.fieldLink "QuorumLogModel" 35 "QuorumLogModel" "logTerm" "[I" ∈ qu_W := qu_in 726 (by decide +kernel) (by decide +kernel)
theorem qm_727 : Cond.fieldLink "QuorumLogModel" 38 "QuorumLogModel" "logSort" "[I" ∈ qu_W := qu_in 727 (by decide +kernel) (by decide +kernel)
theorem qm_728 : Cond.fieldLink "QuorumLogModel" 41 "QuorumLogModel" "logKey" "[I" ∈ qu_W := qu_in 728 (by decide +kernel) (by decide +kernel)
theorem qm_729 : Cond.fieldLink "QuorumLogModel" 44 "QuorumLogModel" "logValue" "[I" ∈ qu_W := qu_in 729 (by decide +kernel) (by decide +kernel)
theorem qm_730 : Cond.fieldLink "QuorumLogModel" 47 "QuorumLogModel" "role" "[I" ∈ qu_W := qu_in 730 (by decide +kernel) (by decide +kernel)
theorem qm_731 : Cond.fieldLink "QuorumLogModel" 50 "QuorumLogModel" "commit" "[I" ∈ qu_W := qu_in 731 (by decide +kernel) (by decide +kernel)
theorem qm_732 : Cond.fieldLink "QuorumLogModel" 53 "QuorumLogModel" "heard" "[Z" ∈ qu_W := qu_in 732 (by decide +kernel) (by decide +kernel)
theorem qm_733 : Cond.fieldLink "QuorumLogModel" 56 "QuorumLogModel" "yes" "[I" ∈ qu_W := qu_in 733 (by decide +kernel) (by decide +kernel)
theorem qm_734 : Cond.fieldLink "QuorumLogModel" 59 "QuorumLogModel" "next" "[I" ∈ qu_W := qu_in 734 (by decide +kernel) (by decide +kernel)
theorem qm_735 : Cond.fieldLink "QuorumLogModel" 62 "QuorumLogModel" "match" "[I" ∈ qu_W := qu_in 735 (by decide +kernel) (by decide +kernel)
theorem qm_736 : Cond.fieldLink "QuorumLogModel" 65 "QuorumLogModel" "confirmed" "[I" ∈ qu_W := qu_in 736 (by decide +kernel) (by decide +kernel)
theorem qm_737 : Cond.fieldLink "QuorumLogModel" 68 "QuorumLogModel" "round" "[I" ∈ qu_W := qu_in 737 (by decide +kernel) (by decide +kernel)
theorem qm_738 : Cond.fieldLink "QuorumLogModel" 136 "QuorumLogModel" "reads" "I" ∈ qu_W := qu_in 738 (by decide +kernel) (by decide +kernel)
theorem qm_739 : Cond.fieldLink "QuorumLogModel" 71 "QuorumLogModel" "readOf" "[I" ∈ qu_W := qu_in 739 (by decide +kernel) (by decide +kernel)
theorem qm_740 : Cond.fieldLink "QuorumLogModel" 74 "QuorumLogModel" "readKey" "[I" ∈ qu_W := qu_in 740 (by decide +kernel) (by decide +kernel)
theorem qm_741 : Cond.fieldLink "QuorumLogModel" 77 "QuorumLogModel" "readRound" "[I" ∈ qu_W := qu_in 741 (by decide +kernel) (by decide +kernel)
theorem qm_742 : Cond.fieldLink "QuorumLogModel" 80 "QuorumLogModel" "readOutcome" "[I" ∈ qu_W := qu_in 742 (by decide +kernel) (by decide +kernel)
theorem qm_743 : Cond.fieldLink "QuorumLogModel" 83 "QuorumLogModel" "readValue" "[I" ∈ qu_W := qu_in 743 (by decide +kernel) (by decide +kernel)
theorem qm_744 : Cond.fieldLink "QuorumLogModel" 119 "QuorumLogModel" "waiting" "I" ∈ qu_W := qu_in 744 (by decide +kernel) (by decide +kernel)
theorem qm_745 : Cond.fieldLink "QuorumLogModel" 86 "QuorumLogModel" "mail" "[I" ∈ qu_W := qu_in 745 (by decide +kernel) (by decide +kernel)
theorem qm_746 : Cond.fieldLink "QuorumLogModel" 89 "QuorumLogModel" "come" "[I" ∈ qu_W := qu_in 746 (by decide +kernel) (by decide +kernel)
theorem qm_747 : Cond.lays "QuorumLogModel" "QuorumLogModel" "code" "I" ∈ qu_W := qu_in 747 (by decide +kernel) (by decide +kernel)
theorem qm_749 : Cond.laysFinal "QuorumLogModel" "QuorumLogModel" "down" "[Z" ∈ qu_W := qu_in 749 (by decide +kernel) (by decide +kernel)
theorem qm_751 : Cond.laysFinal "QuorumLogModel" "QuorumLogModel" "term" "[I" ∈ qu_W := qu_in 751 (by decide +kernel) (by decide +kernel)
theorem qm_753 : Cond.laysFinal "QuorumLogModel" "QuorumLogModel" "vote" "[I" ∈ qu_W := qu_in 753 (by decide +kernel) (by decide +kernel)
theorem qm_755 : Cond.laysFinal "QuorumLogModel" "QuorumLogModel" "snapIndex" "[I" ∈ qu_W := qu_in 755 (by decide +kernel) (by decide +kernel)
theorem qm_757 : Cond.laysFinal "QuorumLogModel" "QuorumLogModel" "snapTerm" "[I" ∈ qu_W := qu_in 757 (by decide +kernel) (by decide +kernel)
theorem qm_759 : Cond.laysFinal "QuorumLogModel" "QuorumLogModel" "snapMembers" "[I" ∈ qu_W := qu_in 759 (by decide +kernel) (by decide +kernel)
theorem qm_761 : Cond.laysFinal "QuorumLogModel" "QuorumLogModel" "snapValue" "[I" ∈ qu_W := qu_in 761 (by decide +kernel) (by decide +kernel)
theorem qm_763 : Cond.laysFinal "QuorumLogModel" "QuorumLogModel" "size" "[I" ∈ qu_W := qu_in 763 (by decide +kernel) (by decide +kernel)
theorem qm_765 : Cond.laysFinal "QuorumLogModel" "QuorumLogModel" "logTerm" "[I" ∈ qu_W := qu_in 765 (by decide +kernel) (by decide +kernel)
theorem qm_767 : Cond.laysFinal "QuorumLogModel" "QuorumLogModel" "logSort" "[I" ∈ qu_W := qu_in 767 (by decide +kernel) (by decide +kernel)
theorem qm_769 : Cond.laysFinal "QuorumLogModel" "QuorumLogModel" "logKey" "[I" ∈ qu_W := qu_in 769 (by decide +kernel) (by decide +kernel)
theorem qm_771 : Cond.laysFinal "QuorumLogModel" "QuorumLogModel" "logValue" "[I" ∈ qu_W := qu_in 771 (by decide +kernel) (by decide +kernel)
theorem qm_773 : Cond.laysFinal "QuorumLogModel" "QuorumLogModel" "role" "[I" ∈ qu_W := qu_in 773 (by decide +kernel) (by decide +kernel)
theorem qm_775 : Cond.laysFinal "QuorumLogModel" "QuorumLogModel" "commit" "[I" ∈ qu_W := qu_in 775 (by decide +kernel) (by decide +kernel)
theorem qm_777 : Cond.laysFinal "QuorumLogModel" "QuorumLogModel" "heard" "[Z" ∈ qu_W := qu_in 777 (by decide +kernel) (by decide +kernel)
theorem qm_779 : Cond.laysFinal "QuorumLogModel" "QuorumLogModel" "yes" "[I" ∈ qu_W := qu_in 779 (by decide +kernel) (by decide +kernel)
theorem qm_781 : Cond.laysFinal "QuorumLogModel" "QuorumLogModel" "next" "[I" ∈ qu_W := qu_in 781 (by decide +kernel) (by decide +kernel)
theorem qm_783 : Cond.laysFinal "QuorumLogModel" "QuorumLogModel" "match" "[I" ∈ qu_W := qu_in 783 (by decide +kernel) (by decide +kernel)
theorem qm_785 : Cond.laysFinal "QuorumLogModel" "QuorumLogModel" "confirmed" "[I" ∈ qu_W := qu_in 785 (by decide +kernel) (by decide +kernel)
theorem qm_787 : Cond.laysFinal "QuorumLogModel" "QuorumLogModel" "round" "[I" ∈ qu_W := qu_in 787 (by decide +kernel) (by decide +kernel)
theorem qm_789 : Cond.lays "QuorumLogModel" "QuorumLogModel" "reads" "I" ∈ qu_W := qu_in 789 (by decide +kernel) (by decide +kernel)
theorem qm_791 : Cond.laysFinal "QuorumLogModel" "QuorumLogModel" "readOf" "[I" ∈ qu_W := qu_in 791 (by decide +kernel) (by decide +kernel)
theorem qm_793 : Cond.laysFinal "QuorumLogModel" "QuorumLogModel" "readKey" "[I" ∈ qu_W := qu_in 793 (by decide +kernel) (by decide +kernel)
theorem qm_795 : Cond.laysFinal "QuorumLogModel" "QuorumLogModel" "readRound" "[I" ∈ qu_W := qu_in 795 (by decide +kernel) (by decide +kernel)
theorem qm_797 : Cond.laysFinal "QuorumLogModel" "QuorumLogModel" "readOutcome" "[I" ∈ qu_W := qu_in 797 (by decide +kernel) (by decide +kernel)
theorem qm_799 : Cond.laysFinal "QuorumLogModel" "QuorumLogModel" "readValue" "[I" ∈ qu_W := qu_in 799 (by decide +kernel) (by decide +kernel)
theorem qm_801 : Cond.lays "QuorumLogModel" "QuorumLogModel" "waiting" "I" ∈ qu_W := qu_in 801 (by decide +kernel) (by decide +kernel)
theorem qm_803 : Cond.laysFinal "QuorumLogModel" "QuorumLogModel" "mail" "[I" ∈ qu_W := qu_in 803 (by decide +kernel) (by decide +kernel)
theorem qm_805 : Cond.laysFinal "QuorumLogModel" "QuorumLogModel" "come" "[I" ∈ qu_W := qu_in 805 (by decide +kernel) (by decide +kernel)
theorem qm_808 : Cond.arrayClass .boolean ∈ qu_W := qu_in 808 (by decide +kernel) (by decide +kernel)
theorem qm_812 : Cond.code y_D_thrown c_D_thrown 1 (some .int) ∈ qu_W := qu_in 812 (by decide +kernel) (by decide +kernel)
theorem qm_816 : Cond.code y_D_timer c_D_timer 2 (some .boolean) ∈ qu_W := qu_in 816 (by decide +kernel) (by decide +kernel)
theorem qm_817 : Cond.methodLink "QuorumLogModel" 143 y_D_isServer ∈ qu_W := qu_in 817 (by decide +kernel) (by decide +kernel)
theorem qm_818 : Cond.static y_D_isServer ∈ qu_W := qu_in 818 (by decide +kernel) (by decide +kernel)
theorem qm_819 : Cond.code y_D_isServer c_D_isServer 1 (some .boolean) ∈ qu_W := qu_in 819 (by decide +kernel) (by decide +kernel)
theorem qm_820 : Cond.methodLink "QuorumLogModel" 147 y_D_isMine ∈ qu_W := qu_in 820 (by decide +kernel) (by decide +kernel)
theorem qm_822 : Cond.instanceMethod y_D_isMine ∈ qu_W := qu_in 822 (by decide +kernel) (by decide +kernel)
theorem qm_823 : Cond.code y_D_isMine c_D_isMine 2 (some .boolean) ∈ qu_W := qu_in 823 (by decide +kernel) (by decide +kernel)
theorem qm_824 : Cond.methodLink "QuorumLogModel" 113 y_D_config ∈ qu_W := qu_in 824 (by decide +kernel) (by decide +kernel)
theorem qm_826 : Cond.instanceMethod y_D_config ∈ qu_W := qu_in 826 (by decide +kernel) (by decide +kernel)
theorem qm_827 : Cond.code y_D_config c_D_config 2 (some .int) ∈ qu_W := qu_in 827 (by decide +kernel) (by decide +kernel)
theorem qm_828 : Cond.methodLink "QuorumLogModel" 96 y_D_last ∈ qu_W := qu_in 828 (by decide +kernel) (by decide +kernel)
theorem qm_830 : Cond.instanceMethod y_D_last ∈ qu_W := qu_in 830 (by decide +kernel) (by decide +kernel)
theorem qm_831 : Cond.code y_D_last c_D_last 2 (some .int) ∈ qu_W := qu_in 831 (by decide +kernel) (by decide +kernel)
theorem qm_832 : Cond.methodLink "QuorumLogModel" 110 y_D_membersAt ∈ qu_W := qu_in 832 (by decide +kernel) (by decide +kernel)
theorem qm_834 : Cond.instanceMethod y_D_membersAt ∈ qu_W := qu_in 834 (by decide +kernel) (by decide +kernel)
theorem qm_835 : Cond.code y_D_membersAt c_D_membersAt 4 (some .int) ∈ qu_W := qu_in 835 (by decide +kernel) (by decide +kernel)
theorem qm_836 : Cond.methodLink "QuorumLogModel" 107 y_D_latestMembers ∈ qu_W := qu_in 836 (by decide +kernel) (by decide +kernel)
theorem qm_838 : Cond.instanceMethod y_D_latestMembers ∈ qu_W := qu_in 838 (by decide +kernel) (by decide +kernel)
theorem qm_839 : Cond.code y_D_latestMembers c_D_latestMembers 5 (some .int) ∈ qu_W := qu_in 839 (by decide +kernel) (by decide +kernel)
theorem qm_840 : Cond.methodLink "QuorumLogModel" 100 y_D_cell ∈ qu_W := qu_in 840 (by decide +kernel) (by decide +kernel)
theorem qm_842 : Cond.instanceMethod y_D_cell ∈ qu_W := qu_in 842 (by decide +kernel) (by decide +kernel)
theorem qm_843 : Cond.code y_D_cell c_D_cell 3 (some .int) ∈ qu_W := qu_in 843 (by decide +kernel) (by decide +kernel)
theorem qm_844 : Cond.methodLink "QuorumLogModel" 150 y_D_askAll ∈ qu_W := qu_in 844 (by decide +kernel) (by decide +kernel)
theorem qm_846 : Cond.instanceMethod y_D_askAll ∈ qu_W := qu_in 846 (by decide +kernel) (by decide +kernel)
theorem qm_847 : Cond.code y_D_askAll c_D_askAll 6 none ∈ qu_W := qu_in 847 (by decide +kernel) (by decide +kernel)
theorem qm_848 : Cond.methodLink "QuorumLogModel" 122 y_D_begin ∈ qu_W := qu_in 848 (by decide +kernel) (by decide +kernel)
theorem qm_850 : Cond.instanceMethod y_D_begin ∈ qu_W := qu_in 850 (by decide +kernel) (by decide +kernel)
theorem qm_851 : Cond.code y_D_begin c_D_begin 6 none ∈ qu_W := qu_in 851 (by decide +kernel) (by decide +kernel)
theorem qm_852 : Cond.methodLink "QuorumLogModel" 126 y_D_lastTerm ∈ qu_W := qu_in 852 (by decide +kernel) (by decide +kernel)
theorem qm_854 : Cond.instanceMethod y_D_lastTerm ∈ qu_W := qu_in 854 (by decide +kernel) (by decide +kernel)
theorem qm_855 : Cond.code y_D_lastTerm c_D_lastTerm 2 (some .int) ∈ qu_W := qu_in 855 (by decide +kernel) (by decide +kernel)
theorem qm_856 : Cond.methodLink "QuorumLogModel" 104 y_D_termAt ∈ qu_W := qu_in 856 (by decide +kernel) (by decide +kernel)
theorem qm_858 : Cond.instanceMethod y_D_termAt ∈ qu_W := qu_in 858 (by decide +kernel) (by decide +kernel)
theorem qm_859 : Cond.code y_D_termAt c_D_termAt 4 (some .int) ∈ qu_W := qu_in 859 (by decide +kernel) (by decide +kernel)
theorem qm_860 : Cond.methodLink "QuorumLogModel" 129 y_D_post ∈ qu_W := qu_in 860 (by decide +kernel) (by decide +kernel)
theorem qm_862 : Cond.instanceMethod y_D_post ∈ qu_W := qu_in 862 (by decide +kernel) (by decide +kernel)
theorem qm_863 : Cond.code y_D_post c_D_post 2 none ∈ qu_W := qu_in 863 (by decide +kernel) (by decide +kernel)
theorem qm_864 : Cond.methodLink "QuorumLogModel" 154 y_D_weigh ∈ qu_W := qu_in 864 (by decide +kernel) (by decide +kernel)
theorem qm_866 : Cond.instanceMethod y_D_weigh ∈ qu_W := qu_in 866 (by decide +kernel) (by decide +kernel)
theorem qm_867 : Cond.code y_D_weigh c_D_weigh 2 none ∈ qu_W := qu_in 867 (by decide +kernel) (by decide +kernel)
theorem qm_868 : Cond.methodLink "QuorumLogModel" 157 y_D_most ∈ qu_W := qu_in 868 (by decide +kernel) (by decide +kernel)
theorem qm_870 : Cond.instanceMethod y_D_most ∈ qu_W := qu_in 870 (by decide +kernel) (by decide +kernel)
theorem qm_871 : Cond.code y_D_most c_D_most 4 (some .boolean) ∈ qu_W := qu_in 871 (by decide +kernel) (by decide +kernel)
theorem qm_872 : Cond.methodLink "QuorumLogModel" 116 y_D_count ∈ qu_W := qu_in 872 (by decide +kernel) (by decide +kernel)
theorem qm_873 : Cond.static y_D_count ∈ qu_W := qu_in 873 (by decide +kernel) (by decide +kernel)
theorem qm_874 : Cond.code y_D_count c_D_count 3 (some .int) ∈ qu_W := qu_in 874 (by decide +kernel) (by decide +kernel)
theorem qm_875 : Cond.methodLink "QuorumLogModel" 161 y_D_lead ∈ qu_W := qu_in 875 (by decide +kernel) (by decide +kernel)
theorem qm_877 : Cond.instanceMethod y_D_lead ∈ qu_W := qu_in 877 (by decide +kernel) (by decide +kernel)
theorem qm_878 : Cond.code y_D_lead c_D_lead 3 none ∈ qu_W := qu_in 878 (by decide +kernel) (by decide +kernel)
theorem qm_879 : Cond.methodLink "QuorumLogModel" 164 y_D_append ∈ qu_W := qu_in 879 (by decide +kernel) (by decide +kernel)
theorem qm_881 : Cond.instanceMethod y_D_append ∈ qu_W := qu_in 881 (by decide +kernel) (by decide +kernel)
theorem qm_882 : Cond.code y_D_append c_D_append 6 (some .int) ∈ qu_W := qu_in 882 (by decide +kernel) (by decide +kernel)
theorem qm_883 : Cond.methodLink "QuorumLogModel" 168 y_D_push ∈ qu_W := qu_in 883 (by decide +kernel) (by decide +kernel)
theorem qm_885 : Cond.instanceMethod y_D_push ∈ qu_W := qu_in 885 (by decide +kernel) (by decide +kernel)
theorem qm_886 : Cond.code y_D_push c_D_push 7 none ∈ qu_W := qu_in 886 (by decide +kernel) (by decide +kernel)
theorem qm_887 : Cond.methodLink "QuorumLogModel" 172 y_D_lookAtCommit ∈ qu_W := qu_in 887 (by decide +kernel) (by decide +kernel)
theorem qm_889 : Cond.instanceMethod y_D_lookAtCommit ∈ qu_W := qu_in 889 (by decide +kernel) (by decide +kernel)
theorem qm_890 : Cond.code y_D_lookAtCommit c_D_lookAtCommit 4 none ∈ qu_W := qu_in 890 (by decide +kernel) (by decide +kernel)
theorem qm_891 : Cond.methodLink "QuorumLogModel" 178 y_D_having ∈ qu_W := qu_in 891 (by decide +kernel) (by decide +kernel)
theorem qm_893 : Cond.instanceMethod y_D_having ∈ qu_W := qu_in 893 (by decide +kernel) (by decide +kernel)
theorem qm_894 : Cond.code y_D_having c_D_having 5 (some .int) ∈ qu_W := qu_in 894 (by decide +kernel) (by decide +kernel)
theorem qm_895 : Cond.methodLink "QuorumLogModel" 139 y_D_follow ∈ qu_W := qu_in 895 (by decide +kernel) (by decide +kernel)
theorem qm_897 : Cond.instanceMethod y_D_follow ∈ qu_W := qu_in 897 (by decide +kernel) (by decide +kernel)
theorem qm_898 : Cond.code y_D_follow c_D_follow 4 none ∈ qu_W := qu_in 898 (by decide +kernel) (by decide +kernel)
theorem qm_899 : Cond.methodLink "QuorumLogModel" 175 y_D_sendAll ∈ qu_W := qu_in 899 (by decide +kernel) (by decide +kernel)
theorem qm_901 : Cond.instanceMethod y_D_sendAll ∈ qu_W := qu_in 901 (by decide +kernel) (by decide +kernel)
theorem qm_902 : Cond.code y_D_sendAll c_D_sendAll 4 none ∈ qu_W := qu_in 902 (by decide +kernel) (by decide +kernel)
theorem qm_903 : Cond.methodLink "QuorumLogModel" 132 y_D_sendTo ∈ qu_W := qu_in 903 (by decide +kernel) (by decide +kernel)
theorem qm_905 : Cond.instanceMethod y_D_sendTo ∈ qu_W := qu_in 905 (by decide +kernel) (by decide +kernel)
theorem qm_906 : Cond.code y_D_sendTo c_D_sendTo 8 none ∈ qu_W := qu_in 906 (by decide +kernel) (by decide +kernel)
theorem qm_910 : Cond.code y_D_beat c_D_beat 2 (some .boolean) ∈ qu_W := qu_in 910 (by decide +kernel) (by decide +kernel)
theorem qm_911 : Cond.methodLink "QuorumLogModel" 185 y_D_leads ∈ qu_W := qu_in 911 (by decide +kernel) (by decide +kernel)
theorem qm_913 : Cond.instanceMethod y_D_leads ∈ qu_W := qu_in 913 (by decide +kernel) (by decide +kernel)
theorem qm_914 : Cond.code y_D_leads c_D_leads 2 (some .boolean) ∈ qu_W := qu_in 914 (by decide +kernel) (by decide +kernel)
theorem qm_918 : Cond.code y_D_put c_D_put 4 (some .int) ∈ qu_W := qu_in 918 (by decide +kernel) (by decide +kernel)
theorem qm_919 : Cond.methodLink "QuorumLogModel" 188 y_D_isKey ∈ qu_W := qu_in 919 (by decide +kernel) (by decide +kernel)
theorem qm_920 : Cond.static y_D_isKey ∈ qu_W := qu_in 920 (by decide +kernel) (by decide +kernel)
theorem qm_921 : Cond.code y_D_isKey c_D_isKey 1 (some .boolean) ∈ qu_W := qu_in 921 (by decide +kernel) (by decide +kernel)
theorem qm_922 : Cond.methodLink "QuorumLogModel" 191 y_D_fail ∈ qu_W := qu_in 922 (by decide +kernel) (by decide +kernel)
theorem qm_924 : Cond.instanceMethod y_D_fail ∈ qu_W := qu_in 924 (by decide +kernel) (by decide +kernel)
theorem qm_925 : Cond.code y_D_fail c_D_fail 2 (some .int) ∈ qu_W := qu_in 925 (by decide +kernel) (by decide +kernel)
theorem qm_929 : Cond.code y_D_change c_D_change 6 (some .int) ∈ qu_W := qu_in 929 (by decide +kernel) (by decide +kernel)
theorem qm_930 : Cond.methodLink "QuorumLogModel" 194 y_D_isOld ∈ qu_W := qu_in 930 (by decide +kernel) (by decide +kernel)
theorem qm_932 : Cond.instanceMethod y_D_isOld ∈ qu_W := qu_in 932 (by decide +kernel) (by decide +kernel)
theorem qm_933 : Cond.code y_D_isOld c_D_isOld 2 (some .boolean) ∈ qu_W := qu_in 933 (by decide +kernel) (by decide +kernel)
theorem qm_937 : Cond.code y_D_read c_D_read 5 (some .int) ∈ qu_W := qu_in 937 (by decide +kernel) (by decide +kernel)
theorem qm_938 : Cond.methodLink "QuorumLogModel" 197 y_D_lookAtReads ∈ qu_W := qu_in 938 (by decide +kernel) (by decide +kernel)
theorem qm_940 : Cond.instanceMethod y_D_lookAtReads ∈ qu_W := qu_in 940 (by decide +kernel) (by decide +kernel)
theorem qm_941 : Cond.code y_D_lookAtReads c_D_lookAtReads 5 none ∈ qu_W := qu_in 941 (by decide +kernel) (by decide +kernel)
theorem qm_942 : Cond.methodLink "QuorumLogModel" 181 y_D_valueAt ∈ qu_W := qu_in 942 (by decide +kernel) (by decide +kernel)
theorem qm_944 : Cond.instanceMethod y_D_valueAt ∈ qu_W := qu_in 944 (by decide +kernel) (by decide +kernel)
theorem qm_945 : Cond.code y_D_valueAt c_D_valueAt 7 (some .int) ∈ qu_W := qu_in 945 (by decide +kernel) (by decide +kernel)
theorem qm_949 : Cond.code y_D_outcome c_D_outcome 2 (some .int) ∈ qu_W := qu_in 949 (by decide +kernel) (by decide +kernel)
theorem qm_953 : Cond.code y_D_value c_D_value 2 (some .int) ∈ qu_W := qu_in 953 (by decide +kernel) (by decide +kernel)
theorem qm_957 : Cond.code y_D_compact c_D_compact 7 (some .boolean) ∈ qu_W := qu_in 957 (by decide +kernel) (by decide +kernel)
theorem qm_958 : Cond.methodLink "QuorumLogModel" 200 y_D_shift ∈ qu_W := qu_in 958 (by decide +kernel) (by decide +kernel)
theorem qm_960 : Cond.instanceMethod y_D_shift ∈ qu_W := qu_in 960 (by decide +kernel) (by decide +kernel)
theorem qm_961 : Cond.code y_D_shift c_D_shift 6 none ∈ qu_W := qu_in 961 (by decide +kernel) (by decide +kernel)
theorem qm_965 : Cond.code y_D_crash c_D_crash 2 (some .boolean) ∈ qu_W := qu_in 965 (by decide +kernel) (by decide +kernel)
theorem qm_969 : Cond.code y_D_restart c_D_restart 2 (some .boolean) ∈ qu_W := qu_in 969 (by decide +kernel) (by decide +kernel)
theorem qm_973 : Cond.code y_D_deliver c_D_deliver 4 (some .int) ∈ qu_W := qu_in 973 (by decide +kernel) (by decide +kernel)
theorem qm_974 : Cond.methodLink "QuorumLogModel" 203 y_D_takeOut ∈ qu_W := qu_in 974 (by decide +kernel) (by decide +kernel)
theorem qm_976 : Cond.instanceMethod y_D_takeOut ∈ qu_W := qu_in 976 (by decide +kernel) (by decide +kernel)
theorem qm_977 : Cond.code y_D_takeOut c_D_takeOut 3 none ∈ qu_W := qu_in 977 (by decide +kernel) (by decide +kernel)
theorem qm_978 : Cond.methodLink "QuorumLogModel" 206 y_D_newTerm ∈ qu_W := qu_in 978 (by decide +kernel) (by decide +kernel)
theorem qm_980 : Cond.instanceMethod y_D_newTerm ∈ qu_W := qu_in 980 (by decide +kernel) (by decide +kernel)
theorem qm_981 : Cond.code y_D_newTerm c_D_newTerm 3 none ∈ qu_W := qu_in 981 (by decide +kernel) (by decide +kernel)
theorem qm_982 : Cond.methodLink "QuorumLogModel" 209 y_D_question ∈ qu_W := qu_in 982 (by decide +kernel) (by decide +kernel)
theorem qm_984 : Cond.instanceMethod y_D_question ∈ qu_W := qu_in 984 (by decide +kernel) (by decide +kernel)
theorem qm_985 : Cond.code y_D_question c_D_question 5 none ∈ qu_W := qu_in 985 (by decide +kernel) (by decide +kernel)
theorem qm_986 : Cond.methodLink "QuorumLogModel" 230 y_D_liesBefore ∈ qu_W := qu_in 986 (by decide +kernel) (by decide +kernel)
theorem qm_988 : Cond.instanceMethod y_D_liesBefore ∈ qu_W := qu_in 988 (by decide +kernel) (by decide +kernel)
theorem qm_989 : Cond.code y_D_liesBefore c_D_liesBefore 4 (some .boolean) ∈ qu_W := qu_in 989 (by decide +kernel) (by decide +kernel)
theorem qm_990 : Cond.methodLink "QuorumLogModel" 234 y_D_reply ∈ qu_W := qu_in 990 (by decide +kernel) (by decide +kernel)
theorem qm_992 : Cond.instanceMethod y_D_reply ∈ qu_W := qu_in 992 (by decide +kernel) (by decide +kernel)
theorem qm_993 : Cond.code y_D_reply c_D_reply 6 none ∈ qu_W := qu_in 993 (by decide +kernel) (by decide +kernel)
theorem qm_994 : Cond.methodLink "QuorumLogModel" 212 y_D_answered ∈ qu_W := qu_in 994 (by decide +kernel) (by decide +kernel)
theorem qm_996 : Cond.instanceMethod y_D_answered ∈ qu_W := qu_in 996 (by decide +kernel) (by decide +kernel)
theorem qm_997 : Cond.code y_D_answered c_D_answered 4 none ∈ qu_W := qu_in 997 (by decide +kernel) (by decide +kernel)
theorem qm_998 : Cond.methodLink "QuorumLogModel" 215 y_D_called ∈ qu_W := qu_in 998 (by decide +kernel) (by decide +kernel)
theorem qm_1000 : Cond.instanceMethod y_D_called ∈ qu_W := qu_in 1000 (by decide +kernel) (by decide +kernel)
theorem qm_1001 : Cond.code y_D_called c_D_called 5 none ∈ qu_W := qu_in 1001 (by decide +kernel) (by decide +kernel)
theorem qm_1002 : Cond.methodLink "QuorumLogModel" 218 y_D_voted ∈ qu_W := qu_in 1002 (by decide +kernel) (by decide +kernel)
theorem qm_1004 : Cond.instanceMethod y_D_voted ∈ qu_W := qu_in 1004 (by decide +kernel) (by decide +kernel)
theorem qm_1005 : Cond.code y_D_voted c_D_voted 4 none ∈ qu_W := qu_in 1005 (by decide +kernel) (by decide +kernel)
theorem qm_1006 : Cond.methodLink "QuorumLogModel" 221 y_D_appended ∈ qu_W := qu_in 1006 (by decide +kernel) (by decide +kernel)
theorem qm_1008 : Cond.instanceMethod y_D_appended ∈ qu_W := qu_in 1008 (by decide +kernel) (by decide +kernel)
theorem qm_1009 : Cond.code y_D_appended c_D_appended 7 none ∈ qu_W := qu_in 1009 (by decide +kernel) (by decide +kernel)
theorem qm_1010 : Cond.methodLink "QuorumLogModel" 238 y_D_result ∈ qu_W := qu_in 1010 (by decide +kernel) (by decide +kernel)
theorem qm_1012 : Cond.instanceMethod y_D_result ∈ qu_W := qu_in 1012 (by decide +kernel) (by decide +kernel)
theorem qm_1013 : Cond.code y_D_result c_D_result 6 none ∈ qu_W := qu_in 1013 (by decide +kernel) (by decide +kernel)
theorem qm_1014 : Cond.methodLink "QuorumLogModel" 242 y_D_takeEntry ∈ qu_W := qu_in 1014 (by decide +kernel) (by decide +kernel)
theorem qm_1016 : Cond.instanceMethod y_D_takeEntry ∈ qu_W := qu_in 1016 (by decide +kernel) (by decide +kernel)
theorem qm_1017 : Cond.code y_D_takeEntry c_D_takeEntry 4 (some .boolean) ∈ qu_W := qu_in 1017 (by decide +kernel) (by decide +kernel)
theorem qm_1018 : Cond.methodLink "QuorumLogModel" 224 y_D_resulted ∈ qu_W := qu_in 1018 (by decide +kernel) (by decide +kernel)
theorem qm_1020 : Cond.instanceMethod y_D_resulted ∈ qu_W := qu_in 1020 (by decide +kernel) (by decide +kernel)
theorem qm_1021 : Cond.code y_D_resulted c_D_resulted 7 none ∈ qu_W := qu_in 1021 (by decide +kernel) (by decide +kernel)
theorem qm_1022 : Cond.methodLink "QuorumLogModel" 227 y_D_installed ∈ qu_W := qu_in 1022 (by decide +kernel) (by decide +kernel)
theorem qm_1024 : Cond.instanceMethod y_D_installed ∈ qu_W := qu_in 1024 (by decide +kernel) (by decide +kernel)
theorem qm_1025 : Cond.code y_D_installed c_D_installed 5 none ∈ qu_W := qu_in 1025 (by decide +kernel) (by decide +kernel)
theorem qm_1029 : Cond.code y_D_lose c_D_lose 2 (some .boolean) ∈ qu_W := qu_in 1029 (by decide +kernel) (by decide +kernel)
theorem qm_1033 : Cond.code y_D_waiting c_D_waiting 1 (some .int) ∈ qu_W := qu_in 1033 (by decide +kernel) (by decide +kernel)
theorem qm_1037 : Cond.code y_D_message c_D_message 4 (some .int) ∈ qu_W := qu_in 1037 (by decide +kernel) (by decide +kernel)
theorem qm_1041 : Cond.code y_D_state c_D_state 3 (some .int) ∈ qu_W := qu_in 1041 (by decide +kernel) (by decide +kernel)
theorem qm_1045 : Cond.code y_D_entry c_D_entry 5 (some .int) ∈ qu_W := qu_in 1045 (by decide +kernel) (by decide +kernel)
theorem qm_1049 : Cond.code y_D_stored c_D_stored 3 (some .int) ∈ qu_W := qu_in 1049 (by decide +kernel) (by decide +kernel)
theorem qm_1050 : Cond.arrayClass .long ∈ qu_W := qu_in 1050 (by decide +kernel) (by decide +kernel)
theorem qs_0 : Cond.selects "QuorumLog" y_Q_askAll y_Q_askAll ∈ qu_W := qu_is 0 (by decide +kernel) (by decide +kernel)
theorem qs_1 : Cond.selects "QuorumLog" y_Q_standIfMostSaidYes y_Q_standIfMostSaidYes ∈ qu_W := qu_is 1 (by decide +kernel) (by decide +kernel)
theorem qs_2 : Cond.selects "QuorumLog" y_Q_leadIfMostSaidYes y_Q_leadIfMostSaidYes ∈ qu_W := qu_is 2 (by decide +kernel) (by decide +kernel)
theorem qs_3 : Cond.selects "QuorumLog" y_Q_append y_Q_append ∈ qu_W := qu_is 3 (by decide +kernel) (by decide +kernel)
theorem qs_4 : Cond.selects "QuorumLog" y_Q_lookAtCommit y_Q_lookAtCommit ∈ qu_W := qu_is 4 (by decide +kernel) (by decide +kernel)
theorem qs_5 : Cond.selects "QuorumLog$Server" y_S_reachedBy y_S_reachedBy ∈ qu_W := qu_is 5 (by decide +kernel) (by decide +kernel)
theorem qs_6 : Cond.selects "QuorumLog" y_Q_follow y_Q_follow ∈ qu_W := qu_is 6 (by decide +kernel) (by decide +kernel)
theorem qs_7 : Cond.selects "QuorumLog" y_Q_sendToAll y_Q_sendToAll ∈ qu_W := qu_is 7 (by decide +kernel) (by decide +kernel)
theorem qs_8 : Cond.selects "QuorumLog" y_Q_sendTo y_Q_sendTo ∈ qu_W := qu_is 8 (by decide +kernel) (by decide +kernel)
theorem qs_9 : Cond.selects "QuorumLog" y_Q_come y_Q_come ∈ qu_W := qu_is 9 (by decide +kernel) (by decide +kernel)
theorem qs_10 : Cond.selects "QuorumLog" y_Q_enterTerm y_Q_enterTerm ∈ qu_W := qu_is 10 (by decide +kernel) (by decide +kernel)
theorem qs_11 : Cond.selects "QuorumLog" y_Q_questionComes y_Q_questionComes ∈ qu_W := qu_is 11 (by decide +kernel) (by decide +kernel)
theorem qs_12 : Cond.selects "QuorumLog" y_Q_answerComes y_Q_answerComes ∈ qu_W := qu_is 12 (by decide +kernel) (by decide +kernel)
theorem qs_13 : Cond.selects "QuorumLog" y_Q_callComes y_Q_callComes ∈ qu_W := qu_is 13 (by decide +kernel) (by decide +kernel)
theorem qs_14 : Cond.selects "QuorumLog" y_Q_voteComes y_Q_voteComes ∈ qu_W := qu_is 14 (by decide +kernel) (by decide +kernel)
theorem qs_15 : Cond.selects "QuorumLog" y_Q_appendComes y_Q_appendComes ∈ qu_W := qu_is 15 (by decide +kernel) (by decide +kernel)
theorem qs_16 : Cond.selects "QuorumLog" y_Q_sendResult y_Q_sendResult ∈ qu_W := qu_is 16 (by decide +kernel) (by decide +kernel)
theorem qs_17 : Cond.selects "QuorumLog$Log" y_L_hasOrTakes y_L_hasOrTakes ∈ qu_W := qu_is 17 (by decide +kernel) (by decide +kernel)
theorem qs_18 : Cond.selects "QuorumLog" y_Q_resultComes y_Q_resultComes ∈ qu_W := qu_is 18 (by decide +kernel) (by decide +kernel)
theorem qs_19 : Cond.selects "QuorumLog" y_Q_lookAtReads y_Q_lookAtReads ∈ qu_W := qu_is 19 (by decide +kernel) (by decide +kernel)
theorem qs_20 : Cond.selects "QuorumLog" y_Q_installComes y_Q_installComes ∈ qu_W := qu_is 20 (by decide +kernel) (by decide +kernel)
theorem qs_21 : Cond.selects "QuorumLog" y_Q_leaderFor y_Q_leaderFor ∈ qu_W := qu_is 21 (by decide +kernel) (by decide +kernel)
theorem qs_23 : Cond.selects "QuorumLogModel" y_D_isMine y_D_isMine ∈ qu_W := qu_is 23 (by decide +kernel) (by decide +kernel)
theorem qs_24 : Cond.selects "QuorumLogModel" y_D_config y_D_config ∈ qu_W := qu_is 24 (by decide +kernel) (by decide +kernel)
theorem qs_25 : Cond.selects "QuorumLogModel" y_D_last y_D_last ∈ qu_W := qu_is 25 (by decide +kernel) (by decide +kernel)
theorem qs_26 : Cond.selects "QuorumLogModel" y_D_membersAt y_D_membersAt ∈ qu_W := qu_is 26 (by decide +kernel) (by decide +kernel)
theorem qs_27 : Cond.selects "QuorumLogModel" y_D_latestMembers y_D_latestMembers ∈ qu_W := qu_is 27 (by decide +kernel) (by decide +kernel)
theorem qs_28 : Cond.selects "QuorumLogModel" y_D_cell y_D_cell ∈ qu_W := qu_is 28 (by decide +kernel) (by decide +kernel)
theorem qs_29 : Cond.selects "QuorumLogModel" y_D_askAll y_D_askAll ∈ qu_W := qu_is 29 (by decide +kernel) (by decide +kernel)
theorem qs_30 : Cond.selects "QuorumLogModel" y_D_begin y_D_begin ∈ qu_W := qu_is 30 (by decide +kernel) (by decide +kernel)
theorem qs_31 : Cond.selects "QuorumLogModel" y_D_lastTerm y_D_lastTerm ∈ qu_W := qu_is 31 (by decide +kernel) (by decide +kernel)
theorem qs_32 : Cond.selects "QuorumLogModel" y_D_termAt y_D_termAt ∈ qu_W := qu_is 32 (by decide +kernel) (by decide +kernel)
theorem qs_33 : Cond.selects "QuorumLogModel" y_D_post y_D_post ∈ qu_W := qu_is 33 (by decide +kernel) (by decide +kernel)
theorem qs_34 : Cond.selects "QuorumLogModel" y_D_weigh y_D_weigh ∈ qu_W := qu_is 34 (by decide +kernel) (by decide +kernel)
theorem qs_35 : Cond.selects "QuorumLogModel" y_D_most y_D_most ∈ qu_W := qu_is 35 (by decide +kernel) (by decide +kernel)
theorem qs_36 : Cond.selects "QuorumLogModel" y_D_lead y_D_lead ∈ qu_W := qu_is 36 (by decide +kernel) (by decide +kernel)
theorem qs_37 : Cond.selects "QuorumLogModel" y_D_append y_D_append ∈ qu_W := qu_is 37 (by decide +kernel) (by decide +kernel)
theorem qs_38 : Cond.selects "QuorumLogModel" y_D_push y_D_push ∈ qu_W := qu_is 38 (by decide +kernel) (by decide +kernel)
theorem qs_39 : Cond.selects "QuorumLogModel" y_D_lookAtCommit y_D_lookAtCommit ∈ qu_W := qu_is 39 (by decide +kernel) (by decide +kernel)
theorem qs_40 : Cond.selects "QuorumLogModel" y_D_having y_D_having ∈ qu_W := qu_is 40 (by decide +kernel) (by decide +kernel)
theorem qs_41 : Cond.selects "QuorumLogModel" y_D_follow y_D_follow ∈ qu_W := qu_is 41 (by decide +kernel) (by decide +kernel)
theorem qs_42 : Cond.selects "QuorumLogModel" y_D_sendAll y_D_sendAll ∈ qu_W := qu_is 42 (by decide +kernel) (by decide +kernel)
theorem qs_43 : Cond.selects "QuorumLogModel" y_D_sendTo y_D_sendTo ∈ qu_W := qu_is 43 (by decide +kernel) (by decide +kernel)
theorem qs_44 : Cond.selects "QuorumLogModel" y_D_leads y_D_leads ∈ qu_W := qu_is 44 (by decide +kernel) (by decide +kernel)
theorem qs_45 : Cond.selects "QuorumLogModel" y_D_fail y_D_fail ∈ qu_W := qu_is 45 (by decide +kernel) (by decide +kernel)
theorem qs_46 : Cond.selects "QuorumLogModel" y_D_isOld y_D_isOld ∈ qu_W := qu_is 46 (by decide +kernel) (by decide +kernel)
theorem qs_47 : Cond.selects "QuorumLogModel" y_D_lookAtReads y_D_lookAtReads ∈ qu_W := qu_is 47 (by decide +kernel) (by decide +kernel)
theorem qs_48 : Cond.selects "QuorumLogModel" y_D_valueAt y_D_valueAt ∈ qu_W := qu_is 48 (by decide +kernel) (by decide +kernel)
theorem qs_49 : Cond.selects "QuorumLogModel" y_D_shift y_D_shift ∈ qu_W := qu_is 49 (by decide +kernel) (by decide +kernel)
theorem qs_50 : Cond.selects "QuorumLogModel" y_D_takeOut y_D_takeOut ∈ qu_W := qu_is 50 (by decide +kernel) (by decide +kernel)
theorem qs_51 : Cond.selects "QuorumLogModel" y_D_newTerm y_D_newTerm ∈ qu_W := qu_is 51 (by decide +kernel) (by decide +kernel)
theorem qs_52 : Cond.selects "QuorumLogModel" y_D_question y_D_question ∈ qu_W := qu_is 52 (by decide +kernel) (by decide +kernel)
theorem qs_53 : Cond.selects "QuorumLogModel" y_D_liesBefore y_D_liesBefore ∈ qu_W := qu_is 53 (by decide +kernel) (by decide +kernel)
theorem qs_54 : Cond.selects "QuorumLogModel" y_D_reply y_D_reply ∈ qu_W := qu_is 54 (by decide +kernel) (by decide +kernel)
theorem qs_55 : Cond.selects "QuorumLogModel" y_D_answered y_D_answered ∈ qu_W := qu_is 55 (by decide +kernel) (by decide +kernel)
theorem qs_56 : Cond.selects "QuorumLogModel" y_D_called y_D_called ∈ qu_W := qu_is 56 (by decide +kernel) (by decide +kernel)
theorem qs_57 : Cond.selects "QuorumLogModel" y_D_voted y_D_voted ∈ qu_W := qu_is 57 (by decide +kernel) (by decide +kernel)
theorem qs_58 : Cond.selects "QuorumLogModel" y_D_appended y_D_appended ∈ qu_W := qu_is 58 (by decide +kernel) (by decide +kernel)
theorem qs_59 : Cond.selects "QuorumLogModel" y_D_result y_D_result ∈ qu_W := qu_is 59 (by decide +kernel) (by decide +kernel)
theorem qs_60 : Cond.selects "QuorumLogModel" y_D_takeEntry y_D_takeEntry ∈ qu_W := qu_is 60 (by decide +kernel) (by decide +kernel)
theorem qs_61 : Cond.selects "QuorumLogModel" y_D_resulted y_D_resulted ∈ qu_W := qu_is 61 (by decide +kernel) (by decide +kernel)
theorem qs_62 : Cond.selects "QuorumLogModel" y_D_installed y_D_installed ∈ qu_W := qu_is 62 (by decide +kernel) (by decide +kernel)
theorem oi_1 : Cond.instanceMethod Lib.objectInit ∈ qu_W := qm_24
theorem oi_2 : Cond.code Lib.objectInit ⟨#[0xb1]⟩ 1 none ∈ qu_W := qm_25
theorem ac_int : Cond.arrayClass .int ∈ qu_W := qm_58
theorem ac_boolean : Cond.arrayClass .boolean ∈ qu_W := qm_808
theorem ac_long : Cond.arrayClass .long ∈ qu_W := qm_1050
theorem uw_Q : ∀ w ∈ u_ws "QuorumLog" T_Q 3, w ∈ qu_W := show ∀ w ∈ [u_lay "QuorumLog" T_Q 0, u_lay "QuorumLog" T_Q 1, u_lay "QuorumLog" T_Q 2], w ∈ qu_W from List.forall_mem_cons.mpr ⟨qm_241, List.forall_mem_cons.mpr ⟨qm_243, List.forall_mem_cons.mpr ⟨qm_245, fun _ h => absurd h List.not_mem_nil⟩⟩⟩
theorem uw_E : ∀ w ∈ u_ws "QuorumLog$Entry" T_E 4, w ∈ qu_W := show ∀ w ∈ [u_lay "QuorumLog$Entry" T_E 0, u_lay "QuorumLog$Entry" T_E 1, u_lay "QuorumLog$Entry" T_E 2, u_lay "QuorumLog$Entry" T_E 3], w ∈ qu_W from List.forall_mem_cons.mpr ⟨qm_340, List.forall_mem_cons.mpr ⟨qm_342, List.forall_mem_cons.mpr ⟨qm_344, List.forall_mem_cons.mpr ⟨qm_346, fun _ h => absurd h List.not_mem_nil⟩⟩⟩⟩
theorem uw_L : ∀ w ∈ u_ws "QuorumLog$Log" T_L 3, w ∈ qu_W := show ∀ w ∈ [u_lay "QuorumLog$Log" T_L 0, u_lay "QuorumLog$Log" T_L 1, u_lay "QuorumLog$Log" T_L 2], w ∈ qu_W from List.forall_mem_cons.mpr ⟨qm_102, List.forall_mem_cons.mpr ⟨qm_104, List.forall_mem_cons.mpr ⟨qm_106, fun _ h => absurd h List.not_mem_nil⟩⟩⟩
theorem uw_M : ∀ w ∈ u_ws "QuorumLog$Message" T_M 12, w ∈ qu_W := show ∀ w ∈ [u_lay "QuorumLog$Message" T_M 0, u_lay "QuorumLog$Message" T_M 1, u_lay "QuorumLog$Message" T_M 2, u_lay "QuorumLog$Message" T_M 3, u_lay "QuorumLog$Message" T_M 4, u_lay "QuorumLog$Message" T_M 5, u_lay "QuorumLog$Message" T_M 6, u_lay "QuorumLog$Message" T_M 7, u_lay "QuorumLog$Message" T_M 8, u_lay "QuorumLog$Message" T_M 9, u_lay "QuorumLog$Message" T_M 10, u_lay "QuorumLog$Message" T_M 11], w ∈ qu_W from List.forall_mem_cons.mpr ⟨qm_201, List.forall_mem_cons.mpr ⟨qm_203, List.forall_mem_cons.mpr ⟨qm_205, List.forall_mem_cons.mpr ⟨qm_207, List.forall_mem_cons.mpr ⟨qm_209, List.forall_mem_cons.mpr ⟨qm_211, List.forall_mem_cons.mpr ⟨qm_213, List.forall_mem_cons.mpr ⟨qm_215, List.forall_mem_cons.mpr ⟨qm_217, List.forall_mem_cons.mpr ⟨qm_219, List.forall_mem_cons.mpr ⟨qm_221, List.forall_mem_cons.mpr ⟨qm_223, fun _ h => absurd h List.not_mem_nil⟩⟩⟩⟩⟩⟩⟩⟩⟩⟩⟩⟩
theorem uw_R : ∀ w ∈ u_ws "QuorumLog$Reads" T_R 6, w ∈ qu_W := show ∀ w ∈ [u_lay "QuorumLog$Reads" T_R 0, u_lay "QuorumLog$Reads" T_R 1, u_lay "QuorumLog$Reads" T_R 2, u_lay "QuorumLog$Reads" T_R 3, u_lay "QuorumLog$Reads" T_R 4, u_lay "QuorumLog$Reads" T_R 5], w ∈ qu_W from List.forall_mem_cons.mpr ⟨qm_45, List.forall_mem_cons.mpr ⟨qm_47, List.forall_mem_cons.mpr ⟨qm_49, List.forall_mem_cons.mpr ⟨qm_51, List.forall_mem_cons.mpr ⟨qm_53, List.forall_mem_cons.mpr ⟨qm_55, fun _ h => absurd h List.not_mem_nil⟩⟩⟩⟩⟩⟩
theorem uw_W : ∀ w ∈ u_ws "QuorumLog$Row" T_W 3, w ∈ qu_W := show ∀ w ∈ [u_lay "QuorumLog$Row" T_W 0, u_lay "QuorumLog$Row" T_W 1, u_lay "QuorumLog$Row" T_W 2], w ∈ qu_W from List.forall_mem_cons.mpr ⟨qm_231, List.forall_mem_cons.mpr ⟨qm_233, List.forall_mem_cons.mpr ⟨qm_235, fun _ h => absurd h List.not_mem_nil⟩⟩⟩
theorem uw_S : ∀ w ∈ u_ws "QuorumLog$Server" T_S 13, w ∈ qu_W := show ∀ w ∈ [u_lay "QuorumLog$Server" T_S 0, u_lay "QuorumLog$Server" T_S 1, u_lay "QuorumLog$Server" T_S 2, u_lay "QuorumLog$Server" T_S 3, u_lay "QuorumLog$Server" T_S 4, u_lay "QuorumLog$Server" T_S 5, u_lay "QuorumLog$Server" T_S 6, u_lay "QuorumLog$Server" T_S 7, u_lay "QuorumLog$Server" T_S 8, u_lay "QuorumLog$Server" T_S 9, u_lay "QuorumLog$Server" T_S 10, u_lay "QuorumLog$Server" T_S 11, u_lay "QuorumLog$Server" T_S 12], w ∈ qu_W from List.forall_mem_cons.mpr ⟨qm_132, List.forall_mem_cons.mpr ⟨qm_134, List.forall_mem_cons.mpr ⟨qm_136, List.forall_mem_cons.mpr ⟨qm_138, List.forall_mem_cons.mpr ⟨qm_140, List.forall_mem_cons.mpr ⟨qm_142, List.forall_mem_cons.mpr ⟨qm_144, List.forall_mem_cons.mpr ⟨qm_146, List.forall_mem_cons.mpr ⟨qm_148, List.forall_mem_cons.mpr ⟨qm_150, List.forall_mem_cons.mpr ⟨qm_152, List.forall_mem_cons.mpr ⟨qm_154, List.forall_mem_cons.mpr ⟨qm_156, fun _ h => absurd h List.not_mem_nil⟩⟩⟩⟩⟩⟩⟩⟩⟩⟩⟩⟩⟩
theorem uw_N : ∀ w ∈ u_ws "QuorumLog$Snapshot" T_N 4, w ∈ qu_W := show ∀ w ∈ [u_lay "QuorumLog$Snapshot" T_N 0, u_lay "QuorumLog$Snapshot" T_N 1, u_lay "QuorumLog$Snapshot" T_N 2, u_lay "QuorumLog$Snapshot" T_N 3], w ∈ qu_W from List.forall_mem_cons.mpr ⟨qm_74, List.forall_mem_cons.mpr ⟨qm_76, List.forall_mem_cons.mpr ⟨qm_78, List.forall_mem_cons.mpr ⟨qm_80, fun _ h => absurd h List.not_mem_nil⟩⟩⟩⟩
theorem uw_D : ∀ w ∈ u_ws "QuorumLogModel" T_D 30, w ∈ qu_W := show ∀ w ∈ [u_lay "QuorumLogModel" T_D 0, u_lay "QuorumLogModel" T_D 1, u_lay "QuorumLogModel" T_D 2, u_lay "QuorumLogModel" T_D 3, u_lay "QuorumLogModel" T_D 4, u_lay "QuorumLogModel" T_D 5, u_lay "QuorumLogModel" T_D 6, u_lay "QuorumLogModel" T_D 7, u_lay "QuorumLogModel" T_D 8, u_lay "QuorumLogModel" T_D 9, u_lay "QuorumLogModel" T_D 10, u_lay "QuorumLogModel" T_D 11, u_lay "QuorumLogModel" T_D 12, u_lay "QuorumLogModel" T_D 13, u_lay "QuorumLogModel" T_D 14, u_lay "QuorumLogModel" T_D 15, u_lay "QuorumLogModel" T_D 16, u_lay "QuorumLogModel" T_D 17, u_lay "QuorumLogModel" T_D 18, u_lay "QuorumLogModel" T_D 19, u_lay "QuorumLogModel" T_D 20, u_lay "QuorumLogModel" T_D 21, u_lay "QuorumLogModel" T_D 22, u_lay "QuorumLogModel" T_D 23, u_lay "QuorumLogModel" T_D 24, u_lay "QuorumLogModel" T_D 25, u_lay "QuorumLogModel" T_D 26, u_lay "QuorumLogModel" T_D 27, u_lay "QuorumLogModel" T_D 28, u_lay "QuorumLogModel" T_D 29], w ∈ qu_W from List.forall_mem_cons.mpr ⟨qm_747, List.forall_mem_cons.mpr ⟨qm_749, List.forall_mem_cons.mpr ⟨qm_751, List.forall_mem_cons.mpr ⟨qm_753, List.forall_mem_cons.mpr ⟨qm_755, List.forall_mem_cons.mpr ⟨qm_757, List.forall_mem_cons.mpr ⟨qm_759, List.forall_mem_cons.mpr ⟨qm_761, List.forall_mem_cons.mpr ⟨qm_763, List.forall_mem_cons.mpr ⟨qm_765, List.forall_mem_cons.mpr ⟨qm_767, List.forall_mem_cons.mpr ⟨qm_769, List.forall_mem_cons.mpr ⟨qm_771, List.forall_mem_cons.mpr ⟨qm_773, List.forall_mem_cons.mpr ⟨qm_775, List.forall_mem_cons.mpr ⟨qm_777, List.forall_mem_cons.mpr ⟨qm_779, List.forall_mem_cons.mpr ⟨qm_781, List.forall_mem_cons.mpr ⟨qm_783, List.forall_mem_cons.mpr ⟨qm_785, List.forall_mem_cons.mpr ⟨qm_787, List.forall_mem_cons.mpr ⟨qm_789, List.forall_mem_cons.mpr ⟨qm_791, List.forall_mem_cons.mpr ⟨qm_793, List.forall_mem_cons.mpr ⟨qm_795, List.forall_mem_cons.mpr ⟨qm_797, List.forall_mem_cons.mpr ⟨qm_799, List.forall_mem_cons.mpr ⟨qm_801, List.forall_mem_cons.mpr ⟨qm_803, List.forall_mem_cons.mpr ⟨qm_805, fun _ h => absurd h List.not_mem_nil⟩⟩⟩⟩⟩⟩⟩⟩⟩⟩⟩⟩⟩⟩⟩⟩⟩⟩⟩⟩⟩⟩⟩⟩⟩⟩⟩⟩⟩⟩
theorem w_Q_init : Cond.code y_Q_init c_Q_init 5 none ∈ qu_W ∧ Cond.initialized y_Q_init.cls ∈ qu_W := ⟨qm_22, qm_1⟩
theorem p_Q_init : (parseMethodDescriptor y_Q_init.desc).map (fun d => d.parameters.length) = some 1 := by decide +kernel
theorem w_R_init : Cond.code y_R_init c_R_init 1 none ∈ qu_W ∧ Cond.initialized y_R_init.cls ∈ qu_W := ⟨qm_32, qm_2⟩
theorem p_R_init : (parseMethodDescriptor y_R_init.desc).map (fun d => d.parameters.length) = some 0 := by decide +kernel
theorem w_N_init : Cond.code y_N_init c_N_init 5 none ∈ qu_W ∧ Cond.initialized y_N_init.cls ∈ qu_W := ⟨qm_63, qm_3⟩
theorem p_N_init : (parseMethodDescriptor y_N_init.desc).map (fun d => d.parameters.length) = some 4 := by decide +kernel
theorem w_S_init : Cond.code y_S_init c_S_init 3 none ∈ qu_W ∧ Cond.initialized y_S_init.cls ∈ qu_W := ⟨qm_86, qm_4⟩
theorem p_S_init : (parseMethodDescriptor y_S_init.desc).map (fun d => d.parameters.length) = some 2 := by decide +kernel
theorem w_L_init : Cond.code y_L_init c_L_init 2 none ∈ qu_W ∧ Cond.initialized y_L_init.cls ∈ qu_W := ⟨qm_92, qm_5⟩
theorem p_L_init : (parseMethodDescriptor y_L_init.desc).map (fun d => d.parameters.length) = some 1 := by decide +kernel
theorem w_W_init : Cond.code y_W_init c_W_init 3 none ∈ qu_W ∧ Cond.initialized y_W_init.cls ∈ qu_W := ⟨qm_163, qm_6⟩
theorem p_W_init : (parseMethodDescriptor y_W_init.desc).map (fun d => d.parameters.length) = some 1 := by decide +kernel
theorem w_M_init : Cond.code y_M_init c_M_init 2 none ∈ qu_W ∧ Cond.initialized y_M_init.cls ∈ qu_W := ⟨qm_170, qm_7⟩
theorem p_M_init : (parseMethodDescriptor y_M_init.desc).map (fun d => d.parameters.length) = some 1 := by decide +kernel
theorem w_Q_timer : Cond.code y_Q_timer c_Q_timer 3 (some .boolean) ∈ qu_W ∧ Cond.initialized y_Q_timer.cls ∈ qu_W := ⟨qm_251, qm_1⟩
theorem p_Q_timer : (parseMethodDescriptor y_Q_timer.desc).map (fun d => d.parameters.length) = some 1 := by decide +kernel
theorem w_Q_isServer : Cond.code y_Q_isServer c_Q_isServer 1 (some .boolean) ∈ qu_W ∧ Cond.initialized y_Q_isServer.cls ∈ qu_W := ⟨qm_254, qm_1⟩
theorem p_Q_isServer : (parseMethodDescriptor y_Q_isServer.desc).map (fun d => d.parameters.length) = some 1 := by decide +kernel
theorem w_S_mayAsk : Cond.code y_S_mayAsk c_S_mayAsk 1 (some .boolean) ∈ qu_W ∧ Cond.initialized y_S_mayAsk.cls ∈ qu_W := ⟨qm_258, qm_4⟩
theorem p_S_mayAsk : (parseMethodDescriptor y_S_mayAsk.desc).map (fun d => d.parameters.length) = some 0 := by decide +kernel
theorem w_L_configuration : Cond.code y_L_configuration c_L_configuration 1 (some .int) ∈ qu_W ∧ Cond.initialized y_L_configuration.cls ∈ qu_W := ⟨qm_262, qm_5⟩
theorem p_L_configuration : (parseMethodDescriptor y_L_configuration.desc).map (fun d => d.parameters.length) = some 0 := by decide +kernel
theorem w_L_last : Cond.code y_L_last c_L_last 1 (some .int) ∈ qu_W ∧ Cond.initialized y_L_last.cls ∈ qu_W := ⟨qm_266, qm_5⟩
theorem p_L_last : (parseMethodDescriptor y_L_last.desc).map (fun d => d.parameters.length) = some 0 := by decide +kernel
theorem w_L_latestMembersUpTo : Cond.code y_L_latestMembersUpTo c_L_latestMembersUpTo 4 (some .int) ∈ qu_W ∧ Cond.initialized y_L_latestMembersUpTo.cls ∈ qu_W := ⟨qm_270, qm_5⟩
theorem p_L_latestMembersUpTo : (parseMethodDescriptor y_L_latestMembersUpTo.desc).map (fun d => d.parameters.length) = some 1 := by decide +kernel
theorem w_L_find : Cond.code y_L_find c_L_find 3 (some (.object "QuorumLog$Entry")) ∈ qu_W ∧ Cond.initialized y_L_find.cls ∈ qu_W := ⟨qm_274, qm_5⟩
theorem p_L_find : (parseMethodDescriptor y_L_find.desc).map (fun d => d.parameters.length) = some 1 := by decide +kernel
theorem w_L_membersAt : Cond.code y_L_membersAt c_L_membersAt 3 (some .int) ∈ qu_W ∧ Cond.initialized y_L_membersAt.cls ∈ qu_W := ⟨qm_278, qm_5⟩
theorem p_L_membersAt : (parseMethodDescriptor y_L_membersAt.desc).map (fun d => d.parameters.length) = some 1 := by decide +kernel
theorem w_Q_isIn : Cond.code y_Q_isIn c_Q_isIn 2 (some .boolean) ∈ qu_W ∧ Cond.initialized y_Q_isIn.cls ∈ qu_W := ⟨qm_281, qm_1⟩
theorem p_Q_isIn : (parseMethodDescriptor y_Q_isIn.desc).map (fun d => d.parameters.length) = some 2 := by decide +kernel
theorem w_Q_askAll : Cond.code y_Q_askAll c_Q_askAll 7 none ∈ qu_W ∧ Cond.initialized y_Q_askAll.cls ∈ qu_W := ⟨qm_285, qm_1⟩
theorem p_Q_askAll : (parseMethodDescriptor y_Q_askAll.desc).map (fun d => d.parameters.length) = some 3 := by decide +kernel
theorem w_W_send : Cond.code y_W_send c_W_send 6 (some (.object "QuorumLog$Message")) ∈ qu_W ∧ Cond.initialized y_W_send.cls ∈ qu_W := ⟨qm_291, qm_6⟩
theorem p_W_send : (parseMethodDescriptor y_W_send.desc).map (fun d => d.parameters.length) = some 4 := by decide +kernel
theorem w_M_begin : Cond.code y_M_begin c_M_begin 5 none ∈ qu_W ∧ Cond.initialized y_M_begin.cls ∈ qu_W := ⟨qm_295, qm_7⟩
theorem p_M_begin : (parseMethodDescriptor y_M_begin.desc).map (fun d => d.parameters.length) = some 4 := by decide +kernel
theorem w_L_lastTerm : Cond.code y_L_lastTerm c_L_lastTerm 1 (some .int) ∈ qu_W ∧ Cond.initialized y_L_lastTerm.cls ∈ qu_W := ⟨qm_300, qm_5⟩
theorem p_L_lastTerm : (parseMethodDescriptor y_L_lastTerm.desc).map (fun d => d.parameters.length) = some 0 := by decide +kernel
theorem w_L_termAt : Cond.code y_L_termAt c_L_termAt 3 (some .int) ∈ qu_W ∧ Cond.initialized y_L_termAt.cls ∈ qu_W := ⟨qm_304, qm_5⟩
theorem p_L_termAt : (parseMethodDescriptor y_L_termAt.desc).map (fun d => d.parameters.length) = some 1 := by decide +kernel
theorem w_Q_standIfMostSaidYes : Cond.code y_Q_standIfMostSaidYes c_Q_standIfMostSaidYes 2 none ∈ qu_W ∧ Cond.initialized y_Q_standIfMostSaidYes.cls ∈ qu_W := ⟨qm_308, qm_1⟩
theorem p_Q_standIfMostSaidYes : (parseMethodDescriptor y_Q_standIfMostSaidYes.desc).map (fun d => d.parameters.length) = some 1 := by decide +kernel
theorem w_Q_areMost : Cond.code y_Q_areMost c_Q_areMost 2 (some .boolean) ∈ qu_W ∧ Cond.initialized y_Q_areMost.cls ∈ qu_W := ⟨qm_311, qm_1⟩
theorem p_Q_areMost : (parseMethodDescriptor y_Q_areMost.desc).map (fun d => d.parameters.length) = some 2 := by decide +kernel
theorem w_Q_leadIfMostSaidYes : Cond.code y_Q_leadIfMostSaidYes c_Q_leadIfMostSaidYes 3 none ∈ qu_W ∧ Cond.initialized y_Q_leadIfMostSaidYes.cls ∈ qu_W := ⟨qm_321, qm_1⟩
theorem p_Q_leadIfMostSaidYes : (parseMethodDescriptor y_Q_leadIfMostSaidYes.desc).map (fun d => d.parameters.length) = some 1 := by decide +kernel
theorem w_E_init : Cond.code y_E_init c_E_init 5 none ∈ qu_W ∧ Cond.initialized y_E_init.cls ∈ qu_W := ⟨qm_326, qm_10⟩
theorem p_E_init : (parseMethodDescriptor y_E_init.desc).map (fun d => d.parameters.length) = some 4 := by decide +kernel
theorem w_Q_append : Cond.code y_Q_append c_Q_append 3 (some .int) ∈ qu_W ∧ Cond.initialized y_Q_append.cls ∈ qu_W := ⟨qm_352, qm_1⟩
theorem p_Q_append : (parseMethodDescriptor y_Q_append.desc).map (fun d => d.parameters.length) = some 2 := by decide +kernel
theorem w_L_add : Cond.code y_L_add c_L_add 2 (some .boolean) ∈ qu_W ∧ Cond.initialized y_L_add.cls ∈ qu_W := ⟨qm_356, qm_5⟩
theorem p_L_add : (parseMethodDescriptor y_L_add.desc).map (fun d => d.parameters.length) = some 1 := by decide +kernel
theorem w_Q_lookAtCommit : Cond.code y_Q_lookAtCommit c_Q_lookAtCommit 4 none ∈ qu_W ∧ Cond.initialized y_Q_lookAtCommit.cls ∈ qu_W := ⟨qm_360, qm_1⟩
theorem p_Q_lookAtCommit : (parseMethodDescriptor y_Q_lookAtCommit.desc).map (fun d => d.parameters.length) = some 1 := by decide +kernel
theorem w_S_holdersOf : Cond.code y_S_holdersOf c_S_holdersOf 2 (some .int) ∈ qu_W ∧ Cond.initialized y_S_holdersOf.cls ∈ qu_W := ⟨qm_365, qm_4⟩
theorem p_S_holdersOf : (parseMethodDescriptor y_S_holdersOf.desc).map (fun d => d.parameters.length) = some 1 := by decide +kernel
theorem w_S_reachedBy : Cond.code y_S_reachedBy c_S_reachedBy 5 (some .int) ∈ qu_W ∧ Cond.initialized y_S_reachedBy.cls ∈ qu_W := ⟨qm_369, qm_4⟩
theorem p_S_reachedBy : (parseMethodDescriptor y_S_reachedBy.desc).map (fun d => d.parameters.length) = some 2 := by decide +kernel
theorem w_Q_follow : Cond.code y_Q_follow c_Q_follow 2 none ∈ qu_W ∧ Cond.initialized y_Q_follow.cls ∈ qu_W := ⟨qm_374, qm_1⟩
theorem p_Q_follow : (parseMethodDescriptor y_Q_follow.desc).map (fun d => d.parameters.length) = some 1 := by decide +kernel
theorem w_R_failAllOf : Cond.code y_R_failAllOf c_R_failAllOf 3 none ∈ qu_W ∧ Cond.initialized y_R_failAllOf.cls ∈ qu_W := ⟨qm_378, qm_2⟩
theorem p_R_failAllOf : (parseMethodDescriptor y_R_failAllOf.desc).map (fun d => d.parameters.length) = some 1 := by decide +kernel
theorem w_R_isKeptBy : Cond.code y_R_isKeptBy c_R_isKeptBy 3 (some .boolean) ∈ qu_W ∧ Cond.initialized y_R_isKeptBy.cls ∈ qu_W := ⟨qm_382, qm_2⟩
theorem p_R_isKeptBy : (parseMethodDescriptor y_R_isKeptBy.desc).map (fun d => d.parameters.length) = some 2 := by decide +kernel
theorem w_Q_sendToAll : Cond.code y_Q_sendToAll c_Q_sendToAll 4 none ∈ qu_W ∧ Cond.initialized y_Q_sendToAll.cls ∈ qu_W := ⟨qm_386, qm_1⟩
theorem p_Q_sendToAll : (parseMethodDescriptor y_Q_sendToAll.desc).map (fun d => d.parameters.length) = some 1 := by decide +kernel
theorem w_Q_sendTo : Cond.code y_Q_sendTo c_Q_sendTo 6 none ∈ qu_W ∧ Cond.initialized y_Q_sendTo.cls ∈ qu_W := ⟨qm_390, qm_1⟩
theorem p_Q_sendTo : (parseMethodDescriptor y_Q_sendTo.desc).map (fun d => d.parameters.length) = some 2 := by decide +kernel
theorem w_L_copyBehind : Cond.code y_L_copyBehind c_L_copyBehind 5 (some .int) ∈ qu_W ∧ Cond.initialized y_L_copyBehind.cls ∈ qu_W := ⟨qm_394, qm_5⟩
theorem p_L_copyBehind : (parseMethodDescriptor y_L_copyBehind.desc).map (fun d => d.parameters.length) = some 2 := by decide +kernel
theorem w_Q_beat : Cond.code y_Q_beat c_Q_beat 2 (some .boolean) ∈ qu_W ∧ Cond.initialized y_Q_beat.cls ∈ qu_W := ⟨qm_398, qm_1⟩
theorem p_Q_beat : (parseMethodDescriptor y_Q_beat.desc).map (fun d => d.parameters.length) = some 1 := by decide +kernel
theorem w_S_leads : Cond.code y_S_leads c_S_leads 1 (some .boolean) ∈ qu_W ∧ Cond.initialized y_S_leads.cls ∈ qu_W := ⟨qm_402, qm_4⟩
theorem p_S_leads : (parseMethodDescriptor y_S_leads.desc).map (fun d => d.parameters.length) = some 0 := by decide +kernel
theorem w_Q_outcome : Cond.code y_Q_outcome c_Q_outcome 2 (some .int) ∈ qu_W ∧ Cond.initialized y_Q_outcome.cls ∈ qu_W := ⟨qm_406, qm_1⟩
theorem p_Q_outcome : (parseMethodDescriptor y_Q_outcome.desc).map (fun d => d.parameters.length) = some 1 := by decide +kernel
theorem w_R_holds : Cond.code y_R_holds c_R_holds 2 (some .boolean) ∈ qu_W ∧ Cond.initialized y_R_holds.cls ∈ qu_W := ⟨qm_410, qm_2⟩
theorem p_R_holds : (parseMethodDescriptor y_R_holds.desc).map (fun d => d.parameters.length) = some 1 := by decide +kernel
theorem w_Q_value : Cond.code y_Q_value c_Q_value 2 (some .int) ∈ qu_W ∧ Cond.initialized y_Q_value.cls ∈ qu_W := ⟨qm_414, qm_1⟩
theorem p_Q_value : (parseMethodDescriptor y_Q_value.desc).map (fun d => d.parameters.length) = some 1 := by decide +kernel
theorem w_Q_compact : Cond.code y_Q_compact c_Q_compact 3 (some .boolean) ∈ qu_W ∧ Cond.initialized y_Q_compact.cls ∈ qu_W := ⟨qm_418, qm_1⟩
theorem p_Q_compact : (parseMethodDescriptor y_Q_compact.desc).map (fun d => d.parameters.length) = some 1 := by decide +kernel
theorem w_L_snapshotAt : Cond.code y_L_snapshotAt c_L_snapshotAt 4 (some (.object "QuorumLog$Snapshot")) ∈ qu_W ∧ Cond.initialized y_L_snapshotAt.cls ∈ qu_W := ⟨qm_422, qm_5⟩
theorem p_L_snapshotAt : (parseMethodDescriptor y_L_snapshotAt.desc).map (fun d => d.parameters.length) = some 1 := by decide +kernel
theorem w_L_storedUpTo : Cond.code y_L_storedUpTo c_L_storedUpTo 5 (some .int) ∈ qu_W ∧ Cond.initialized y_L_storedUpTo.cls ∈ qu_W := ⟨qm_426, qm_5⟩
theorem p_L_storedUpTo : (parseMethodDescriptor y_L_storedUpTo.desc).map (fun d => d.parameters.length) = some 2 := by decide +kernel
theorem w_L_beginBehind : Cond.code y_L_beginBehind c_L_beginBehind 6 none ∈ qu_W ∧ Cond.initialized y_L_beginBehind.cls ∈ qu_W := ⟨qm_432, qm_5⟩
theorem p_L_beginBehind : (parseMethodDescriptor y_L_beginBehind.desc).map (fun d => d.parameters.length) = some 1 := by decide +kernel
theorem w_Q_crash : Cond.code y_Q_crash c_Q_crash 3 (some .boolean) ∈ qu_W ∧ Cond.initialized y_Q_crash.cls ∈ qu_W := ⟨qm_436, qm_1⟩
theorem p_Q_crash : (parseMethodDescriptor y_Q_crash.desc).map (fun d => d.parameters.length) = some 1 := by decide +kernel
theorem w_Q_restart : Cond.code y_Q_restart c_Q_restart 2 (some .boolean) ∈ qu_W ∧ Cond.initialized y_Q_restart.cls ∈ qu_W := ⟨qm_440, qm_1⟩
theorem p_Q_restart : (parseMethodDescriptor y_Q_restart.desc).map (fun d => d.parameters.length) = some 1 := by decide +kernel
theorem w_Q_deliver : Cond.code y_Q_deliver c_Q_deliver 4 (some .int) ∈ qu_W ∧ Cond.initialized y_Q_deliver.cls ∈ qu_W := ⟨qm_444, qm_1⟩
theorem p_Q_deliver : (parseMethodDescriptor y_Q_deliver.desc).map (fun d => d.parameters.length) = some 1 := by decide +kernel
theorem w_W_holds : Cond.code y_W_holds c_W_holds 2 (some .boolean) ∈ qu_W ∧ Cond.initialized y_W_holds.cls ∈ qu_W := ⟨qm_448, qm_6⟩
theorem p_W_holds : (parseMethodDescriptor y_W_holds.desc).map (fun d => d.parameters.length) = some 1 := by decide +kernel
theorem w_W_take : Cond.code y_W_take c_W_take 4 (some (.object "QuorumLog$Message")) ∈ qu_W ∧ Cond.initialized y_W_take.cls ∈ qu_W := ⟨qm_452, qm_6⟩
theorem p_W_take : (parseMethodDescriptor y_W_take.desc).map (fun d => d.parameters.length) = some 1 := by decide +kernel
theorem w_Q_come : Cond.code y_Q_come c_Q_come 3 none ∈ qu_W ∧ Cond.initialized y_Q_come.cls ∈ qu_W := ⟨qm_456, qm_1⟩
theorem p_Q_come : (parseMethodDescriptor y_Q_come.desc).map (fun d => d.parameters.length) = some 2 := by decide +kernel
theorem w_Q_enterTerm : Cond.code y_Q_enterTerm c_Q_enterTerm 3 none ∈ qu_W ∧ Cond.initialized y_Q_enterTerm.cls ∈ qu_W := ⟨qm_460, qm_1⟩
theorem p_Q_enterTerm : (parseMethodDescriptor y_Q_enterTerm.desc).map (fun d => d.parameters.length) = some 2 := by decide +kernel
theorem w_Q_questionComes : Cond.code y_Q_questionComes c_Q_questionComes 5 none ∈ qu_W ∧ Cond.initialized y_Q_questionComes.cls ∈ qu_W := ⟨qm_464, qm_1⟩
theorem p_Q_questionComes : (parseMethodDescriptor y_Q_questionComes.desc).map (fun d => d.parameters.length) = some 2 := by decide +kernel
theorem w_L_isBehindOf : Cond.code y_L_isBehindOf c_L_isBehindOf 3 (some .boolean) ∈ qu_W ∧ Cond.initialized y_L_isBehindOf.cls ∈ qu_W := ⟨qm_468, qm_5⟩
theorem p_L_isBehindOf : (parseMethodDescriptor y_L_isBehindOf.desc).map (fun d => d.parameters.length) = some 1 := by decide +kernel
theorem w_Q_answerComes : Cond.code y_Q_answerComes c_Q_answerComes 3 none ∈ qu_W ∧ Cond.initialized y_Q_answerComes.cls ∈ qu_W := ⟨qm_473, qm_1⟩
theorem p_Q_answerComes : (parseMethodDescriptor y_Q_answerComes.desc).map (fun d => d.parameters.length) = some 2 := by decide +kernel
theorem w_Q_callComes : Cond.code y_Q_callComes c_Q_callComes 6 none ∈ qu_W ∧ Cond.initialized y_Q_callComes.cls ∈ qu_W := ⟨qm_477, qm_1⟩
theorem p_Q_callComes : (parseMethodDescriptor y_Q_callComes.desc).map (fun d => d.parameters.length) = some 2 := by decide +kernel
theorem w_Q_voteComes : Cond.code y_Q_voteComes c_Q_voteComes 3 none ∈ qu_W ∧ Cond.initialized y_Q_voteComes.cls ∈ qu_W := ⟨qm_481, qm_1⟩
theorem p_Q_voteComes : (parseMethodDescriptor y_Q_voteComes.desc).map (fun d => d.parameters.length) = some 2 := by decide +kernel
theorem w_Q_appendComes : Cond.code y_Q_appendComes c_Q_appendComes 4 none ∈ qu_W ∧ Cond.initialized y_Q_appendComes.cls ∈ qu_W := ⟨qm_485, qm_1⟩
theorem p_Q_appendComes : (parseMethodDescriptor y_Q_appendComes.desc).map (fun d => d.parameters.length) = some 2 := by decide +kernel
theorem w_Q_sendResult : Cond.code y_Q_sendResult c_Q_sendResult 7 none ∈ qu_W ∧ Cond.initialized y_Q_sendResult.cls ∈ qu_W := ⟨qm_489, qm_1⟩
theorem p_Q_sendResult : (parseMethodDescriptor y_Q_sendResult.desc).map (fun d => d.parameters.length) = some 5 := by decide +kernel
theorem w_L_fitsBehind : Cond.code y_L_fitsBehind c_L_fitsBehind 3 (some .boolean) ∈ qu_W ∧ Cond.initialized y_L_fitsBehind.cls ∈ qu_W := ⟨qm_493, qm_5⟩
theorem p_L_fitsBehind : (parseMethodDescriptor y_L_fitsBehind.desc).map (fun d => d.parameters.length) = some 2 := by decide +kernel
theorem w_L_takeOver : Cond.code y_L_takeOver c_L_takeOver 4 (some .int) ∈ qu_W ∧ Cond.initialized y_L_takeOver.cls ∈ qu_W := ⟨qm_503, qm_5⟩
theorem p_L_takeOver : (parseMethodDescriptor y_L_takeOver.desc).map (fun d => d.parameters.length) = some 1 := by decide +kernel
theorem w_L_hasOrTakes : Cond.code y_L_hasOrTakes c_L_hasOrTakes 3 (some .boolean) ∈ qu_W ∧ Cond.initialized y_L_hasOrTakes.cls ∈ qu_W := ⟨qm_507, qm_5⟩
theorem p_L_hasOrTakes : (parseMethodDescriptor y_L_hasOrTakes.desc).map (fun d => d.parameters.length) = some 2 := by decide +kernel
theorem w_L_cutFrom : Cond.code y_L_cutFrom c_L_cutFrom 3 none ∈ qu_W ∧ Cond.initialized y_L_cutFrom.cls ∈ qu_W := ⟨qm_511, qm_5⟩
theorem p_L_cutFrom : (parseMethodDescriptor y_L_cutFrom.desc).map (fun d => d.parameters.length) = some 1 := by decide +kernel
theorem w_Q_resultComes : Cond.code y_Q_resultComes c_Q_resultComes 5 none ∈ qu_W ∧ Cond.initialized y_Q_resultComes.cls ∈ qu_W := ⟨qm_516, qm_1⟩
theorem p_Q_resultComes : (parseMethodDescriptor y_Q_resultComes.desc).map (fun d => d.parameters.length) = some 2 := by decide +kernel
theorem w_Q_lookAtReads : Cond.code y_Q_lookAtReads c_Q_lookAtReads 4 none ∈ qu_W ∧ Cond.initialized y_Q_lookAtReads.cls ∈ qu_W := ⟨qm_520, qm_1⟩
theorem p_Q_lookAtReads : (parseMethodDescriptor y_Q_lookAtReads.desc).map (fun d => d.parameters.length) = some 1 := by decide +kernel
theorem w_S_confirmersOf : Cond.code y_S_confirmersOf c_S_confirmersOf 2 (some .int) ∈ qu_W ∧ Cond.initialized y_S_confirmersOf.cls ∈ qu_W := ⟨qm_525, qm_4⟩
theorem p_S_confirmersOf : (parseMethodDescriptor y_S_confirmersOf.desc).map (fun d => d.parameters.length) = some 1 := by decide +kernel
theorem w_S_storedNow : Cond.code y_S_storedNow c_S_storedNow 2 (some .int) ∈ qu_W ∧ Cond.initialized y_S_storedNow.cls ∈ qu_W := ⟨qm_529, qm_4⟩
theorem p_S_storedNow : (parseMethodDescriptor y_S_storedNow.desc).map (fun d => d.parameters.length) = some 1 := by decide +kernel
theorem w_Q_installComes : Cond.code y_Q_installComes c_Q_installComes 3 none ∈ qu_W ∧ Cond.initialized y_Q_installComes.cls ∈ qu_W := ⟨qm_534, qm_1⟩
theorem p_Q_installComes : (parseMethodDescriptor y_Q_installComes.desc).map (fun d => d.parameters.length) = some 2 := by decide +kernel
theorem w_Q_lose : Cond.code y_Q_lose c_Q_lose 2 (some .boolean) ∈ qu_W ∧ Cond.initialized y_Q_lose.cls ∈ qu_W := ⟨qm_538, qm_1⟩
theorem p_Q_lose : (parseMethodDescriptor y_Q_lose.desc).map (fun d => d.parameters.length) = some 1 := by decide +kernel
theorem w_Q_waiting : Cond.code y_Q_waiting c_Q_waiting 1 (some .int) ∈ qu_W ∧ Cond.initialized y_Q_waiting.cls ∈ qu_W := ⟨qm_542, qm_1⟩
theorem p_Q_waiting : (parseMethodDescriptor y_Q_waiting.desc).map (fun d => d.parameters.length) = some 0 := by decide +kernel
theorem w_Q_message : Cond.code y_Q_message c_Q_message 4 (some .int) ∈ qu_W ∧ Cond.initialized y_Q_message.cls ∈ qu_W := ⟨qm_546, qm_1⟩
theorem p_Q_message : (parseMethodDescriptor y_Q_message.desc).map (fun d => d.parameters.length) = some 2 := by decide +kernel
theorem w_Q_state : Cond.code y_Q_state c_Q_state 4 (some .int) ∈ qu_W ∧ Cond.initialized y_Q_state.cls ∈ qu_W := ⟨qm_550, qm_1⟩
theorem p_Q_state : (parseMethodDescriptor y_Q_state.desc).map (fun d => d.parameters.length) = some 2 := by decide +kernel
theorem w_Q_entry : Cond.code y_Q_entry c_Q_entry 5 (some .int) ∈ qu_W ∧ Cond.initialized y_Q_entry.cls ∈ qu_W := ⟨qm_554, qm_1⟩
theorem p_Q_entry : (parseMethodDescriptor y_Q_entry.desc).map (fun d => d.parameters.length) = some 3 := by decide +kernel
theorem w_Q_stored : Cond.code y_Q_stored c_Q_stored 3 (some .int) ∈ qu_W ∧ Cond.initialized y_Q_stored.cls ∈ qu_W := ⟨qm_559, qm_1⟩
theorem p_Q_stored : (parseMethodDescriptor y_Q_stored.desc).map (fun d => d.parameters.length) = some 2 := by decide +kernel
theorem w_Q_isKey : Cond.code y_Q_isKey c_Q_isKey 1 (some .boolean) ∈ qu_W ∧ Cond.initialized y_Q_isKey.cls ∈ qu_W := ⟨qm_562, qm_1⟩
theorem p_Q_isKey : (parseMethodDescriptor y_Q_isKey.desc).map (fun d => d.parameters.length) = some 1 := by decide +kernel
theorem w_Z_cell : Cond.code y_Z_cell c_Z_cell 2 (some .int) ∈ qu_W ∧ Cond.initialized y_Z_cell.cls ∈ qu_W := ⟨qm_565, qm_0⟩
theorem p_Z_cell : (parseMethodDescriptor y_Z_cell.desc).map (fun d => d.parameters.length) = some 2 := by decide +kernel
theorem w_Q_put : Cond.code y_Q_put c_Q_put 5 (some .int) ∈ qu_W ∧ Cond.initialized y_Q_put.cls ∈ qu_W := ⟨qm_575, qm_1⟩
theorem p_Q_put : (parseMethodDescriptor y_Q_put.desc).map (fun d => d.parameters.length) = some 3 := by decide +kernel
theorem w_Q_leaderFor : Cond.code y_Q_leaderFor c_Q_leaderFor 3 (some (.object "QuorumLog$Server")) ∈ qu_W ∧ Cond.initialized y_Q_leaderFor.cls ∈ qu_W := ⟨qm_579, qm_1⟩
theorem p_Q_leaderFor : (parseMethodDescriptor y_Q_leaderFor.desc).map (fun d => d.parameters.length) = some 2 := by decide +kernel
theorem w_Q_change : Cond.code y_Q_change c_Q_change 8 (some .int) ∈ qu_W ∧ Cond.initialized y_Q_change.cls ∈ qu_W := ⟨qm_686, qm_1⟩
theorem p_Q_change : (parseMethodDescriptor y_Q_change.desc).map (fun d => d.parameters.length) = some 3 := by decide +kernel
theorem w_S_hasCommitOfItsTerm : Cond.code y_S_hasCommitOfItsTerm c_S_hasCommitOfItsTerm 1 (some .boolean) ∈ qu_W ∧ Cond.initialized y_S_hasCommitOfItsTerm.cls ∈ qu_W := ⟨qm_692, qm_4⟩
theorem p_S_hasCommitOfItsTerm : (parseMethodDescriptor y_S_hasCommitOfItsTerm.desc).map (fun d => d.parameters.length) = some 0 := by decide +kernel
theorem w_Q_read : Cond.code y_Q_read c_Q_read 5 (some .int) ∈ qu_W ∧ Cond.initialized y_Q_read.cls ∈ qu_W := ⟨qm_701, qm_1⟩
theorem p_Q_read : (parseMethodDescriptor y_Q_read.desc).map (fun d => d.parameters.length) = some 2 := by decide +kernel
theorem w_R_keptBy : Cond.code y_R_keptBy c_R_keptBy 4 (some .int) ∈ qu_W ∧ Cond.initialized y_R_keptBy.cls ∈ qu_W := ⟨qm_705, qm_2⟩
theorem p_R_keptBy : (parseMethodDescriptor y_R_keptBy.desc).map (fun d => d.parameters.length) = some 1 := by decide +kernel
theorem w_R_keep : Cond.code y_R_keep c_R_keep 5 (some .int) ∈ qu_W ∧ Cond.initialized y_R_keep.cls ∈ qu_W := ⟨qm_710, qm_2⟩
theorem p_R_keep : (parseMethodDescriptor y_R_keep.desc).map (fun d => d.parameters.length) = some 3 := by decide +kernel
theorem w_D_init : Cond.code y_D_init c_D_init 3 none ∈ qu_W ∧ Cond.initialized y_D_init.cls ∈ qu_W := ⟨qm_715, qm_8⟩
theorem p_D_init : (parseMethodDescriptor y_D_init.desc).map (fun d => d.parameters.length) = some 1 := by decide +kernel
theorem w_D_thrown : Cond.code y_D_thrown c_D_thrown 1 (some .int) ∈ qu_W ∧ Cond.initialized y_D_thrown.cls ∈ qu_W := ⟨qm_812, qm_8⟩
theorem p_D_thrown : (parseMethodDescriptor y_D_thrown.desc).map (fun d => d.parameters.length) = some 0 := by decide +kernel
theorem w_D_timer : Cond.code y_D_timer c_D_timer 2 (some .boolean) ∈ qu_W ∧ Cond.initialized y_D_timer.cls ∈ qu_W := ⟨qm_816, qm_8⟩
theorem p_D_timer : (parseMethodDescriptor y_D_timer.desc).map (fun d => d.parameters.length) = some 1 := by decide +kernel
theorem w_D_isServer : Cond.code y_D_isServer c_D_isServer 1 (some .boolean) ∈ qu_W ∧ Cond.initialized y_D_isServer.cls ∈ qu_W := ⟨qm_819, qm_8⟩
theorem p_D_isServer : (parseMethodDescriptor y_D_isServer.desc).map (fun d => d.parameters.length) = some 1 := by decide +kernel
theorem w_D_isMine : Cond.code y_D_isMine c_D_isMine 2 (some .boolean) ∈ qu_W ∧ Cond.initialized y_D_isMine.cls ∈ qu_W := ⟨qm_823, qm_8⟩
theorem p_D_isMine : (parseMethodDescriptor y_D_isMine.desc).map (fun d => d.parameters.length) = some 1 := by decide +kernel
theorem w_D_config : Cond.code y_D_config c_D_config 2 (some .int) ∈ qu_W ∧ Cond.initialized y_D_config.cls ∈ qu_W := ⟨qm_827, qm_8⟩
theorem p_D_config : (parseMethodDescriptor y_D_config.desc).map (fun d => d.parameters.length) = some 1 := by decide +kernel
theorem w_D_last : Cond.code y_D_last c_D_last 2 (some .int) ∈ qu_W ∧ Cond.initialized y_D_last.cls ∈ qu_W := ⟨qm_831, qm_8⟩
theorem p_D_last : (parseMethodDescriptor y_D_last.desc).map (fun d => d.parameters.length) = some 1 := by decide +kernel
theorem w_D_membersAt : Cond.code y_D_membersAt c_D_membersAt 4 (some .int) ∈ qu_W ∧ Cond.initialized y_D_membersAt.cls ∈ qu_W := ⟨qm_835, qm_8⟩
theorem p_D_membersAt : (parseMethodDescriptor y_D_membersAt.desc).map (fun d => d.parameters.length) = some 2 := by decide +kernel
theorem w_D_latestMembers : Cond.code y_D_latestMembers c_D_latestMembers 5 (some .int) ∈ qu_W ∧ Cond.initialized y_D_latestMembers.cls ∈ qu_W := ⟨qm_839, qm_8⟩
theorem p_D_latestMembers : (parseMethodDescriptor y_D_latestMembers.desc).map (fun d => d.parameters.length) = some 2 := by decide +kernel
theorem w_D_cell : Cond.code y_D_cell c_D_cell 3 (some .int) ∈ qu_W ∧ Cond.initialized y_D_cell.cls ∈ qu_W := ⟨qm_843, qm_8⟩
theorem p_D_cell : (parseMethodDescriptor y_D_cell.desc).map (fun d => d.parameters.length) = some 2 := by decide +kernel
theorem w_D_askAll : Cond.code y_D_askAll c_D_askAll 6 none ∈ qu_W ∧ Cond.initialized y_D_askAll.cls ∈ qu_W := ⟨qm_847, qm_8⟩
theorem p_D_askAll : (parseMethodDescriptor y_D_askAll.desc).map (fun d => d.parameters.length) = some 3 := by decide +kernel
theorem w_D_begin : Cond.code y_D_begin c_D_begin 6 none ∈ qu_W ∧ Cond.initialized y_D_begin.cls ∈ qu_W := ⟨qm_851, qm_8⟩
theorem p_D_begin : (parseMethodDescriptor y_D_begin.desc).map (fun d => d.parameters.length) = some 4 := by decide +kernel
theorem w_D_lastTerm : Cond.code y_D_lastTerm c_D_lastTerm 2 (some .int) ∈ qu_W ∧ Cond.initialized y_D_lastTerm.cls ∈ qu_W := ⟨qm_855, qm_8⟩
theorem p_D_lastTerm : (parseMethodDescriptor y_D_lastTerm.desc).map (fun d => d.parameters.length) = some 1 := by decide +kernel
theorem w_D_termAt : Cond.code y_D_termAt c_D_termAt 4 (some .int) ∈ qu_W ∧ Cond.initialized y_D_termAt.cls ∈ qu_W := ⟨qm_859, qm_8⟩
theorem p_D_termAt : (parseMethodDescriptor y_D_termAt.desc).map (fun d => d.parameters.length) = some 2 := by decide +kernel
theorem w_D_post : Cond.code y_D_post c_D_post 2 none ∈ qu_W ∧ Cond.initialized y_D_post.cls ∈ qu_W := ⟨qm_863, qm_8⟩
theorem p_D_post : (parseMethodDescriptor y_D_post.desc).map (fun d => d.parameters.length) = some 0 := by decide +kernel
theorem w_D_weigh : Cond.code y_D_weigh c_D_weigh 2 none ∈ qu_W ∧ Cond.initialized y_D_weigh.cls ∈ qu_W := ⟨qm_867, qm_8⟩
theorem p_D_weigh : (parseMethodDescriptor y_D_weigh.desc).map (fun d => d.parameters.length) = some 1 := by decide +kernel
theorem w_D_most : Cond.code y_D_most c_D_most 4 (some .boolean) ∈ qu_W ∧ Cond.initialized y_D_most.cls ∈ qu_W := ⟨qm_871, qm_8⟩
theorem p_D_most : (parseMethodDescriptor y_D_most.desc).map (fun d => d.parameters.length) = some 2 := by decide +kernel
theorem w_D_count : Cond.code y_D_count c_D_count 3 (some .int) ∈ qu_W ∧ Cond.initialized y_D_count.cls ∈ qu_W := ⟨qm_874, qm_8⟩
theorem p_D_count : (parseMethodDescriptor y_D_count.desc).map (fun d => d.parameters.length) = some 1 := by decide +kernel
theorem w_D_lead : Cond.code y_D_lead c_D_lead 3 none ∈ qu_W ∧ Cond.initialized y_D_lead.cls ∈ qu_W := ⟨qm_878, qm_8⟩
theorem p_D_lead : (parseMethodDescriptor y_D_lead.desc).map (fun d => d.parameters.length) = some 1 := by decide +kernel
theorem w_D_append : Cond.code y_D_append c_D_append 6 (some .int) ∈ qu_W ∧ Cond.initialized y_D_append.cls ∈ qu_W := ⟨qm_882, qm_8⟩
theorem p_D_append : (parseMethodDescriptor y_D_append.desc).map (fun d => d.parameters.length) = some 4 := by decide +kernel
theorem w_D_push : Cond.code y_D_push c_D_push 7 none ∈ qu_W ∧ Cond.initialized y_D_push.cls ∈ qu_W := ⟨qm_886, qm_8⟩
theorem p_D_push : (parseMethodDescriptor y_D_push.desc).map (fun d => d.parameters.length) = some 5 := by decide +kernel
theorem w_D_lookAtCommit : Cond.code y_D_lookAtCommit c_D_lookAtCommit 4 none ∈ qu_W ∧ Cond.initialized y_D_lookAtCommit.cls ∈ qu_W := ⟨qm_890, qm_8⟩
theorem p_D_lookAtCommit : (parseMethodDescriptor y_D_lookAtCommit.desc).map (fun d => d.parameters.length) = some 1 := by decide +kernel
theorem w_D_having : Cond.code y_D_having c_D_having 5 (some .int) ∈ qu_W ∧ Cond.initialized y_D_having.cls ∈ qu_W := ⟨qm_894, qm_8⟩
theorem p_D_having : (parseMethodDescriptor y_D_having.desc).map (fun d => d.parameters.length) = some 2 := by decide +kernel
theorem w_D_follow : Cond.code y_D_follow c_D_follow 4 none ∈ qu_W ∧ Cond.initialized y_D_follow.cls ∈ qu_W := ⟨qm_898, qm_8⟩
theorem p_D_follow : (parseMethodDescriptor y_D_follow.desc).map (fun d => d.parameters.length) = some 1 := by decide +kernel
theorem w_D_sendAll : Cond.code y_D_sendAll c_D_sendAll 4 none ∈ qu_W ∧ Cond.initialized y_D_sendAll.cls ∈ qu_W := ⟨qm_902, qm_8⟩
theorem p_D_sendAll : (parseMethodDescriptor y_D_sendAll.desc).map (fun d => d.parameters.length) = some 1 := by decide +kernel
theorem w_D_sendTo : Cond.code y_D_sendTo c_D_sendTo 8 none ∈ qu_W ∧ Cond.initialized y_D_sendTo.cls ∈ qu_W := ⟨qm_906, qm_8⟩
theorem p_D_sendTo : (parseMethodDescriptor y_D_sendTo.desc).map (fun d => d.parameters.length) = some 2 := by decide +kernel
theorem w_D_beat : Cond.code y_D_beat c_D_beat 2 (some .boolean) ∈ qu_W ∧ Cond.initialized y_D_beat.cls ∈ qu_W := ⟨qm_910, qm_8⟩
theorem p_D_beat : (parseMethodDescriptor y_D_beat.desc).map (fun d => d.parameters.length) = some 1 := by decide +kernel
theorem w_D_leads : Cond.code y_D_leads c_D_leads 2 (some .boolean) ∈ qu_W ∧ Cond.initialized y_D_leads.cls ∈ qu_W := ⟨qm_914, qm_8⟩
theorem p_D_leads : (parseMethodDescriptor y_D_leads.desc).map (fun d => d.parameters.length) = some 1 := by decide +kernel
theorem w_D_put : Cond.code y_D_put c_D_put 4 (some .int) ∈ qu_W ∧ Cond.initialized y_D_put.cls ∈ qu_W := ⟨qm_918, qm_8⟩
theorem p_D_put : (parseMethodDescriptor y_D_put.desc).map (fun d => d.parameters.length) = some 3 := by decide +kernel
theorem w_D_isKey : Cond.code y_D_isKey c_D_isKey 1 (some .boolean) ∈ qu_W ∧ Cond.initialized y_D_isKey.cls ∈ qu_W := ⟨qm_921, qm_8⟩
theorem p_D_isKey : (parseMethodDescriptor y_D_isKey.desc).map (fun d => d.parameters.length) = some 1 := by decide +kernel
theorem w_D_fail : Cond.code y_D_fail c_D_fail 2 (some .int) ∈ qu_W ∧ Cond.initialized y_D_fail.cls ∈ qu_W := ⟨qm_925, qm_8⟩
theorem p_D_fail : (parseMethodDescriptor y_D_fail.desc).map (fun d => d.parameters.length) = some 1 := by decide +kernel
theorem w_D_change : Cond.code y_D_change c_D_change 6 (some .int) ∈ qu_W ∧ Cond.initialized y_D_change.cls ∈ qu_W := ⟨qm_929, qm_8⟩
theorem p_D_change : (parseMethodDescriptor y_D_change.desc).map (fun d => d.parameters.length) = some 3 := by decide +kernel
theorem w_D_isOld : Cond.code y_D_isOld c_D_isOld 2 (some .boolean) ∈ qu_W ∧ Cond.initialized y_D_isOld.cls ∈ qu_W := ⟨qm_933, qm_8⟩
theorem p_D_isOld : (parseMethodDescriptor y_D_isOld.desc).map (fun d => d.parameters.length) = some 1 := by decide +kernel
theorem w_D_read : Cond.code y_D_read c_D_read 5 (some .int) ∈ qu_W ∧ Cond.initialized y_D_read.cls ∈ qu_W := ⟨qm_937, qm_8⟩
theorem p_D_read : (parseMethodDescriptor y_D_read.desc).map (fun d => d.parameters.length) = some 2 := by decide +kernel
theorem w_D_lookAtReads : Cond.code y_D_lookAtReads c_D_lookAtReads 5 none ∈ qu_W ∧ Cond.initialized y_D_lookAtReads.cls ∈ qu_W := ⟨qm_941, qm_8⟩
theorem p_D_lookAtReads : (parseMethodDescriptor y_D_lookAtReads.desc).map (fun d => d.parameters.length) = some 1 := by decide +kernel
theorem w_D_valueAt : Cond.code y_D_valueAt c_D_valueAt 7 (some .int) ∈ qu_W ∧ Cond.initialized y_D_valueAt.cls ∈ qu_W := ⟨qm_945, qm_8⟩
theorem p_D_valueAt : (parseMethodDescriptor y_D_valueAt.desc).map (fun d => d.parameters.length) = some 3 := by decide +kernel
theorem w_D_outcome : Cond.code y_D_outcome c_D_outcome 2 (some .int) ∈ qu_W ∧ Cond.initialized y_D_outcome.cls ∈ qu_W := ⟨qm_949, qm_8⟩
theorem p_D_outcome : (parseMethodDescriptor y_D_outcome.desc).map (fun d => d.parameters.length) = some 1 := by decide +kernel
theorem w_D_value : Cond.code y_D_value c_D_value 2 (some .int) ∈ qu_W ∧ Cond.initialized y_D_value.cls ∈ qu_W := ⟨qm_953, qm_8⟩
theorem p_D_value : (parseMethodDescriptor y_D_value.desc).map (fun d => d.parameters.length) = some 1 := by decide +kernel
theorem w_D_compact : Cond.code y_D_compact c_D_compact 7 (some .boolean) ∈ qu_W ∧ Cond.initialized y_D_compact.cls ∈ qu_W := ⟨qm_957, qm_8⟩
theorem p_D_compact : (parseMethodDescriptor y_D_compact.desc).map (fun d => d.parameters.length) = some 1 := by decide +kernel
theorem w_D_shift : Cond.code y_D_shift c_D_shift 6 none ∈ qu_W ∧ Cond.initialized y_D_shift.cls ∈ qu_W := ⟨qm_961, qm_8⟩
theorem p_D_shift : (parseMethodDescriptor y_D_shift.desc).map (fun d => d.parameters.length) = some 2 := by decide +kernel
theorem w_D_crash : Cond.code y_D_crash c_D_crash 2 (some .boolean) ∈ qu_W ∧ Cond.initialized y_D_crash.cls ∈ qu_W := ⟨qm_965, qm_8⟩
theorem p_D_crash : (parseMethodDescriptor y_D_crash.desc).map (fun d => d.parameters.length) = some 1 := by decide +kernel
theorem w_D_restart : Cond.code y_D_restart c_D_restart 2 (some .boolean) ∈ qu_W ∧ Cond.initialized y_D_restart.cls ∈ qu_W := ⟨qm_969, qm_8⟩
theorem p_D_restart : (parseMethodDescriptor y_D_restart.desc).map (fun d => d.parameters.length) = some 1 := by decide +kernel
theorem w_D_deliver : Cond.code y_D_deliver c_D_deliver 4 (some .int) ∈ qu_W ∧ Cond.initialized y_D_deliver.cls ∈ qu_W := ⟨qm_973, qm_8⟩
theorem p_D_deliver : (parseMethodDescriptor y_D_deliver.desc).map (fun d => d.parameters.length) = some 1 := by decide +kernel
theorem w_D_takeOut : Cond.code y_D_takeOut c_D_takeOut 3 none ∈ qu_W ∧ Cond.initialized y_D_takeOut.cls ∈ qu_W := ⟨qm_977, qm_8⟩
theorem p_D_takeOut : (parseMethodDescriptor y_D_takeOut.desc).map (fun d => d.parameters.length) = some 1 := by decide +kernel
theorem w_D_newTerm : Cond.code y_D_newTerm c_D_newTerm 3 none ∈ qu_W ∧ Cond.initialized y_D_newTerm.cls ∈ qu_W := ⟨qm_981, qm_8⟩
theorem p_D_newTerm : (parseMethodDescriptor y_D_newTerm.desc).map (fun d => d.parameters.length) = some 2 := by decide +kernel
theorem w_D_question : Cond.code y_D_question c_D_question 5 none ∈ qu_W ∧ Cond.initialized y_D_question.cls ∈ qu_W := ⟨qm_985, qm_8⟩
theorem p_D_question : (parseMethodDescriptor y_D_question.desc).map (fun d => d.parameters.length) = some 3 := by decide +kernel
theorem w_D_liesBefore : Cond.code y_D_liesBefore c_D_liesBefore 4 (some .boolean) ∈ qu_W ∧ Cond.initialized y_D_liesBefore.cls ∈ qu_W := ⟨qm_989, qm_8⟩
theorem p_D_liesBefore : (parseMethodDescriptor y_D_liesBefore.desc).map (fun d => d.parameters.length) = some 3 := by decide +kernel
theorem w_D_reply : Cond.code y_D_reply c_D_reply 6 none ∈ qu_W ∧ Cond.initialized y_D_reply.cls ∈ qu_W := ⟨qm_993, qm_8⟩
theorem p_D_reply : (parseMethodDescriptor y_D_reply.desc).map (fun d => d.parameters.length) = some 5 := by decide +kernel
theorem w_D_answered : Cond.code y_D_answered c_D_answered 4 none ∈ qu_W ∧ Cond.initialized y_D_answered.cls ∈ qu_W := ⟨qm_997, qm_8⟩
theorem p_D_answered : (parseMethodDescriptor y_D_answered.desc).map (fun d => d.parameters.length) = some 3 := by decide +kernel
theorem w_D_called : Cond.code y_D_called c_D_called 5 none ∈ qu_W ∧ Cond.initialized y_D_called.cls ∈ qu_W := ⟨qm_1001, qm_8⟩
theorem p_D_called : (parseMethodDescriptor y_D_called.desc).map (fun d => d.parameters.length) = some 3 := by decide +kernel
theorem w_D_voted : Cond.code y_D_voted c_D_voted 4 none ∈ qu_W ∧ Cond.initialized y_D_voted.cls ∈ qu_W := ⟨qm_1005, qm_8⟩
theorem p_D_voted : (parseMethodDescriptor y_D_voted.desc).map (fun d => d.parameters.length) = some 3 := by decide +kernel
theorem w_D_appended : Cond.code y_D_appended c_D_appended 7 none ∈ qu_W ∧ Cond.initialized y_D_appended.cls ∈ qu_W := ⟨qm_1009, qm_8⟩
theorem p_D_appended : (parseMethodDescriptor y_D_appended.desc).map (fun d => d.parameters.length) = some 2 := by decide +kernel
theorem w_D_result : Cond.code y_D_result c_D_result 6 none ∈ qu_W ∧ Cond.initialized y_D_result.cls ∈ qu_W := ⟨qm_1013, qm_8⟩
theorem p_D_result : (parseMethodDescriptor y_D_result.desc).map (fun d => d.parameters.length) = some 5 := by decide +kernel
theorem w_D_takeEntry : Cond.code y_D_takeEntry c_D_takeEntry 4 (some .boolean) ∈ qu_W ∧ Cond.initialized y_D_takeEntry.cls ∈ qu_W := ⟨qm_1017, qm_8⟩
theorem p_D_takeEntry : (parseMethodDescriptor y_D_takeEntry.desc).map (fun d => d.parameters.length) = some 3 := by decide +kernel
theorem w_D_resulted : Cond.code y_D_resulted c_D_resulted 7 none ∈ qu_W ∧ Cond.initialized y_D_resulted.cls ∈ qu_W := ⟨qm_1021, qm_8⟩
theorem p_D_resulted : (parseMethodDescriptor y_D_resulted.desc).map (fun d => d.parameters.length) = some 2 := by decide +kernel
theorem w_D_installed : Cond.code y_D_installed c_D_installed 5 none ∈ qu_W ∧ Cond.initialized y_D_installed.cls ∈ qu_W := ⟨qm_1025, qm_8⟩
theorem p_D_installed : (parseMethodDescriptor y_D_installed.desc).map (fun d => d.parameters.length) = some 2 := by decide +kernel
theorem w_D_lose : Cond.code y_D_lose c_D_lose 2 (some .boolean) ∈ qu_W ∧ Cond.initialized y_D_lose.cls ∈ qu_W := ⟨qm_1029, qm_8⟩
theorem p_D_lose : (parseMethodDescriptor y_D_lose.desc).map (fun d => d.parameters.length) = some 1 := by decide +kernel
theorem w_D_waiting : Cond.code y_D_waiting c_D_waiting 1 (some .int) ∈ qu_W ∧ Cond.initialized y_D_waiting.cls ∈ qu_W := ⟨qm_1033, qm_8⟩
theorem p_D_waiting : (parseMethodDescriptor y_D_waiting.desc).map (fun d => d.parameters.length) = some 0 := by decide +kernel
theorem w_D_message : Cond.code y_D_message c_D_message 4 (some .int) ∈ qu_W ∧ Cond.initialized y_D_message.cls ∈ qu_W := ⟨qm_1037, qm_8⟩
theorem p_D_message : (parseMethodDescriptor y_D_message.desc).map (fun d => d.parameters.length) = some 2 := by decide +kernel
theorem w_D_state : Cond.code y_D_state c_D_state 3 (some .int) ∈ qu_W ∧ Cond.initialized y_D_state.cls ∈ qu_W := ⟨qm_1041, qm_8⟩
theorem p_D_state : (parseMethodDescriptor y_D_state.desc).map (fun d => d.parameters.length) = some 2 := by decide +kernel
theorem w_D_entry : Cond.code y_D_entry c_D_entry 5 (some .int) ∈ qu_W ∧ Cond.initialized y_D_entry.cls ∈ qu_W := ⟨qm_1045, qm_8⟩
theorem p_D_entry : (parseMethodDescriptor y_D_entry.desc).map (fun d => d.parameters.length) = some 3 := by decide +kernel
theorem w_D_stored : Cond.code y_D_stored c_D_stored 3 (some .int) ∈ qu_W ∧ Cond.initialized y_D_stored.cls ∈ qu_W := ⟨qm_1049, qm_8⟩
theorem p_D_stored : (parseMethodDescriptor y_D_stored.desc).map (fun d => d.parameters.length) = some 2 := by decide +kernel
theorem w_I_bitCount : Cond.code y_I_bitCount c_I_bitCount 1 (some .int) ∈ qu_W ∧ Cond.initialized y_I_bitCount.cls ∈ qu_W := ⟨qm_314, qm_9⟩
theorem p_I_bitCount : (parseMethodDescriptor y_I_bitCount.desc).map (fun d => d.parameters.length) = some 1 := by decide +kernel
theorem w_H_min : Cond.code y_H_min c_H_min 2 (some .int) ∈ qu_W ∧ Cond.initialized y_H_min.cls ∈ qu_W := ⟨qm_496, qm_17⟩
theorem p_H_min : (parseMethodDescriptor y_H_min.desc).map (fun d => d.parameters.length) = some 2 := by decide +kernel
theorem w_H_max : Cond.code y_H_max c_H_max 2 (some .int) ∈ qu_W ∧ Cond.initialized y_H_max.cls ∈ qu_W := ⟨qm_499, qm_17⟩
theorem p_H_max : (parseMethodDescriptor y_H_max.desc).map (fun d => d.parameters.length) = some 2 := by decide +kernel
end
section
/-! the heap as a function of the address: what a method does is said of the whole heap -/
abbrev qh_H : Type := Nat → Option va_E
abbrev qh_G : Type := va_G × (Nat → ClassId)
def qh_R (G : qh_G) (b : Nat) (h : qh_H) (H : Heap) : Prop := b ≤ H.size ∧ ∀ (a : Nat) (x : va_E), h a = some x → b ≤ a ∧ va_at G.1 qu_Cl (a, x) H
def qh_L (ls : Array Slot) (lo : List (Option Value)) : Prop := ls.size = lo.length ∧ lv_wf ls ∧ ∀ (i : Nat) (v : Value), lo[i]? = some (some v) → ls[i]? = some (.val v) ∧ v.category = 1
def qw_K (G : qh_G) (U : State) : Prop := va_K G.1 qu_Cl (qu_Ty G.2) U ∧ (∀ w ∈ qu_Mn, ∃ (a : String) (i : Nat) (x : MethodName) (h : String), w = .methodLinkNest a i x h ∧ va_Nw w U) ∧ ∀ C ∈ qu_Ao, va_AO C U
theorem qw_K.warm {G : qh_G} {s U : State} (hW : s.WarmedH U.vm) (h : qw_K G s) : qw_K G U :=
  ⟨h.1.moved hW.alike, fun w hw => by
    obtain ⟨a, i, x, g, rfl, hz⟩ := h.2.1 w hw
    exact ⟨a, i, x, g, rfl, va_Nw.warmM hW hz⟩, fun C hC => va_AO.moved hW.alike (h.2.2 C hC)⟩
theorem qw_K.same {G : qh_G} {s U : State} (hv : s.vm = U.vm) (h : qw_K G s) : qw_K G U :=
  ⟨h.1.moved (by rw [hv]; exact Vm.Alike.refl _), fun w hw => by
    obtain ⟨a, i, x, g, rfl, hz⟩ := h.2.1 w hw
    exact ⟨a, i, x, g, rfl, va_Nw.same rfl hv hz⟩, fun C hC => va_AO.moved (by rw [hv]; exact Vm.Alike.refl _) (h.2.2 C hC)⟩
theorem qh_R.up {G : qh_G} {b : Nat} {h : qh_H} {H H' : Heap} {a : Nat} {x : va_E} (hR : qh_R G b h H) (ha : b ≤ a) (hsz : H.size ≤ H'.size) (he : va_at G.1 qu_Cl (a, x) H') (oq : ∀ q : Nat, q ≠ a → q < H.size → H'[q]? = H[q]?) : qh_R G b (va_up h a (some x)) H' := by
  refine ⟨Nat.le_trans hR.1 hsz, fun y e hy => ?_⟩
  unfold va_up at hy
  by_cases hya : y = a
  · rw [if_pos hya] at hy
    cases hy
    subst hya
    exact ⟨ha, he⟩
  · rw [if_neg hya] at hy
    obtain ⟨h1, h2⟩ := hR.2 y e hy
    exact ⟨h1, h2.kept (oq y hya h2.lt)⟩
theorem qh_R.fresh {G : qh_G} {b : Nat} {h : qh_H} {H : Heap} (hR : qh_R G b h H) : h H.size = none := by
  cases hx : h H.size with
  | none => rfl
  | some x => exact absurd (hR.2 _ x hx).2.lt (Nat.lt_irrefl _)
/-! locals -/
def qh_al (lo : List (Option Value)) : List (Nat × Value) := (List.range lo.length).filterMap (fun i => (lo[i]?).join.map (fun v => (i, v)))
theorem qh_al_mem {lo : List (Option Value)} {i : Nat} {v : Value} (h : lo[i]? = some (some v)) : (i, v) ∈ qh_al lo :=
  List.mem_filterMap.mpr ⟨i, List.mem_range.mpr (List.getElem?_eq_some_iff.mp h).1, by rw [h]; rfl⟩
theorem qh_al_of {lo : List (Option Value)} {i : Nat} {v : Value} (h : (i, v) ∈ qh_al lo) : lo[i]? = some (some v) := by
  obtain ⟨j, -, hj⟩ := List.mem_filterMap.mp h
  cases hl : lo[j]? with
  | none => rw [hl] at hj; cases hj
  | some x =>
    rw [hl] at hj
    cases x with
    | none => cases hj
    | some y => cases hj; exact hl
theorem qh_L.has {ls : Array Slot} {lo : List (Option Value)} (h : qh_L ls lo) : lv_has ls lo.length (qh_al lo) :=
  ⟨h.1, h.2.1, fun q hq => (h.2.2 q.1 q.2 (qh_al_of hq)).1⟩
theorem qh_L.set {ls ls' : Array Slot} {lo : List (Option Value)} {i : Nat} {v : Value} (h : qh_L ls lo) (hi : i < lo.length) (hc : v.category = 1)
    (h' : lv_has ls' lo.length ((i, v) :: (qh_al lo).filter (fun q => !(q.1 == i) && !(q.1 + 1 == i && q.2.category == 2)))) : qh_L ls' (lo.set i (some v)) := by
  refine ⟨by rw [List.length_set]; exact h'.1, h'.2.1, fun j w hj => ?_⟩
  by_cases hji : j = i
  · subst hji
    rw [List.getElem?_set_self hi] at hj
    cases hj
    exact ⟨h'.2.2 (j, v) List.mem_cons_self, hc⟩
  · rw [List.getElem?_set_ne (Ne.symm hji)] at hj
    have hw := (h.2.2 j w hj).2
    refine ⟨h'.2.2 (j, w) (List.mem_cons_of_mem _ (List.mem_filter.mpr ⟨qh_al_mem hj, ?_⟩)), hw⟩
    simp [hji, hw]
/-! a method's end, its contract, the walk -/
def qx_Q (G : qh_G) (b : Nat) (post : Outcome → qh_H → Prop) (below : List Frame) (s : State) (mc ms : Nat) : State → Prop := fun t =>
  ∃ (o : Outcome) (h' : qh_H) (L : List Loc), t.status = .running ∧ Ended t below o ∧ post o h' ∧ qh_R G b h' t.heap ∧ s.WarmedH t.vm ∧ (s.heap.size ≤ t.heap.size ∧ ∀ q : Nat, q < b → t.heap[q]? = s.heap[q]?) ∧ s.sameButNew ({ t with vm := s.vm } : State) L mc ms ∧ ∀ q ∈ L, b ≤ q.base
def qx_M (l : Launch) (y : MethodName) (ws : List Cond) (rm : Room) (G : qh_G) (b : Nat) (av : List Value) (h : qh_H) (post : Outcome → qh_H → Prop) : Prop :=
  MetFree l y (headSpec ws rm) (fun v U => v = av.toArray ∧ qh_R G b h U.heap ∧ qw_K G U) (fun _ _ _ _ _ => True)
    (fun _ st o t => ∃ (h' : qh_H) (L : List Loc), post o h' ∧ qh_R G b h' t.heap ∧ st.WarmedH t.vm ∧ (st.heap.size ≤ t.heap.size ∧ ∀ q : Nat, q < b → t.heap[q]? = st.heap[q]?) ∧ st.sameButNew ({ t with vm := st.vm } : State) L rm.cells rm.slots ∧ ∀ q ∈ L, b ≤ q.base)
abbrev qw_T : Type := Nat → List (Option Value) → List Value → qh_H → Nat → Nat → Prop
def qw_J (p : Program) (l : Launch) (e : Env) (R : Room) (s : State) (m : MethodId) (args : Array Value) (below : List Frame) (meth : Method) (c : Code) (Q : State → Prop) (G : qh_G) (b : Nat) : qw_T := fun pc lo st h k n =>
  ∀ (H : Heap) (locs : List Loc) (ls : Array Slot), qh_R G b h H → va_S (fun q => b ≤ q) s.heap H locs → qh_L ls lo → W p l e R s m args below meth c H locs k n Q (F0 m pc ls st)
def qw_C (l : Launch) (G : qh_G) (b : Nat) (own nm : String) (cc : ByteArray) (nL : Nat) (ret : Option FieldType) (tb : List (Nat × Nat × Nat × Nat)) (R : Room) (post : Outcome → qh_H → Prop) (X : qw_T) : Prop :=
  ∃ (p : Program) (e : Env) (s : State) (m : MethodId) (args : Array Value) (below : List Frame) (meth : Method) (c : Code),
    X = qw_J p l e R s m args below meth c (qx_Q G b post below s R.cells R.slots) G b ∧ p.tables.exec = Jvm.exec ∧ c.code = cc ∧ c.maxLocals = nL ∧ c.exceptionTable.toList.map (fun h => (h.startPc, h.endPc, h.handlerPc, h.catchType)) = tb ∧ s.vm.findClass own = some m.cls ∧ (∀ w ∈ qu_W, w.before args s = true) ∧ qw_K G s ∧ meth.locks = false ∧ meth.sig.returnType = ret ∧ meth.name = nm ∧ b ≤ s.heap.size
theorem qx_sl : ∀ av : List Value, av.all (fun v => v.category == 1) = true → lg_sl av = av.map Slot.val
  | [], _ => rfl
  | v :: vs, hav => by
    simp only [List.all_cons, Bool.and_eq_true, beq_iff_eq] at hav
    have ih := qx_sl vs hav.2
    unfold lg_sl at ih ⊢
    rw [List.flatMap_cons, ih, if_neg (by rw [hav.1]; decide)]
    rfl
theorem qx_of {l : Launch} {y : MethodName} {ws' : List Cond} {rm : Room} {G : qh_G} {b : Nat} {av : List Value} {h : qh_H} {post : Outcome → qh_H → Prop} {cc : ByteArray} {nL : Nat} {ret : Option FieldType} {lo : List (Option Value)}
    (hy : plainName y.cls = true) (hw : ∀ w ∈ qu_W, w ∈ Cond.code y cc nL ret :: ws') (hav : av.all (fun v => v.category == 1) = true) (hn : av.length ≤ nL) (hlo : lo = av.map some ++ List.replicate (nL - av.length) none)
    (body : ∀ X : qw_T, qw_C l G b y.cls y.name cc nL ret [] rm post X → X 0 lo [] h 0 0) : qx_M l y (Cond.code y cc nL ret :: ws') rm G b av h post := by
  refine MetFree.of_bodyS (code := cc) (maxLocals := nL) (ret := ret) hy ?_ ?_
  · intro args s m hp hnm
    obtain ⟨meth, c, h1, h2, h3, h4, h5, h6, -, -⟩ := Cond.code_spec hnm (atoms_spec (ws := Cond.code y cc nL ret :: ws') hp _ List.mem_cons_self)
    exact ⟨meth, c, h1, h2, h3, h4, h5, h6⟩
  · intro p e s m args below meth c s₁ B hml hP _
    obtain ⟨rfl, hR, hK⟩ := hP
    have hts := atoms_spec (ws := Cond.code y cc nL ret :: ws') B.pre
    have hown : s.vm.findClass y.cls = some m.cls := findClass_of_methodNamed B.named
    have hnm : meth.name = y.name := (name_of_methodNamed B.named B.method).1
    have htb : c.exceptionTable.toList.map (fun h => (h.startPc, h.endPc, h.handlerPc, h.catchType)) = [] := by
      have h9 := B.noHandlers (hts _ List.mem_cons_self)
      rw [Array.isEmpty_iff] at h9
      rw [h9]; rfl
    have hh0 : s₁.heap = s.heap := by rw [B.state]; rfl
    have hsl : lg_sl av = av.map Slot.val := qx_sl av hav
    have hlen : (lg_sl av).length = av.length := by rw [hsl, List.length_map]
    have hl := lv_entry av (n := nL) (by rw [hlen]; exact hn)
    have hE := lg_entry_eq m av nL
    have hL : qh_L ((lg_sl av ++ List.replicate (nL - (lg_sl av).length) Slot.unset).toArray) lo := by
      refine ⟨?_, hl.2.1, fun i v hi => ?_⟩
      · rw [hl.1, hlo, List.length_append, List.length_map, List.length_replicate]; omega
      · rw [hlo] at hi
        by_cases hia : i < av.length
        · rw [List.getElem?_append_left (by rw [List.length_map]; exact hia), List.getElem?_map] at hi
          have hav2 : av[i]? = some v := by
            cases hx : av[i]? with
            | none => rw [hx] at hi; cases hi
            | some z => rw [hx] at hi; cases hi; rfl
          refine ⟨?_, ?_⟩
          · rw [List.getElem?_toArray, hsl, List.getElem?_append_left (by rw [List.length_map]; exact hia), List.getElem?_map, hav2]; rfl
          · have := List.all_eq_true.mp hav v (List.mem_of_getElem? hav2)
            simpa using this
        · rw [List.getElem?_append_right (by rw [List.length_map]; omega), List.getElem?_replicate] at hi
          split at hi <;> cases hi
    have hX := body _ ⟨p, e, s, m, av.toArray, below, meth, c, rfl, B.exec, B.bytes, hml, htb, hown, fun w hw' => hts w (hw w hw'), hK, B.notSynchronized, B.returns, hnm, hR.1⟩
    have hW := hX s.heap [] _ hR va_S.rf hL
    rw [← hE] at hW
    obtain ⟨t, a1, o, h', L, b1, b2, b3, b4, b5, b6, b7, b8⟩ := hW s₁ hh0 (Stand.of_body B)
    exact ⟨t, o, a1, b1, b2, h', L, b3, b4, b5, b6, b7, b8⟩

section QXR
variable {l : Launch} {G : qh_G} {b : Nat} {own nm : String} {cc : ByteArray} {nL : Nat} {ret : Option FieldType} {tb : List (Nat × Nat × Nat × Nat)} {R : Room} {post : Outcome → qh_H → Prop} {X : qw_T} {pc : Nat} {lo : List (Option Value)} {st : List Value} {h : qh_H} {k n : Nat}
theorem qx_iconst (C : qw_C l G b own nm cc nL ret tb R post X) {i : Int} {v : Int32} (hd : decode cc pc = .ok (.iconst i, 1)) (hv : Int32.ofInt i = v) (kk : X (pc + 1) lo (.int v :: st) h k n) : X pc lo st h k n := by
  obtain ⟨p, e, s, m, args, below, meth, c, rfl, hx, hb, hml, htb, hown, hts, hK, hlk, hr, hnm, hbs⟩ := C
  intro H locs ls hR hS hL
  exact lv_iconst hx hb hd hv (kk H locs ls hR hS hL)
theorem qx_bipush (C : qw_C l G b own nm cc nL ret tb R post X) {i : Int} {v : Int32} (hd : decode cc pc = .ok (.bipush i, 2)) (hv : (Int8.ofInt i).toInt32 = v) (kk : X (pc + 2) lo (.int v :: st) h k n) : X pc lo st h k n := by
  obtain ⟨p, e, s, m, args, below, meth, c, rfl, hx, hb, hml, htb, hown, hts, hK, hlk, hr, hnm, hbs⟩ := C
  intro H locs ls hR hS hL
  exact lv_bipush hx hb hd hv (kk H locs ls hR hS hL)
theorem qx_sipush (C : qw_C l G b own nm cc nL ret tb R post X) {i : Int} {v : Int32} (hd : decode cc pc = .ok (.sipush i, 3)) (hv : (Int16.ofInt i).toInt32 = v) (kk : X (pc + 3) lo (.int v :: st) h k n) : X pc lo st h k n := by
  obtain ⟨p, e, s, m, args, below, meth, c, rfl, hx, hb, hml, htb, hown, hts, hK, hlk, hr, hnm, hbs⟩ := C
  intro H locs ls hR hS hL
  exact lv_sipush hx hb hd hv (kk H locs ls hR hS hL)
theorem qx_null (C : qw_C l G b own nm cc nL ret tb R post X) (hd : decode cc pc = .ok (.aconst_null, 1)) (kk : X (pc + 1) lo (.null :: st) h k n) : X pc lo st h k n := by
  obtain ⟨p, e, s, m, args, below, meth, c, rfl, hx, hb, hml, htb, hown, hts, hK, hlk, hr, hnm, hbs⟩ := C
  intro H locs ls hR hS hL
  exact lv_null hx hb hd (kk H locs ls hR hS hL)
theorem qx_iload_n (C : qw_C l G b own nm cc nL ret tb R post X) {f : Fin 4} {i : Nat} {x : Int32} (hd : decode cc pc = .ok (.iload_n f, 1)) (hi : (f : Nat) = i) (hl : lo[i]? = some (some (.int x))) (kk : X (pc + 1) lo (.int x :: st) h k n) : X pc lo st h k n := by
  obtain ⟨p, e, s, m, args, below, meth, c, rfl, hx, hb, hml, htb, hown, hts, hK, hlk, hr, hnm, hbs⟩ := C
  intro H locs ls hR hS hL
  exact lv_iload_n hx hb hd hi (hL.2.2 _ _ hl).1 (kk H locs ls hR hS hL)
theorem qx_iload (C : qw_C l G b own nm cc nL ret tb R post X) {i : Nat} {x : Int32} (hd : decode cc pc = .ok (.iload i, 2)) (hl : lo[i]? = some (some (.int x))) (kk : X (pc + 2) lo (.int x :: st) h k n) : X pc lo st h k n := by
  obtain ⟨p, e, s, m, args, below, meth, c, rfl, hx, hb, hml, htb, hown, hts, hK, hlk, hr, hnm, hbs⟩ := C
  intro H locs ls hR hS hL
  exact lv_iload hx hb hd (hL.2.2 _ _ hl).1 (kk H locs ls hR hS hL)
theorem qx_aload_n (C : qw_C l G b own nm cc nL ret tb R post X) {f : Fin 4} {i : Nat} {x : Nat} (hd : decode cc pc = .ok (.aload_n f, 1)) (hi : (f : Nat) = i) (hl : lo[i]? = some (some (.ref x))) (kk : X (pc + 1) lo (.ref x :: st) h k n) : X pc lo st h k n := by
  obtain ⟨p, e, s, m, args, below, meth, c, rfl, hx, hb, hml, htb, hown, hts, hK, hlk, hr, hnm, hbs⟩ := C
  intro H locs ls hR hS hL
  exact lv_aload_n hx hb hd hi (hL.2.2 _ _ hl).1 (kk H locs ls hR hS hL)
theorem qx_aload (C : qw_C l G b own nm cc nL ret tb R post X) {i : Nat} {x : Nat} (hd : decode cc pc = .ok (.aload i, 2)) (hl : lo[i]? = some (some (.ref x))) (kk : X (pc + 2) lo (.ref x :: st) h k n) : X pc lo st h k n := by
  obtain ⟨p, e, s, m, args, below, meth, c, rfl, hx, hb, hml, htb, hown, hts, hK, hlk, hr, hnm, hbs⟩ := C
  intro H locs ls hR hS hL
  exact lv_aload hx hb hd (hL.2.2 _ _ hl).1 (kk H locs ls hR hS hL)
theorem qx_aload_nN (C : qw_C l G b own nm cc nL ret tb R post X) {f : Fin 4} {i : Nat} (hd : decode cc pc = .ok (.aload_n f, 1)) (hi : (f : Nat) = i) (hl : lo[i]? = some (some .null)) (kk : X (pc + 1) lo (.null :: st) h k n) : X pc lo st h k n := by
  obtain ⟨p, e, s, m, args, below, meth, c, rfl, hx, hb, hml, htb, hown, hts, hK, hlk, hr, hnm, hbs⟩ := C
  intro H locs ls hR hS hL
  exact lv_aload_nN hx hb hd hi (hL.2.2 _ _ hl).1 (kk H locs ls hR hS hL)
theorem qx_aloadN (C : qw_C l G b own nm cc nL ret tb R post X) {i : Nat} (hd : decode cc pc = .ok (.aload i, 2)) (hl : lo[i]? = some (some .null)) (kk : X (pc + 2) lo (.null :: st) h k n) : X pc lo st h k n := by
  obtain ⟨p, e, s, m, args, below, meth, c, rfl, hx, hb, hml, htb, hown, hts, hK, hlk, hr, hnm, hbs⟩ := C
  intro H locs ls hR hS hL
  exact lv_aloadN hx hb hd (hL.2.2 _ _ hl).1 (kk H locs ls hR hS hL)
theorem qx_istore_n (C : qw_C l G b own nm cc nL ret tb R post X) {f : Fin 4} {i : Nat} {x : Int32} (hd : decode cc pc = .ok (.istore_n f, 1)) (hi : (f : Nat) = i) (hn : i < lo.length) (kk : X (pc + 1) (lo.set i (some (.int x))) st h k n) : X pc lo (.int x :: st) h k n := by
  obtain ⟨p, e, s, m, args, below, meth, c, rfl, hx, hb, hml, htb, hown, hts, hK, hlk, hr, hnm, hbs⟩ := C
  intro H locs ls hR hS hL
  exact lv_istore_n hx hb hd hi hL.has hn rfl (fun ls2 h2 => kk H locs ls2 hR hS (hL.set hn rfl h2))
theorem qx_istore (C : qw_C l G b own nm cc nL ret tb R post X) {i : Nat} {x : Int32} (hd : decode cc pc = .ok (.istore i, 2)) (hn : i < lo.length) (kk : X (pc + 2) (lo.set i (some (.int x))) st h k n) : X pc lo (.int x :: st) h k n := by
  obtain ⟨p, e, s, m, args, below, meth, c, rfl, hx, hb, hml, htb, hown, hts, hK, hlk, hr, hnm, hbs⟩ := C
  intro H locs ls hR hS hL
  exact lv_istore hx hb hd hL.has hn rfl (fun ls2 h2 => kk H locs ls2 hR hS (hL.set hn rfl h2))
theorem qx_astore_n (C : qw_C l G b own nm cc nL ret tb R post X) {f : Fin 4} {i : Nat} {x : Nat} (hd : decode cc pc = .ok (.astore_n f, 1)) (hi : (f : Nat) = i) (hn : i < lo.length) (kk : X (pc + 1) (lo.set i (some (.ref x))) st h k n) : X pc lo (.ref x :: st) h k n := by
  obtain ⟨p, e, s, m, args, below, meth, c, rfl, hx, hb, hml, htb, hown, hts, hK, hlk, hr, hnm, hbs⟩ := C
  intro H locs ls hR hS hL
  exact lv_astore_n hx hb hd hi hL.has hn rfl (fun ls2 h2 => kk H locs ls2 hR hS (hL.set hn rfl h2))
theorem qx_astore (C : qw_C l G b own nm cc nL ret tb R post X) {i : Nat} {x : Nat} (hd : decode cc pc = .ok (.astore i, 2)) (hn : i < lo.length) (kk : X (pc + 2) (lo.set i (some (.ref x))) st h k n) : X pc lo (.ref x :: st) h k n := by
  obtain ⟨p, e, s, m, args, below, meth, c, rfl, hx, hb, hml, htb, hown, hts, hK, hlk, hr, hnm, hbs⟩ := C
  intro H locs ls hR hS hL
  exact lv_astore hx hb hd hL.has hn rfl (fun ls2 h2 => kk H locs ls2 hR hS (hL.set hn rfl h2))
theorem qx_astore_nN (C : qw_C l G b own nm cc nL ret tb R post X) {f : Fin 4} {i : Nat} (hd : decode cc pc = .ok (.astore_n f, 1)) (hi : (f : Nat) = i) (hn : i < lo.length) (kk : X (pc + 1) (lo.set i (some (.null))) st h k n) : X pc lo (.null :: st) h k n := by
  obtain ⟨p, e, s, m, args, below, meth, c, rfl, hx, hb, hml, htb, hown, hts, hK, hlk, hr, hnm, hbs⟩ := C
  intro H locs ls hR hS hL
  exact lv_astore_nN hx hb hd hi hL.has hn rfl (fun ls2 h2 => kk H locs ls2 hR hS (hL.set hn rfl h2))
theorem qx_astoreN (C : qw_C l G b own nm cc nL ret tb R post X) {i : Nat} (hd : decode cc pc = .ok (.astore i, 2)) (hn : i < lo.length) (kk : X (pc + 2) (lo.set i (some (.null))) st h k n) : X pc lo (.null :: st) h k n := by
  obtain ⟨p, e, s, m, args, below, meth, c, rfl, hx, hb, hml, htb, hown, hts, hK, hlk, hr, hnm, hbs⟩ := C
  intro H locs ls hR hS hL
  exact lv_astoreN hx hb hd hL.has hn rfl (fun ls2 h2 => kk H locs ls2 hR hS (hL.set hn rfl h2))
theorem qx_iadd (C : qw_C l G b own nm cc nL ret tb R post X) {x y : Int32} (hd : decode cc pc = .ok (.iadd, 1)) (kk : X (pc + 1) lo (.int (x + y) :: st) h k n) : X pc lo (.int y :: .int x :: st) h k n := by
  obtain ⟨p, e, s, m, args, below, meth, c, rfl, hx, hb, hml, htb, hown, hts, hK, hlk, hr, hnm, hbs⟩ := C
  intro H locs ls hR hS hL
  exact lv_iadd hx hb hd (kk H locs ls hR hS hL)
theorem qx_isub (C : qw_C l G b own nm cc nL ret tb R post X) {x y : Int32} (hd : decode cc pc = .ok (.isub, 1)) (kk : X (pc + 1) lo (.int (x - y) :: st) h k n) : X pc lo (.int y :: .int x :: st) h k n := by
  obtain ⟨p, e, s, m, args, below, meth, c, rfl, hx, hb, hml, htb, hown, hts, hK, hlk, hr, hnm, hbs⟩ := C
  intro H locs ls hR hS hL
  exact lv_isub hx hb hd (kk H locs ls hR hS hL)
theorem qx_imul (C : qw_C l G b own nm cc nL ret tb R post X) {x y : Int32} (hd : decode cc pc = .ok (.imul, 1)) (kk : X (pc + 1) lo (.int (x * y) :: st) h k n) : X pc lo (.int y :: .int x :: st) h k n := by
  obtain ⟨p, e, s, m, args, below, meth, c, rfl, hx, hb, hml, htb, hown, hts, hK, hlk, hr, hnm, hbs⟩ := C
  intro H locs ls hR hS hL
  exact lv_imul hx hb hd (kk H locs ls hR hS hL)
theorem qx_iand (C : qw_C l G b own nm cc nL ret tb R post X) {x y : Int32} (hd : decode cc pc = .ok (.iand, 1)) (kk : X (pc + 1) lo (.int (x &&& y) :: st) h k n) : X pc lo (.int y :: .int x :: st) h k n := by
  obtain ⟨p, e, s, m, args, below, meth, c, rfl, hx, hb, hml, htb, hown, hts, hK, hlk, hr, hnm, hbs⟩ := C
  intro H locs ls hR hS hL
  exact lv_iand hx hb hd (kk H locs ls hR hS hL)
theorem qx_ior (C : qw_C l G b own nm cc nL ret tb R post X) {x y : Int32} (hd : decode cc pc = .ok (.ior, 1)) (kk : X (pc + 1) lo (.int (x ||| y) :: st) h k n) : X pc lo (.int y :: .int x :: st) h k n := by
  obtain ⟨p, e, s, m, args, below, meth, c, rfl, hx, hb, hml, htb, hown, hts, hK, hlk, hr, hnm, hbs⟩ := C
  intro H locs ls hR hS hL
  exact lv_ior hx hb hd (kk H locs ls hR hS hL)
theorem qx_ixor (C : qw_C l G b own nm cc nL ret tb R post X) {x y : Int32} (hd : decode cc pc = .ok (.ixor, 1)) (kk : X (pc + 1) lo (.int (x ^^^ y) :: st) h k n) : X pc lo (.int y :: .int x :: st) h k n := by
  obtain ⟨p, e, s, m, args, below, meth, c, rfl, hx, hb, hml, htb, hown, hts, hK, hlk, hr, hnm, hbs⟩ := C
  intro H locs ls hR hS hL
  exact lv_ixor hx hb hd (kk H locs ls hR hS hL)
theorem qx_ishl (C : qw_C l G b own nm cc nL ret tb R post X) {x y : Int32} (hd : decode cc pc = .ok (.ishl, 1)) (kk : X (pc + 1) lo (.int (x <<< (y &&& 31)) :: st) h k n) : X pc lo (.int y :: .int x :: st) h k n := by
  obtain ⟨p, e, s, m, args, below, meth, c, rfl, hx, hb, hml, htb, hown, hts, hK, hlk, hr, hnm, hbs⟩ := C
  intro H locs ls hR hS hL
  exact lv_ishl hx hb hd (kk H locs ls hR hS hL)
theorem qx_ishr (C : qw_C l G b own nm cc nL ret tb R post X) {x y : Int32} (hd : decode cc pc = .ok (.ishr, 1)) (kk : X (pc + 1) lo (.int (x >>> (y &&& 31)) :: st) h k n) : X pc lo (.int y :: .int x :: st) h k n := by
  obtain ⟨p, e, s, m, args, below, meth, c, rfl, hx, hb, hml, htb, hown, hts, hK, hlk, hr, hnm, hbs⟩ := C
  intro H locs ls hR hS hL
  exact lv_ishr hx hb hd (kk H locs ls hR hS hL)
theorem qx_ineg (C : qw_C l G b own nm cc nL ret tb R post X) {x : Int32} (hd : decode cc pc = .ok (.ineg, 1)) (kk : X (pc + 1) lo (.int (-x) :: st) h k n) : X pc lo (.int x :: st) h k n := by
  obtain ⟨p, e, s, m, args, below, meth, c, rfl, hx, hb, hml, htb, hown, hts, hK, hlk, hr, hnm, hbs⟩ := C
  intro H locs ls hR hS hL
  exact lv_ineg hx hb hd (kk H locs ls hR hS hL)
theorem qx_dup (C : qw_C l G b own nm cc nL ret tb R post X) {v : Value} (hd : decode cc pc = .ok (.dup, 1)) (hv : v.category = 1) (kk : X (pc + 1) lo (v :: v :: st) h k n) : X pc lo (v :: st) h k n := by
  obtain ⟨p, e, s, m, args, below, meth, c, rfl, hx, hb, hml, htb, hown, hts, hK, hlk, hr, hnm, hbs⟩ := C
  intro H locs ls hR hS hL
  exact lv_dup hx hb hd hv (kk H locs ls hR hS hL)
theorem qx_pop (C : qw_C l G b own nm cc nL ret tb R post X) {v : Value} (hd : decode cc pc = .ok (.pop, 1)) (hv : v.category = 1) (kk : X (pc + 1) lo st h k n) : X pc lo (v :: st) h k n := by
  obtain ⟨p, e, s, m, args, below, meth, c, rfl, hx, hb, hml, htb, hown, hts, hK, hlk, hr, hnm, hbs⟩ := C
  intro H locs ls hR hS hL
  exact lv_pop hx hb hd hv (kk H locs ls hR hS hL)
theorem qx_dup_x1 (C : qw_C l G b own nm cc nL ret tb R post X) {v u : Value} (hd : decode cc pc = .ok (.dup_x1, 1)) (hv : v.category = 1) (hu : u.category = 1) (kk : X (pc + 1) lo (v :: u :: v :: st) h k n) : X pc lo (v :: u :: st) h k n := by
  obtain ⟨p, e, s, m, args, below, meth, c, rfl, hx, hb, hml, htb, hown, hts, hK, hlk, hr, hnm, hbs⟩ := C
  intro H locs ls hR hS hL
  exact lv_dup_x1 hx hb hd hv hu (kk H locs ls hR hS hL)
theorem qx_dup_x2 (C : qw_C l G b own nm cc nL ret tb R post X) {v u z : Value} (hd : decode cc pc = .ok (.dup_x2, 1)) (hv : v.category = 1) (hu : u.category = 1) (hz : z.category = 1) (kk : X (pc + 1) lo (v :: u :: z :: v :: st) h k n) : X pc lo (v :: u :: z :: st) h k n := by
  obtain ⟨p, e, s, m, args, below, meth, c, rfl, hx, hb, hml, htb, hown, hts, hK, hlk, hr, hnm, hbs⟩ := C
  intro H locs ls hR hS hL
  exact lv_dup_x2 hx hb hd hv hu hz (kk H locs ls hR hS hL)
theorem qx_dup2 (C : qw_C l G b own nm cc nL ret tb R post X) {v u : Value} (hd : decode cc pc = .ok (.dup2, 1)) (hv : v.category = 1) (hu : u.category = 1) (kk : X (pc + 1) lo (v :: u :: v :: u :: st) h k n) : X pc lo (v :: u :: st) h k n := by
  obtain ⟨p, e, s, m, args, below, meth, c, rfl, hx, hb, hml, htb, hown, hts, hK, hlk, hr, hnm, hbs⟩ := C
  intro H locs ls hR hS hL
  exact lv_dup2_11 hx hb hd hv hu (kk H locs ls hR hS hL)
theorem qx_i2l (C : qw_C l G b own nm cc nL ret tb R post X) {x : Int32} (hd : decode cc pc = .ok (.i2l, 1)) (kk : X (pc + 1) lo (.long x.toInt64 :: st) h k n) : X pc lo (.int x :: st) h k n := by
  obtain ⟨p, e, s, m, args, below, meth, c, rfl, hx, hb, hml, htb, hown, hts, hK, hlk, hr, hnm, hbs⟩ := C
  intro H locs ls hR hS hL
  exact lv_i2l hx hb hd rfl (kk H locs ls hR hS hL)
theorem qx_lcmp (C : qw_C l G b own nm cc nL ret tb R post X) {x y : Int64} (hd : decode cc pc = .ok (.lcmp, 1)) (kk : X (pc + 1) lo (.int (lg_cmp x y) :: st) h k n) : X pc lo (.long y :: .long x :: st) h k n := by
  obtain ⟨p, e, s, m, args, below, meth, c, rfl, hx, hb, hml, htb, hown, hts, hK, hlk, hr, hnm, hbs⟩ := C
  intro H locs ls hR hS hL
  exact W.lcmp hx hb hd (kk H locs ls hR hS hL)
theorem qx_goto (C : qw_C l G b own nm cc nL ret tb R post X) {off : Int} {tgt : Nat} (hd : decode cc pc = .ok (.goto off, 3)) (ht : (pc : Int) + off = (tgt : Int)) (kk : X tgt lo st h k n) : X pc lo st h k n := by
  obtain ⟨p, e, s, m, args, below, meth, c, rfl, hx, hb, hml, htb, hown, hts, hK, hlk, hr, hnm, hbs⟩ := C
  intro H locs ls hR hS hL
  exact lv_goto hx hb hd ht (kk H locs ls hR hS hL)
theorem qx_if_eq (C : qw_C l G b own nm cc nL ret tb R post X) {x : Int32} {off : Int} {tgt : Nat} (hd : decode cc pc = .ok (.ifCond .eq off, 3)) (ht : (pc : Int) + off = (tgt : Int)) (kt : x = 0 → X tgt lo st h k n) (kf : ¬ x = 0 → X (pc + 3) lo st h k n) : X pc lo (.int x :: st) h k n := by
  obtain ⟨p, e, s, m, args, below, meth, c, rfl, hx, hb, hml, htb, hown, hts, hK, hlk, hr, hnm, hbs⟩ := C
  intro H locs ls hR hS hL
  exact lv_if_eq hx hb hd ht (fun q => kt q H locs ls hR hS hL) (fun q => kf q H locs ls hR hS hL)
theorem qx_if_ne (C : qw_C l G b own nm cc nL ret tb R post X) {x : Int32} {off : Int} {tgt : Nat} (hd : decode cc pc = .ok (.ifCond .ne off, 3)) (ht : (pc : Int) + off = (tgt : Int)) (kt : ¬ x = 0 → X tgt lo st h k n) (kf : x = 0 → X (pc + 3) lo st h k n) : X pc lo (.int x :: st) h k n := by
  obtain ⟨p, e, s, m, args, below, meth, c, rfl, hx, hb, hml, htb, hown, hts, hK, hlk, hr, hnm, hbs⟩ := C
  intro H locs ls hR hS hL
  exact lv_if_ne hx hb hd ht (fun q => kt q H locs ls hR hS hL) (fun q => kf q H locs ls hR hS hL)
theorem qx_if_lt (C : qw_C l G b own nm cc nL ret tb R post X) {x : Int32} {off : Int} {tgt : Nat} (hd : decode cc pc = .ok (.ifCond .lt off, 3)) (ht : (pc : Int) + off = (tgt : Int)) (kt : x < 0 → X tgt lo st h k n) (kf : ¬ x < 0 → X (pc + 3) lo st h k n) : X pc lo (.int x :: st) h k n := by
  obtain ⟨p, e, s, m, args, below, meth, c, rfl, hx, hb, hml, htb, hown, hts, hK, hlk, hr, hnm, hbs⟩ := C
  intro H locs ls hR hS hL
  exact lv_if_lt hx hb hd ht (fun q => kt q H locs ls hR hS hL) (fun q => kf q H locs ls hR hS hL)
theorem qx_if_ge (C : qw_C l G b own nm cc nL ret tb R post X) {x : Int32} {off : Int} {tgt : Nat} (hd : decode cc pc = .ok (.ifCond .ge off, 3)) (ht : (pc : Int) + off = (tgt : Int)) (kt : 0 ≤ x → X tgt lo st h k n) (kf : ¬ 0 ≤ x → X (pc + 3) lo st h k n) : X pc lo (.int x :: st) h k n := by
  obtain ⟨p, e, s, m, args, below, meth, c, rfl, hx, hb, hml, htb, hown, hts, hK, hlk, hr, hnm, hbs⟩ := C
  intro H locs ls hR hS hL
  exact lv_if_ge hx hb hd ht (fun q => kt q H locs ls hR hS hL) (fun q => kf q H locs ls hR hS hL)
theorem qx_if_gt (C : qw_C l G b own nm cc nL ret tb R post X) {x : Int32} {off : Int} {tgt : Nat} (hd : decode cc pc = .ok (.ifCond .gt off, 3)) (ht : (pc : Int) + off = (tgt : Int)) (kt : 0 < x → X tgt lo st h k n) (kf : ¬ 0 < x → X (pc + 3) lo st h k n) : X pc lo (.int x :: st) h k n := by
  obtain ⟨p, e, s, m, args, below, meth, c, rfl, hx, hb, hml, htb, hown, hts, hK, hlk, hr, hnm, hbs⟩ := C
  intro H locs ls hR hS hL
  exact lv_if_gt hx hb hd ht (fun q => kt q H locs ls hR hS hL) (fun q => kf q H locs ls hR hS hL)
theorem qx_if_le (C : qw_C l G b own nm cc nL ret tb R post X) {x : Int32} {off : Int} {tgt : Nat} (hd : decode cc pc = .ok (.ifCond .le off, 3)) (ht : (pc : Int) + off = (tgt : Int)) (kt : x ≤ 0 → X tgt lo st h k n) (kf : ¬ x ≤ 0 → X (pc + 3) lo st h k n) : X pc lo (.int x :: st) h k n := by
  obtain ⟨p, e, s, m, args, below, meth, c, rfl, hx, hb, hml, htb, hown, hts, hK, hlk, hr, hnm, hbs⟩ := C
  intro H locs ls hR hS hL
  exact lv_if_le hx hb hd ht (fun q => kt q H locs ls hR hS hL) (fun q => kf q H locs ls hR hS hL)
theorem qx_icmp_eq (C : qw_C l G b own nm cc nL ret tb R post X) {x y : Int32} {off : Int} {tgt : Nat} (hd : decode cc pc = .ok (.if_icmp .eq off, 3)) (ht : (pc : Int) + off = (tgt : Int)) (kt : x = y → X tgt lo st h k n) (kf : ¬ x = y → X (pc + 3) lo st h k n) : X pc lo (.int y :: .int x :: st) h k n := by
  obtain ⟨p, e, s, m, args, below, meth, c, rfl, hx, hb, hml, htb, hown, hts, hK, hlk, hr, hnm, hbs⟩ := C
  intro H locs ls hR hS hL
  exact lv_icmp_eq hx hb hd ht (fun q => kt q H locs ls hR hS hL) (fun q => kf q H locs ls hR hS hL)
theorem qx_icmp_ne (C : qw_C l G b own nm cc nL ret tb R post X) {x y : Int32} {off : Int} {tgt : Nat} (hd : decode cc pc = .ok (.if_icmp .ne off, 3)) (ht : (pc : Int) + off = (tgt : Int)) (kt : ¬ x = y → X tgt lo st h k n) (kf : x = y → X (pc + 3) lo st h k n) : X pc lo (.int y :: .int x :: st) h k n := by
  obtain ⟨p, e, s, m, args, below, meth, c, rfl, hx, hb, hml, htb, hown, hts, hK, hlk, hr, hnm, hbs⟩ := C
  intro H locs ls hR hS hL
  exact lv_icmp_ne hx hb hd ht (fun q => kt q H locs ls hR hS hL) (fun q => kf q H locs ls hR hS hL)
theorem qx_icmp_lt (C : qw_C l G b own nm cc nL ret tb R post X) {x y : Int32} {off : Int} {tgt : Nat} (hd : decode cc pc = .ok (.if_icmp .lt off, 3)) (ht : (pc : Int) + off = (tgt : Int)) (kt : x < y → X tgt lo st h k n) (kf : ¬ x < y → X (pc + 3) lo st h k n) : X pc lo (.int y :: .int x :: st) h k n := by
  obtain ⟨p, e, s, m, args, below, meth, c, rfl, hx, hb, hml, htb, hown, hts, hK, hlk, hr, hnm, hbs⟩ := C
  intro H locs ls hR hS hL
  exact lv_icmp_lt hx hb hd ht (fun q => kt q H locs ls hR hS hL) (fun q => kf q H locs ls hR hS hL)
theorem qx_icmp_ge (C : qw_C l G b own nm cc nL ret tb R post X) {x y : Int32} {off : Int} {tgt : Nat} (hd : decode cc pc = .ok (.if_icmp .ge off, 3)) (ht : (pc : Int) + off = (tgt : Int)) (kt : y ≤ x → X tgt lo st h k n) (kf : ¬ y ≤ x → X (pc + 3) lo st h k n) : X pc lo (.int y :: .int x :: st) h k n := by
  obtain ⟨p, e, s, m, args, below, meth, c, rfl, hx, hb, hml, htb, hown, hts, hK, hlk, hr, hnm, hbs⟩ := C
  intro H locs ls hR hS hL
  exact lv_icmp_ge hx hb hd ht (fun q => kt q H locs ls hR hS hL) (fun q => kf q H locs ls hR hS hL)
theorem qx_icmp_gt (C : qw_C l G b own nm cc nL ret tb R post X) {x y : Int32} {off : Int} {tgt : Nat} (hd : decode cc pc = .ok (.if_icmp .gt off, 3)) (ht : (pc : Int) + off = (tgt : Int)) (kt : y < x → X tgt lo st h k n) (kf : ¬ y < x → X (pc + 3) lo st h k n) : X pc lo (.int y :: .int x :: st) h k n := by
  obtain ⟨p, e, s, m, args, below, meth, c, rfl, hx, hb, hml, htb, hown, hts, hK, hlk, hr, hnm, hbs⟩ := C
  intro H locs ls hR hS hL
  exact lv_icmp_gt hx hb hd ht (fun q => kt q H locs ls hR hS hL) (fun q => kf q H locs ls hR hS hL)
theorem qx_icmp_le (C : qw_C l G b own nm cc nL ret tb R post X) {x y : Int32} {off : Int} {tgt : Nat} (hd : decode cc pc = .ok (.if_icmp .le off, 3)) (ht : (pc : Int) + off = (tgt : Int)) (kt : x ≤ y → X tgt lo st h k n) (kf : ¬ x ≤ y → X (pc + 3) lo st h k n) : X pc lo (.int y :: .int x :: st) h k n := by
  obtain ⟨p, e, s, m, args, below, meth, c, rfl, hx, hb, hml, htb, hown, hts, hK, hlk, hr, hnm, hbs⟩ := C
  intro H locs ls hR hS hL
  exact lv_icmp_le hx hb hd ht (fun q => kt q H locs ls hR hS hL) (fun q => kf q H locs ls hR hS hL)
theorem qx_ifnonnull (C : qw_C l G b own nm cc nL ret tb R post X) {x : Nat} {off : Int} {tgt : Nat} (hd : decode cc pc = .ok (.ifnonnull off, 3)) (ht : (pc : Int) + off = (tgt : Int)) (kk : X tgt lo st h k n) : X pc lo (.ref x :: st) h k n := by
  obtain ⟨p, e, s, m, args, below, meth, c, rfl, hx, hb, hml, htb, hown, hts, hK, hlk, hr, hnm, hbs⟩ := C
  intro H locs ls hR hS hL
  exact lv_ifnonnull hx hb hd ht (kk H locs ls hR hS hL)
theorem qx_ifnonnullN (C : qw_C l G b own nm cc nL ret tb R post X) {off : Int} (hd : decode cc pc = .ok (.ifnonnull off, 3)) (kk : X (pc + 3) lo st h k n) : X pc lo (.null :: st) h k n := by
  obtain ⟨p, e, s, m, args, below, meth, c, rfl, hx, hb, hml, htb, hown, hts, hK, hlk, hr, hnm, hbs⟩ := C
  intro H locs ls hR hS hL
  exact lv_ifnonnullN hx hb hd (kk H locs ls hR hS hL)
theorem qx_ifnull (C : qw_C l G b own nm cc nL ret tb R post X) {x : Nat} {off : Int} (hd : decode cc pc = .ok (.ifnull off, 3)) (kk : X (pc + 3) lo st h k n) : X pc lo (.ref x :: st) h k n := by
  obtain ⟨p, e, s, m, args, below, meth, c, rfl, hx, hb, hml, htb, hown, hts, hK, hlk, hr, hnm, hbs⟩ := C
  intro H locs ls hR hS hL
  exact lv_ifnull hx hb hd (kk H locs ls hR hS hL)
theorem qx_ifnullN (C : qw_C l G b own nm cc nL ret tb R post X) {off : Int} {tgt : Nat} (hd : decode cc pc = .ok (.ifnull off, 3)) (ht : (pc : Int) + off = (tgt : Int)) (kk : X tgt lo st h k n) : X pc lo (.null :: st) h k n := by
  obtain ⟨p, e, s, m, args, below, meth, c, rfl, hx, hb, hml, htb, hown, hts, hK, hlk, hr, hnm, hbs⟩ := C
  intro H locs ls hR hS hL
  exact lv_ifnullN hx hb hd ht (kk H locs ls hR hS hL)
theorem qx_tabIn (C : qw_C l G b own nm cc nL ret tb R post X) {x : Int32} {dflt lw hi : Int} {offs : Array Int} {len : Nat} {off : Int} {tgt : Nat} (hd : decode cc pc = .ok (.tableswitch dflt lw hi offs, len)) (h1 : ¬ x.toInt < lw) (h2 : ¬ hi < x.toInt) (ho : offs[(x.toInt - lw).toNat]? = some off) (ht : (pc : Int) + off = (tgt : Int)) (kk : X tgt lo st h k n) : X pc lo (.int x :: st) h k n := by
  obtain ⟨p, e, s, m, args, below, meth, c, rfl, hx, hb, hml, htb, hown, hts, hK, hlk, hr, hnm, hbs⟩ := C
  intro H locs ls hR hS hL
  exact lv_tableIn hx hb hd h1 h2 ho ht (kk H locs ls hR hS hL)
theorem qx_tabOut (C : qw_C l G b own nm cc nL ret tb R post X) {x : Int32} {dflt lw hi : Int} {offs : Array Int} {len : Nat} {tgt : Nat} (hd : decode cc pc = .ok (.tableswitch dflt lw hi offs, len)) (h1 : x.toInt < lw ∨ hi < x.toInt) (ht : (pc : Int) + dflt = (tgt : Int)) (kk : X tgt lo st h k n) : X pc lo (.int x :: st) h k n := by
  obtain ⟨p, e, s, m, args, below, meth, c, rfl, hx, hb, hml, htb, hown, hts, hK, hlk, hr, hnm, hbs⟩ := C
  intro H locs ls hR hS hL
  exact lv_tableOut hx hb hd h1 ht (kk H locs ls hR hS hL)
theorem qx_iinc (C : qw_C l G b own nm cc nL ret tb R post X) {i : Nat} {d : Int} {x : Int32} (hd : decode cc pc = .ok (.iinc i d, 3)) (hl : lo[i]? = some (some (.int x))) (kk : X (pc + 3) (lo.set i (some (.int (x + Int32.ofInt d)))) st h k n) : X pc lo st h k n := by
  obtain ⟨p, e, s, m, args, below, meth, c, rfl, hx, hb, hml, htb, hown, hts, hK, hlk, hr, hnm, hbs⟩ := C
  intro H locs ls hR hS hL
  have hn : i < lo.length := (List.getElem?_eq_some_iff.mp hl).1
  obtain ⟨j, hj⟩ := List.getElem?_of_mem (qh_al_mem hl)
  exact lv_iinc hx hb hd hL.has hj rfl hn rfl (fun ls2 h2 => kk H locs ls2 hR hS (hL.set hn rfl h2))
theorem qh_R.one {G : qh_G} {b : Nat} {h : qh_H} {H : Heap} {a : Nat} {x : va_E} (hR : qh_R G b h H) (ha : h a = some x) : va_P G.1 qu_Cl [(a, x)] H := by
  intro j q hj
  cases j with
  | zero => cases hj; exact (hR.2 a x ha).2
  | succ j => cases hj
def qx_FL (own : String) (index ci j : Nat) : Prop := ∃ (C : String) (T : u_T) (N : Nat), qu_Cl[ci]? = some (C, T, N) ∧ j < N ∧ (∀ w ∈ u_ws C T N, w ∈ qu_W) ∧ Cond.fieldLink own index (T j).1 (T j).2.1 (T j).2.2.1 ∈ qu_W
def qx_FP (own : String) (index ci j : Nat) (ty : FieldType) (fin : Bool) : Prop := ∃ (C : String) (T : u_T) (N : Nat) (ty0 : Nat → FieldType), qu_Cl[ci]? = some (C, T, N) ∧ j < N ∧ (∀ w ∈ u_ws C T N, w ∈ qu_W) ∧ Cond.fieldLink own index (T j).1 (T j).2.1 (T j).2.2.1 ∈ qu_W ∧ (∀ i, i < N → parseFieldDescriptor (T i).2.2.1 = some (ty0 i)) ∧ (∀ x, x < N → ∀ y, y < N → x ≠ y → (T x).2.1 ≠ (T y).2.1) ∧ parseFieldDescriptor (T j).2.2.1 = some ty ∧ (T j).2.2.2 = fin ∧ (fin = true → (T j).1 = own)
def qx_NW (own : String) (index ci : Nat) (fs : List Value) (N : Nat) : Prop := ∃ (C : String) (T : u_T) (ty : Nat → FieldType), qu_Cl[ci]? = some (C, T, N) ∧ (∀ w ∈ u_ws C T N, w ∈ qu_W) ∧ (∀ j, j < N → parseFieldDescriptor (T j).2.2.1 = some (ty j)) ∧ (∀ j, j < N → defaultValue (ty j) = vp_V fs j) ∧ Cond.classLink own index C ∈ qu_W ∧ Cond.instantiable C N ∈ qu_W ∧ Cond.initialized C ∈ qu_W
theorem qx_get (C : qw_C l G b own nm cc nL ret tb R post X) {index ci j a : Nat} {fs : List Value} {v : Value} (hd : decode cc pc = .ok (.getfield index, 3)) (hf : qx_FL own index ci j) (ha : h a = some (.inr (ci, fs))) (hv : fs[j]? = some v) (kk : X (pc + 3) lo (v :: st) h k n) : X pc lo (.ref a :: st) h k n := by
  obtain ⟨p, e, s, m, args, below, meth, c, rfl, hx, hb, hml, htb, hown, hts, hK, hlk, hr, hnm, hbs⟩ := C
  intro H locs ls hR hS hL
  obtain ⟨Cn, T, N, hc, hj, hin, hlink⟩ := hf
  exact va_get (D := G.1) (cl := qu_Cl) hx hb hts hin hown hK.1 (hR.one ha) 0 rfl hc j hj (hts _ hlink) (fun _ q => q) hv hd (kk H locs ls hR hS hL)
theorem qx_put (C : qw_C l G b own nm cc nL ret tb R post X) {index ci j a : Nat} {fs : List Value} {v : Value} {ty : FieldType} (hd : decode cc pc = .ok (.putfield index, 3)) (hf : qx_FP own index ci j ty false) (ha : h a = some (.inr (ci, fs))) (hl : j < fs.length) (hn : narrow ty v = v) (hfit : fits ty v = true) (kk : X (pc + 3) lo st (va_up h a (some (.inr (ci, fs.set j v)))) k n) : X pc lo (v :: .ref a :: st) h k n := by
  obtain ⟨p, e, s, m, args, below, meth, c, rfl, hx, hb, hml, htb, hown, hts, hK, hlk, hr, hnm, hbs⟩ := C
  intro H locs ls hR hS hL
  obtain ⟨Cn, T, N, ty0, hc, hj, hin, hlink, hty, hnm2, hpd, hfin, hdecl⟩ := hf
  have hap := va_apart (own := own) hts hin ty0 hty hnm2 hK.1 hc
  obtain ⟨hba, r, h1, cell, q1, q2, q3, q4⟩ := hR.2 a _ ha
  have hr2 : r = (Cn, T, N) := Option.some.inj (h1.symm.trans hc)
  subst hr2
  obtain ⟨hSl, hfc, kC, hkC, hkind⟩ := hK.1.1 ci _ hc
  obtain ⟨cf, kf, fi, f, hi, hsl⟩ := hSl j hj
  have hlay := hts _ (hin _ (u_in_lay hj))
  unfold u_lay at hlay
  rw [if_neg (by rw [hfin]; decide)] at hlay
  have hst := (u_facts hfc hkC (u_lays hts hin hj) hi).1
  have h6 := u_store hfc hkC hkind hlay hi hpd hn hfit
  refine W.putK hx hb (f := f) ⟨hown, hts _ hlink, ⟨_, _, _, hi⟩, hst⟩ (by rw [q2]; exact h6) q1 q3 (by rw [hsl]; exact k2_hasslot (q4 j hj)) rfl rfl hd fun H' e1 e2 e3 => ?_
  rw [hsl] at e1 ⊢
  exact kk H' _ ls (hR.up hba (Nat.le_of_eq e2.symm) ⟨_, hc, t_OB.to (V := updV (vp_V fs) j v) ⟨_, e1, q2, q3, t_set q4 hap hj v⟩ (fun i _ => vp_updV_set hl v i)⟩ (fun q hq _ => e3 q hq)) (hS.put e2 e3 hba) hL
theorem qx_putF (C : qw_C l G b own nm cc nL ret tb R post X) {index ci j a : Nat} {fs : List Value} {v : Value} {ty : FieldType} (hd : decode cc pc = .ok (.putfield index, 3)) (hi0 : nm = "<init>") (hf : qx_FP own index ci j ty true) (ha : h a = some (.inr (ci, fs))) (hl : j < fs.length) (hn : narrow ty v = v) (hfit : fits ty v = true) (kk : X (pc + 3) lo st (va_up h a (some (.inr (ci, fs.set j v)))) k n) : X pc lo (v :: .ref a :: st) h k n := by
  obtain ⟨p, e, s, m, args, below, meth, c, rfl, hx, hb, hml, htb, hown, hts, hK, hlk, hr, hnm, hbs⟩ := C
  intro H locs ls hR hS hL
  obtain ⟨Cn, T, N, ty0, hc, hj, hin, hlink, hty, hnm2, hpd, hfin, hdecl⟩ := hf
  have hap := va_apart (own := own) hts hin ty0 hty hnm2 hK.1 hc
  obtain ⟨hba, r, h1, cell, q1, q2, q3, q4⟩ := hR.2 a _ ha
  have hr2 : r = (Cn, T, N) := Option.some.inj (h1.symm.trans hc)
  subst hr2
  obtain ⟨hSl, hfc, kC, hkC, hkind⟩ := hK.1.1 ci _ hc
  obtain ⟨cf, kf, fi, f, hi, hsl⟩ := hSl j hj
  have hlay := hts _ (hin _ (u_in_lay hj))
  unfold u_lay at hlay
  rw [if_pos hfin] at hlay
  have hst := (u_facts hfc hkC (u_lays hts hin hj) hi).1
  have hcf : m.cls = cf := by
    obtain ⟨_, _, c', _, _, _, -, -, hf', -, -, -, hown2, -⟩ := Cond.laysFinal_spec hlay
    have e1 : c' = cf := by have := hi.symm.trans hf'; simp at this; exact this.1.symm
    rw [hdecl rfl] at hown2
    rw [← e1]; exact Option.some.inj (hown.symm.trans hown2)
  have h6 := u_fits hfc hkC hkind (Or.inr hlay) hi hpd hn hfit
  refine W.putFinK hx hb hown (hts _ hlink) hi hst hcf (hnm.trans hi0) (by rw [q2]; exact h6) q1 q3 (by rw [hsl]; exact k2_hasslot (q4 j hj)) rfl rfl hd fun H' e1 e2 e3 => ?_
  rw [hsl] at e1 ⊢
  exact kk H' _ ls (hR.up hba (Nat.le_of_eq e2.symm) ⟨_, hc, t_OB.to (V := updV (vp_V fs) j v) ⟨_, e1, q2, q3, t_set q4 hap hj v⟩ (fun i _ => vp_updV_set hl v i)⟩ (fun q hq _ => e3 q hq)) (hS.put e2 e3 hba) hL
theorem qx_new (C : qw_C l G b own nm cc nL ret tb R post X) {index ci N : Nat} {fs : List Value} (hd : decode cc pc = .ok (.new index, 3)) (hf : qx_NW own index ci fs N) (h1 : k + 1 ≤ R.cells) (h2 : n + N ≤ R.slots) (kk : ∀ q : Nat, h q = none → X (pc + 3) lo (.ref q :: st) (va_up h q (some (.inr (ci, fs)))) (k + 1) (n + N)) : X pc lo st h k n := by
  obtain ⟨p, e, s, m, args, below, meth, c, rfl, hx, hb, hml, htb, hown, hts, hK, hlk, hr, hnm, hbs⟩ := C
  intro H locs ls hR hS hL
  obtain ⟨Cn, T, ty, hc, hin, hty, hfs, hcl, hinst, hini⟩ := hf
  have hKn := hK.1.1 ci _ hc
  refine W.newcK hx hb hown (hts _ hcl) (hts _ hinst) (hts _ hini) rfl hd h1 h2 hKn.2.1 rfl fun H1 kC hkC e1 z1 o1 => ?_
  exact kk H.size hR.fresh H1 locs ls (hR.up hR.1 (by omega) ⟨_, hc, (u_born ty hts hin hKn hkC e1 hty).to hfs⟩ (fun q _ hq => o1 q hq)) ⟨Nat.le_trans hS.1 (by omega), fun x g1 g2 => (o1 x (Nat.lt_of_lt_of_le g1 hS.1)).trans (hS.2.1 x g1 g2), hS.2.2⟩ hL
theorem qx_iald (C : qw_C l G b own nm cc nL ret tb R post X) {a N : Nat} {f : Nat → Int32} {i : Int32} (hd : decode cc pc = .ok (.iaload, 1)) (ha : h a = some (.inl (G.2 0, N, .inl f))) (hin : vp_in i N) (kk : X (pc + 1) lo (.int (f i.toNatClampNeg) :: st) h k n) : X pc lo (.int i :: .ref a :: st) h k n := by
  obtain ⟨p, e, s, m, args, below, meth, c, rfl, hx, hb, hml, htb, hown, hts, hK, hlk, hr, hnm, hbs⟩ := C
  intro H locs ls hR hS hL
  exact va_iald (D := G.1) (cl := qu_Cl) hx hb hK.1 (hR.one ha) 0 0 rfl rfl hin hd (kk H locs ls hR hS hL)
theorem qx_zald (C : qw_C l G b own nm cc nL ret tb R post X) {a N : Nat} {f : Nat → Int32} {i : Int32} (hd : decode cc pc = .ok (.baload, 1)) (ha : h a = some (.inl (G.2 1, N, .inl f))) (hin : vp_in i N) (kk : X (pc + 1) lo (.int (f i.toNatClampNeg) :: st) h k n) : X pc lo (.int i :: .ref a :: st) h k n := by
  obtain ⟨p, e, s, m, args, below, meth, c, rfl, hx, hb, hml, htb, hown, hts, hK, hlk, hr, hnm, hbs⟩ := C
  intro H locs ls hR hS hL
  exact va_zald (D := G.1) (cl := qu_Cl) hx hb hK.1 (hR.one ha) 0 1 rfl rfl hin hd (kk H locs ls hR hS hL)
theorem qx_lald (C : qw_C l G b own nm cc nL ret tb R post X) {a N : Nat} {f : Nat → Int64} {i : Int32} (hd : decode cc pc = .ok (.laload, 1)) (ha : h a = some (.inl (G.2 2, N, .inr (.inl f)))) (hin : vp_in i N) (kk : X (pc + 1) lo (.long (f i.toNatClampNeg) :: st) h k n) : X pc lo (.int i :: .ref a :: st) h k n := by
  obtain ⟨p, e, s, m, args, below, meth, c, rfl, hx, hb, hml, htb, hown, hts, hK, hlk, hr, hnm, hbs⟩ := C
  intro H locs ls hR hS hL
  exact va_lald (D := G.1) (cl := qu_Cl) hx hb hK.1 (hR.one ha) 0 2 rfl rfl hin hd (kk H locs ls hR hS hL)
theorem qx_iast (C : qw_C l G b own nm cc nL ret tb R post X) {a N : Nat} {f : Nat → Int32} {i : Int32} {x : Int32} (hd : decode cc pc = .ok (.iastore, 1)) (ha : h a = some (.inl (G.2 0, N, .inl f))) (hin : vp_in i N) (kk : X (pc + 1) lo st (va_up h a (some (.inl (G.2 0, N, .inl (upd f i.toNatClampNeg x))))) k n) : X pc lo (.int x :: .int i :: .ref a :: st) h k n := by
  obtain ⟨p, e, s, m, args, below, meth, c, rfl, hx, hb, hml, htb, hown, hts, hK, hlk, hr, hnm, hbs⟩ := C
  intro H locs ls hR hS hL
  obtain ⟨hba, hca⟩ := hR.2 a _ ha
  refine W.iast hx hb hca ((hK.1.2 0 _ rfl).1 N (fun j => .int (f j))) (fun q => by cases q) (by show ¬ (i < 0 ∨ (arrV _ _ _).slots.size ≤ _); rw [arrV_size]; exact hin) rfl rfl hd fun H1 e z oq => ?_
  refine kk H1 _ ls (hR.up hba (Nat.le_of_eq z.symm) ?_ (fun q hq _ => oq q hq)) (hS.put z oq hba) hL
  show H1[a]? = some (vp_cell _ _)
  rw [e]
  rw [vp_cell_i, vp_cell_i, arrV_store]
  congr 2
  funext q
  by_cases hq : q = i.toNatClampNeg
  · subst hq
    simp [updV, upd, vp_nar, vp_updL]
    try rfl
  · simp [updV, upd, vp_updL, hq]
theorem qx_zast (C : qw_C l G b own nm cc nL ret tb R post X) {a N : Nat} {f : Nat → Int32} {i : Int32} {x : Int32} (hd : decode cc pc = .ok (.bastore, 1)) (ha : h a = some (.inl (G.2 1, N, .inl f))) (hin : vp_in i N) (kk : X (pc + 1) lo st (va_up h a (some (.inl (G.2 1, N, .inl (upd f i.toNatClampNeg (vp_nar .boolean x)))))) k n) : X pc lo (.int x :: .int i :: .ref a :: st) h k n := by
  obtain ⟨p, e, s, m, args, below, meth, c, rfl, hx, hb, hml, htb, hown, hts, hK, hlk, hr, hnm, hbs⟩ := C
  intro H locs ls hR hS hL
  obtain ⟨hba, hca⟩ := hR.2 a _ ha
  refine W.zast hx hb hca ((hK.1.2 1 _ rfl).1 N (fun j => .int (f j))) (fun q => by cases q) (by show ¬ (i < 0 ∨ (arrV _ _ _).slots.size ≤ _); rw [arrV_size]; exact hin) rfl rfl hd fun H1 e z oq => ?_
  refine kk H1 _ ls (hR.up hba (Nat.le_of_eq z.symm) ?_ (fun q hq _ => oq q hq)) (hS.put z oq hba) hL
  show H1[a]? = some (vp_cell _ _)
  rw [e]
  rw [vp_cell_i, vp_cell_i, arrV_store]
  congr 2
  funext q
  by_cases hq : q = i.toNatClampNeg
  · subst hq
    simp [updV, upd, vp_nar, vp_updL]
    try rfl
  · simp [updV, upd, vp_updL, hq]
theorem qx_last (C : qw_C l G b own nm cc nL ret tb R post X) {a N : Nat} {f : Nat → Int64} {i : Int32} {x : Int64} (hd : decode cc pc = .ok (.lastore, 1)) (ha : h a = some (.inl (G.2 2, N, .inr (.inl f)))) (hin : vp_in i N) (kk : X (pc + 1) lo st (va_up h a (some (.inl (G.2 2, N, .inr (.inl (vp_updL f i.toNatClampNeg x)))))) k n) : X pc lo (.long x :: .int i :: .ref a :: st) h k n := by
  obtain ⟨p, e, s, m, args, below, meth, c, rfl, hx, hb, hml, htb, hown, hts, hK, hlk, hr, hnm, hbs⟩ := C
  intro H locs ls hR hS hL
  obtain ⟨hba, hca⟩ := hR.2 a _ ha
  refine W.last hx hb hca ((hK.1.2 2 _ rfl).1 N (fun j => .long (f j))) (fun q => by cases q) (by show ¬ (i < 0 ∨ (arrV _ _ _).slots.size ≤ _); rw [arrV_size]; exact hin) rfl rfl hd fun H1 e z oq => ?_
  refine kk H1 _ ls (hR.up hba (Nat.le_of_eq z.symm) ?_ (fun q hq _ => oq q hq)) (hS.put z oq hba) hL
  show H1[a]? = some (vp_cell _ _)
  rw [e]
  rw [vp_cell_l, vp_cell_l, arrV_store]
  congr 2
  funext q
  by_cases hq : q = i.toNatClampNeg
  · subst hq
    simp [updV, upd, vp_nar, vp_updL]
    try rfl
  · simp [updV, upd, vp_updL, hq]
theorem qx_alen (C : qw_C l G b own nm cc nL ret tb R post X) {a t N : Nat} {x : vp_A} {ty : FieldType} (hd : decode cc pc = .ok (.arraylength, 1)) (ha : h a = some (.inl (G.2 t, x))) (ht : (qu_Ty G.2)[t]? = some (G.2 t, ty)) (hx1 : x.1 = N) (kk : X (pc + 1) lo (.int (nI N) :: st) h k n) : X pc lo (.ref a :: st) h k n := by
  obtain ⟨p, e, s, m, args, below, meth, c, rfl, hx, hb, hml, htb, hown, hts, hK, hlk, hr, hnm, hbs⟩ := C
  intro H locs ls hR hS hL
  subst hx1
  exact va_alen (D := G.1) (cl := qu_Cl) hx hb hK.1 (hR.one ha) 0 t rfl ht rfl hd (kk H locs ls hR hS hL)
theorem qx_aald (C : qw_C l G b own nm cc nL ret tb R post X) {a t N y : Nat} {f : Nat → Option Nat} {E : String} {i : Int32} (hd : decode cc pc = .ok (.aaload, 1)) (ha : h a = some (.inl (G.2 t, N, .inr (.inr (.inr (.inr f)))))) (ht : (qu_Ty G.2)[t]? = some (G.2 t, .object E)) (hin : vp_in i N) (hv : f i.toNatClampNeg = some y) (kk : X (pc + 1) lo (.ref y :: st) h k n) : X pc lo (.int i :: .ref a :: st) h k n := by
  obtain ⟨p, e, s, m, args, below, meth, c, rfl, hx, hb, hml, htb, hown, hts, hK, hlk, hr, hnm, hbs⟩ := C
  intro H locs ls hR hS hL
  have h9 := kk H locs ls hR hS hL
  refine va_aldq (D := G.1) (cl := qu_Cl) hx hb hK.1 (hR.one ha) 0 t rfl ht hin hd ?_
  rw [hv]
  exact h9
theorem qx_aaldN (C : qw_C l G b own nm cc nL ret tb R post X) {a t N : Nat} {f : Nat → Option Nat} {E : String} {i : Int32} (hd : decode cc pc = .ok (.aaload, 1)) (ha : h a = some (.inl (G.2 t, N, .inr (.inr (.inr (.inr f)))))) (ht : (qu_Ty G.2)[t]? = some (G.2 t, .object E)) (hin : vp_in i N) (hv : f i.toNatClampNeg = none) (kk : X (pc + 1) lo (.null :: st) h k n) : X pc lo (.int i :: .ref a :: st) h k n := by
  obtain ⟨p, e, s, m, args, below, meth, c, rfl, hx, hb, hml, htb, hown, hts, hK, hlk, hr, hnm, hbs⟩ := C
  intro H locs ls hR hS hL
  have h9 := kk H locs ls hR hS hL
  refine va_aldq (D := G.1) (cl := qu_Cl) hx hb hK.1 (hR.one ha) 0 t rfl ht hin hd ?_
  rw [hv]
  exact h9
theorem qx_aast (C : qw_C l G b own nm cc nL ret tb R post X) {a t N v ci : Nat} {f : Nat → Option Nat} {r : vw_C} {vs : List Value} {i : Int32} (hd : decode cc pc = .ok (.aastore, 1)) (ha : h a = some (.inl (G.2 t, N, .inr (.inr (.inr (.inr f)))))) (ht : (qu_Ty G.2)[t]? = some (G.2 t, .object r.1)) (hv : h v = some (.inr (ci, vs))) (hc : qu_Cl[ci]? = some r) (hin : vp_in i N) (kk : X (pc + 1) lo st (va_up h a (some (.inl (G.2 t, N, .inr (.inr (.inr (.inr (va_up f i.toNatClampNeg (some v))))))))) k n) : X pc lo (.ref v :: .int i :: .ref a :: st) h k n := by
  obtain ⟨p, e, s, m, args, below, meth, c, rfl, hx, hb, hml, htb, hown, hts, hK, hlk, hr, hnm, hbs⟩ := C
  intro H locs ls hR hS hL
  have hlt : i.toNatClampNeg < N := Nat.not_le.mp fun q => hin (Or.inr q)
  have h0 : ¬ i < 0 := fun q => hin (Or.inl q)
  obtain ⟨hba, hca⟩ := hR.2 a _ ha
  obtain ⟨-, r', hr', cellV, g1, g2, g3, -⟩ := hR.2 v _ hv
  have hcls := (hK.1.1 ci r hc).2
  obtain ⟨kA, comp, k1, k2, k3, -⟩ := (hK.1.2 t _ ht).2
  have hcomp : comp = G.1.1 ci := Option.some.inj (k3.symm.trans hcls.1)
  subst hcomp
  obtain ⟨kC, hkC, -⟩ := hcls.2
  refine W.aast hx hb hca (fun q h => by cases h) (fun h => by cases h) k1 k2 rfl hkC ⟨h0, by show _ < (arrV _ _ _).slots.size; rw [arrV_size]; exact hlt⟩ g1 (fun q h => by rw [g3] at h; cases h) (by rw [g2]; exact hkC) (by rw [g2]; exact va_assign hcls) rfl rfl hd fun H1 e z oq => ?_
  refine kk H1 _ ls (hR.up hba (Nat.le_of_eq z.symm) ?_ (fun q hq _ => oq q hq)) (hS.put z oq hba) hL
  show H1[a]? = some (vp_cell _ _)
  rw [e]
  rw [vp_cell_q, vp_cell_q, arrV_store]
  congr 2
  funext q
  by_cases hq : q = i.toNatClampNeg
  · subst hq
    simp [updV, va_up, va_rf]
  · simp [updV, va_up, hq]
theorem qx_newa (C : qw_C l G b own nm cc nL ret tb R post X) {t N : Nat} {atype : ArrayType} {ty : FieldType} {a0 : vp_A} {i : Int32} (hd : decode cc pc = .ok (.newarray atype, 2)) (hty : newarray.typeOf atype = ty) (ht : (qu_Ty G.2)[t]? = some (G.2 t, ty)) (hw : Cond.arrayClass ty ∈ qu_W) (ha0 : ∀ cA : ClassId, vp_cell cA a0 = arrV cA N (fun _ => defaultValue ty)) (hi : ¬ i < 0) (hN : i.toNatClampNeg = N) (hby : N * componentBytes ty ≤ 536870912) (h1 : k + 1 ≤ R.cells) (h2 : n + N ≤ R.slots) (kk : ∀ q : Nat, h q = none → X (pc + 2) lo (.ref q :: st) (va_up h q (some (.inl (G.2 t, a0)))) (k + 1) (n + N)) : X pc lo (.int i :: st) h k n := by
  obtain ⟨p, e, s, m, args, below, meth, c, rfl, hx, hb, hml, htb, hown, hts, hK, hlk, hr, hnm, hbs⟩ := C
  intro H locs ls hR hS hL
  subst hty
  refine va_newaK hx hb (hts _ hw) rfl hd rfl hi hN hby h1 h2 rfl fun H1 cA e1 z1 o1 hAr hNm => ?_
  have hcA : cA = G.2 t := by
    have h9 := (hK.1.2 t _ ht).2
    have h8 : s.vm.findClass ("[" ++ (newarray.typeOf atype).toString) = some (G.2 t) := by
      revert h9
      cases atype <;> exact fun h9 => h9
    exact Option.some.inj (hNm.symm.trans h8)
  subst hcA
  exact kk H.size hR.fresh H1 locs ls (hR.up hR.1 (by omega) (show H1[H.size]? = some (vp_cell _ _) by rw [ha0]; exact e1) (fun q _ hq => o1 q hq)) ⟨Nat.le_trans hS.1 (by omega), fun x g1 g2 => (o1 x (Nat.lt_of_lt_of_le g1 hS.1)).trans (hS.2.1 x g1 g2), hS.2.2⟩ hL
theorem qx_newq (C : qw_C l G b own nm cc nL ret tb R post X) {t N index : Nat} {E : String} {i : Int32} (hd : decode cc pc = .ok (.anewarray index, 3)) (ht : (qu_Ty G.2)[t]? = some (G.2 t, .object E)) (hw : Cond.classLink own index E ∈ qu_W) (ho : E ∈ qu_Ao) (hi : ¬ i < 0) (hN : i.toNatClampNeg = N) (hby : N * 4 ≤ 536870912) (h1 : k + 1 ≤ R.cells) (h2 : n + N ≤ R.slots) (kk : ∀ q : Nat, h q = none → X (pc + 3) lo (.ref q :: st) (va_up h q (some (.inl (G.2 t, N, .inr (.inr (.inr (.inr (fun _ => none)))))))) (k + 1) (n + N)) : X pc lo (.int i :: st) h k n := by
  obtain ⟨p, e, s, m, args, below, meth, c, rfl, hx, hb, hml, htb, hown, hts, hK, hlk, hr, hnm, hbs⟩ := C
  intro H locs ls hR hS hL
  subst hN
  refine W.anew hx hb hown (hts _ hw) (va_AO.use (hK.2.2 E ho)) rfl hd rfl hi hby h1 h2 fun cA kA comp f1 f2 f3 f4 => ?_
  obtain ⟨kA2, comp2, k1, k2, k3, k4⟩ := (hK.1.2 t _ ht).2
  have hcA : cA = G.2 t := Option.some.inj (f1.symm.trans k4)
  subst hcA
  generalize hH1 : H.push ({ cls := G.2 t, slots := Array.replicate i.toNatClampNeg .null, vm := .none } : Cell) = H1
  have z1 : H1.size = H.size + 1 := by rw [← hH1, Array.size_push]
  have e1 : H1[H.size]? = some (arrV (G.2 t) i.toNatClampNeg (fun _ => .null)) := by rw [← hH1, Array.getElem?_push_size, ← arrV_new]
  have o1 : ∀ q : Nat, q < H.size → H1[q]? = H[q]? := fun q hq => by rw [← hH1, Array.getElem?_push, if_neg (Nat.ne_of_lt hq)]
  exact kk H.size hR.fresh H1 locs ls (hR.up hR.1 (by omega) (show H1[H.size]? = some (vp_cell _ _) by rw [vp_cell_q]; exact e1) (fun q _ hq => o1 q hq)) ⟨Nat.le_trans hS.1 (by omega), fun x g1 g2 => (o1 x (Nat.lt_of_lt_of_le g1 hS.1)).trans (hS.2.1 x g1 g2), hS.2.2⟩ hL
theorem qw_mono {p : Program} {e : Env} {s : State} {m : MethodId} {args : Array Value} {below : List Frame} {meth : Method} {c : Code} {H : Heap} {locs : List Loc} {cells slots : Nat} {Q Q' : State → Prop} {g : JFrame} (hq : ∀ t, Q t → Q' t) (kk : W p l e R s m args below meth c H locs cells slots Q g) : W p l e R s m args below meth c H locs cells slots Q' g := fun T hT X => by
  obtain ⟨t, a1, b1⟩ := kk T hT X
  exact ⟨t, a1, hq t b1⟩
theorem qx_fin {s : State} {args : Array Value} {below : List Frame} {H : Heap} {locs : List Loc} {mc ms : Nat} {o0 : Outcome} (hbs : b ≤ s.heap.size) (hR : qh_R G b h H) (hS : va_S (fun q => b ≤ q) s.heap H locs) (hp : post o0 h) : ∀ t : State, MQ below (fun _ _ o t => o = o0 ∧ t.heap = H) args s mc ms (fun q => b ≤ q) t → qx_Q G b post below s mc ms t := by
  rintro t ⟨o, h1, h2, ⟨rfl, h4⟩, L, ⟨-, h5, h6⟩, h7⟩
  refine ⟨o, h, L, h1, h2, hp, by rw [h4]; exact hR, h5, ⟨by rw [h4]; exact hS.1, fun q hq => ?_⟩, h6, h7⟩
  rw [h4]
  exact hS.2.1 q (Nat.lt_of_lt_of_le hq hbs) (Nat.not_le.mpr hq)
theorem qx_iret (C : qw_C l G b own nm cc nL (some .int) tb R post X) {v : Int32} (hd : decode cc pc = .ok (.ireturn, 1)) (h1 : k ≤ R.cells) (h2 : n ≤ R.slots) (hp : post (.returned (some (.int v))) h) : X pc lo [.int v] h k n := by
  obtain ⟨p, e, s, m, args, below, meth, c, rfl, hx, hb, hml, htb, hown, hts, hK, hlk, hr, hnm, hbs⟩ := C
  intro H locs ls hR hS hL
  refine W.widen h1 h2 (qw_mono (qx_fin (args := args) hbs hR hS hp) ?_)
  exact W.iret hx hb hr (fun t ht _ => ⟨rfl, ht⟩) hS.2.2 hd
theorem qx_zret (C : qw_C l G b own nm cc nL (some .boolean) tb R post X) {v : Int32} (hd : decode cc pc = .ok (.ireturn, 1)) (hv : narrow .boolean (.int v) = .int v) (h1 : k ≤ R.cells) (h2 : n ≤ R.slots) (hp : post (.returned (some (.int v))) h) : X pc lo [.int v] h k n := by
  obtain ⟨p, e, s, m, args, below, meth, c, rfl, hx, hb, hml, htb, hown, hts, hK, hlk, hr, hnm, hbs⟩ := C
  intro H locs ls hR hS hL
  refine W.widen h1 h2 (qw_mono (qx_fin (args := args) hbs hR hS hp) ?_)
  exact W.zret hx hb hr hv (fun t ht _ => ⟨rfl, ht⟩) hS.2.2 hd
theorem qx_vret (C : qw_C l G b own nm cc nL none tb R post X) (hd : decode cc pc = .ok (.return_, 1)) (h1 : k ≤ R.cells) (h2 : n ≤ R.slots) (hp : post (.returned none) h) : X pc lo [] h k n := by
  obtain ⟨p, e, s, m, args, below, meth, c, rfl, hx, hb, hml, htb, hown, hts, hK, hlk, hr, hnm, hbs⟩ := C
  intro H locs ls hR hS hL
  refine W.widen h1 h2 (qw_mono (qx_fin (args := args) hbs hR hS hp) ?_)
  exact W.vret hx hb hr (fun t ht _ => ⟨rfl, ht⟩) hS.2.2 hd
theorem qx_aret {E : String} (C : qw_C l G b own nm cc nL (some (.object E)) tb R post X) {v : Value} (hd : decode cc pc = .ok (.areturn, 1)) (hv : v = .null ∨ ∃ a, v = .ref a) (h1 : k ≤ R.cells) (h2 : n ≤ R.slots) (hp : post (.returned (some v)) h) : X pc lo [v] h k n := by
  obtain ⟨p, e, s, m, args, below, meth, c, rfl, hx, hb, hml, htb, hown, hts, hK, hlk, hr, hnm, hbs⟩ := C
  intro H locs ls hR hS hL
  refine W.widen h1 h2 (qw_mono (qx_fin (args := args) hbs hR hS hp) ?_)
  exact W.aret hx hb hr (Or.inl ⟨_, rfl⟩) hv (fun t ht _ => ⟨rfl, ht⟩) hS.2.2 hd
theorem qx_objI (C : qw_C l G b own nm cc nL ret tb R post X) {a index : Nat} (hd : decode cc pc = .ok (.invokespecial index, 3)) (hw1 : Cond.methodLink own index Lib.objectInit ∈ qu_W) (hw2 : Cond.instanceMethod Lib.objectInit ∈ qu_W) (hw3 : Cond.code Lib.objectInit ⟨#[0xb1]⟩ 1 none ∈ qu_W) (hll : lo.length = nL) (h1 : 1 ≤ R.frames) (h2 : (st.map fun v => v.category).sum + 12 ≤ R.locals) (kk : X (pc + 3) lo st h k n) : X pc lo (.ref a :: st) h k n := by
  obtain ⟨p, e, s, m, args, below, meth, c, rfl, hx, hb, hml, htb, hown, hts, hK, hlk, hr, hnm, hbs⟩ := C
  intro H locs ls hR hS hL
  refine W.objInit hx hb hown (hts _ hw1) (hts _ hw2) (hts _ hw3) rfl (by rw [hml]; exact hL.1.trans hll) rfl hd h1 (by show 2 * 0 + _ + 12 ≤ _; omega) ?_
  exact kk H locs ls hR hS hL
end QXR
end
section
section QXC
variable {l : Launch} {G : qh_G} {b : Nat}
theorem qx_call {y : MethodName} {cY : ByteArray} {nY : Nat} {rY : Option FieldType} {rm : Room} {av : List Value} {h : qh_H} {pq : Outcome → qh_H → Prop}
    {p : Program} {e : Env} {R : Room} {s : State} {m : MethodId} {args : Array Value} {below : List Frame} {meth : Method} {c : Code} {T : State} {locs : List Loc} {k n : Nat}
    (X : Stand p l e R s m args below meth c T locs k n) (hM : qx_M l y (Cond.code y cY nY rY :: qu_W) rm G b av h pq)
    (hts : ∀ w ∈ qu_W, w.before args s = true) (hy : Cond.code y cY nY rY ∈ qu_W ∧ Cond.initialized y.cls ∈ qu_W) (hK : qw_K G s) (hR : qh_R G b h T.heap)
    {mk : MethodId} (hn : s.methodNamed? y = some mk)
    {g : JFrame} (hg : g.method = m) (hsize : g.locals.size = c.maxLocals) {ig : Instr} {len : Nat} (hdg : decode c.code g.pc = .ok (ig, len))
    (hW : 2 * g.monitorRoom + (g.stack.map fun v => v.category).sum ≤ 8) (hfr : rm.frames + 1 ≤ R.frames ∧ 8 + (nY + 11) + rm.locals ≤ R.locals ∧ k + rm.cells ≤ R.cells ∧ n + rm.slots ≤ R.slots) :
    ∃ (o : Outcome) (h' : qh_H) (T' : State) (L : List Loc), Stand p l e R s m args below meth c T' (locs ++ L) (k + rm.cells) (n + rm.slots) ∧ pq o h' ∧ qh_R G b h' T'.heap ∧ (T.heap.size ≤ T'.heap.size ∧ ∀ q : Nat, q < b → T'.heap[q]? = T.heap[q]?) ∧ (∀ q ∈ L, b ≤ q.base) ∧
      (∀ v, o = .returned v → Steps p.tables e below (doInvoke e (T.setTop g) [] mk av.toArray).1 (T'.setTop { g with pc := g.pc + len, stack := v.toList ++ g.stack })) ∧
      (∀ x, o = .threw x → Steps p.tables e below (doInvoke e (T.setTop g) [] mk av.toArray).1 ((T'.setTop g).pushFrame (.throwing x))) := by
  have hG : ∀ w ∈ (Cond.code y cY nY rY :: qu_W), w ∈ qu_W ∧ ((w.onTables && w.keeps) = true ∨ ∃ ty, w = .arrayClass ty) := by
    intro w hw
    rcases List.mem_cons.mp hw with rfl | hw
    · exact ⟨hy.1, qu_good _ hy.1⟩
    · exact ⟨hw, qu_good _ hw⟩
  have hws := pay_in hts hG
  have hnT : T.methodNamed? y = some mk := X.named hn
  obtain ⟨methY, cdY, hmY, hcY, -, hlY, -⟩ := Cond.code_spec hnT (hws _ List.mem_cons_self args T X.warmed)
  obtain ⟨kY, hkY, -⟩ := className_of_methodNamed hnT
  have hinitY : kY.init = .initialized := Cond.initialized_spec (findClass_of_methodNamed hnT) hkY (hws _ (List.mem_cons_of_mem _ hy.2) args T X.warmed)
  have h0 : At T g.method c below := by rw [hg]; exact X.here
  have hr1 := hfr.2.1
  have happ : (headSpec (Cond.code y cY nY rY :: qu_W) rm).appliesLoose y e.platform (T.calling g mk av.toArray) = true :=
    Spec.appliesLoose_calling (g := g) h0 hdg hnT hkY hinitY
      (X.room_calling (g := g) (R' := rm) hsize hmY hcY hfr.1 (by rw [hlY]; omega) hfr.2.2.1 hfr.2.2.2) (atoms_intro fun w hw => hws w hw _ _ X.warmed)
  obtain ⟨mid, hmid⟩ := h0.above
  have hfr' : (T.setTop g).frames = (.java g :: mid) ++ below := by rw [State.frames_setTop' g h0.top, hmid]; rfl
  obtain ⟨o, s₂, hsteps, -, hend, hq⟩ := Steps.callFree hM p X.admits X.cas X.clock (acts := []) hfr' happ ⟨rfl, hR, qw_K.same (s := T) (show T.vm = T.vm from rfl) (hK.warm X.warmed)⟩ trivial
  rw [State.frames_setTop' g h0.top, X.tail] at hend
  obtain ⟨h', L, hp, hR2, hW2, hz, hsame, hL⟩ := hq
  cases o with
  | returned v =>
    obtain ⟨T', X', -, -, ht⟩ := X.outOf hg hdg hend hW2 hsame
    have hh : T'.heap = s₂.heap := by rw [ht]; rfl
    exact ⟨_, h', T', L, X', hp, by rw [hh]; exact hR2, by rw [hh]; exact hz, hL, fun v' q => by cases q; rw [← ht]; exact hsteps, fun x q => by cases q⟩
  | threw x =>
    obtain ⟨T', X', -, -, ht⟩ := X.outOfThrown hg hend hW2 hsame
    have hh : T'.heap = s₂.heap := by rw [ht]; rfl
    exact ⟨_, h', T', L, X', hp, by rw [hh]; exact hR2, by rw [hh]; exact hz, hL, fun v' q => (by cases q), fun x' q => by cases q; rw [← ht]; exact hsteps⟩
/-- where a call stands: the step into the callee -/
def qx_Site (l : Launch) (G : qh_G) (own : String) (cc : ByteArray) (pc : Nat) (y : MethodName) (av rest : List Value) (h : qh_H) : Prop :=
  ∀ {p : Program} {e : Env} {R : Room} {s : State} {m : MethodId} {args : Array Value} {below : List Frame} {meth : Method} {c : Code} {T : State} {locs : List Loc} {k n : Nat}, Stand p l e R s m args below meth c T locs k n → p.tables.exec = Jvm.exec → c.code = cc → s.vm.findClass own = some m.cls → (∀ w ∈ qu_W, w.before args s = true) → qw_K G s → (∀ (a : Nat) (x : va_E), h a = some x → va_at G.1 qu_Cl (a, x) T.heap) → ∀ ls : Array Slot,
    ∃ (vm₁ : Vm) (mk : MethodId) (ig : Instr), Stand p l e R s m args below meth c (T.setVm vm₁) locs k n ∧ s.methodNamed? y = some mk ∧ decode cc pc = .ok (ig, 3) ∧ ∀ target, Steps p.tables e below (doInvoke e ((T.setVm vm₁).setTop (F0 m pc ls rest)) [] mk av.toArray).1 target → Steps p.tables e below (T.setTop (F0 m pc ls (av.reverse ++ rest))) target
variable {own nm : String} {cc : ByteArray} {nL : Nat} {ret : Option FieldType} {tb : List (Nat × Nat × Nat × Nat)} {R : Room} {post : Outcome → qh_H → Prop} {X : qw_T} {pc : Nat} {lo : List (Option Value)} {st : List Value} {h : qh_H} {k n : Nat}
theorem qx_run (C : qw_C l G b own nm cc nL ret tb R post X) {y : MethodName} {cY : ByteArray} {nY : Nat} {rY : Option FieldType} {rm : Room} {av rest : List Value} {pq : Outcome → qh_H → Prop}
    (hsite : qx_Site l G own cc pc y av rest h) (hM : qx_M l y (Cond.code y cY nY rY :: qu_W) rm G b av h pq) (hy : Cond.code y cY nY rY ∈ qu_W ∧ Cond.initialized y.cls ∈ qu_W)
    (hst : st = av.reverse ++ rest) (hll : lo.length = nL) (hro : (rest.map fun v => v.category).sum ≤ 8) (hfr : rm.frames + 1 ≤ R.frames ∧ 8 + (nY + 11) + rm.locals ≤ R.locals ∧ k + rm.cells ≤ R.cells ∧ n + rm.slots ≤ R.slots)
    (hno : ∀ (x : Addr) (h' : qh_H), pq (.threw x) h' → False) (kk : ∀ (v : Option Value) (h' : qh_H), pq (.returned v) h' → X (pc + 3) lo (v.toList ++ rest) h' (k + rm.cells) (n + rm.slots)) : X pc lo st h k n := by
  obtain ⟨p, e, s, m, args, below, meth, c, rfl, hx, hb, hml, htb, hown, hts, hK, hlk, hr, hnm, hbs⟩ := C
  intro H locs ls hR hS hL T hT XS
  subst hT
  obtain ⟨vm₁, mk, ig, X₁, hnamed, hd, hgo⟩ := hsite XS hx hb hown hts hK (fun a x hax => (hR.2 a x hax).2) ls
  obtain ⟨o, h', T', L, X', hp, hR', hz, hLb, hret, hthr⟩ := qx_call (g := F0 m pc ls rest) X₁ hM hts hy hK hR hnamed rfl (by show ls.size = _; rw [hml]; exact hL.1.trans hll) (by rw [hb]; exact hd) (lv_room hro) hfr
  have hS' : va_S (fun q => b ≤ q) s.heap T'.heap (locs ++ L) := ⟨Nat.le_trans hS.1 hz.1, fun q g1 g2 => (hz.2 q (Nat.not_le.mp g2)).trans (hS.2.1 q g1 g2), fun q hq => by
    rcases List.mem_append.mp hq with h9 | h9
    · exact hS.2.2 q h9
    · exact hLb q h9⟩
  cases o with
  | returned v =>
    obtain ⟨t, a1, b1⟩ := kk v h' hp T'.heap (locs ++ L) ls hR' hS' hL T' rfl X'
    subst hst
    exact ⟨t, hgo _ ((hret v rfl).trans a1), b1⟩
  | threw x => exact (hno x h' hp).elim
/-- an int comes back -/
theorem qx_runi (C : qw_C l G b own nm cc nL ret tb R post X) {y : MethodName} {cY : ByteArray} {nY : Nat} {rY : Option FieldType} {rm : Room} {av rest : List Value} {pq : Int32 → qh_H → Prop}
    (hsite : qx_Site l G own cc pc y av rest h) (hM : qx_M l y (Cond.code y cY nY rY :: qu_W) rm G b av h (fun o h' => ∃ r : Int32, o = .returned (some (.int r)) ∧ pq r h')) (hy : Cond.code y cY nY rY ∈ qu_W ∧ Cond.initialized y.cls ∈ qu_W)
    (hst : st = av.reverse ++ rest) (hll : lo.length = nL) (hro : (rest.map fun v => v.category).sum ≤ 8) (hfr : rm.frames + 1 ≤ R.frames ∧ 8 + (nY + 11) + rm.locals ≤ R.locals ∧ k + rm.cells ≤ R.cells ∧ n + rm.slots ≤ R.slots)
    (kk : ∀ (r : Int32) (h' : qh_H), pq r h' → X (pc + 3) lo (.int r :: rest) h' (k + rm.cells) (n + rm.slots)) : X pc lo st h k n :=
  qx_run C hsite hM hy hst hll hro hfr (fun x h' q => by obtain ⟨r, q1, -⟩ := q; cases q1) (fun v h' q => by obtain ⟨r, q1, q2⟩ := q; cases q1; exact kk r h' q2)
/-- nothing comes back -/
theorem qx_runv (C : qw_C l G b own nm cc nL ret tb R post X) {y : MethodName} {cY : ByteArray} {nY : Nat} {rY : Option FieldType} {rm : Room} {av rest : List Value} {pq : qh_H → Prop}
    (hsite : qx_Site l G own cc pc y av rest h) (hM : qx_M l y (Cond.code y cY nY rY :: qu_W) rm G b av h (fun o h' => o = .returned none ∧ pq h')) (hy : Cond.code y cY nY rY ∈ qu_W ∧ Cond.initialized y.cls ∈ qu_W)
    (hst : st = av.reverse ++ rest) (hll : lo.length = nL) (hro : (rest.map fun v => v.category).sum ≤ 8) (hfr : rm.frames + 1 ≤ R.frames ∧ 8 + (nY + 11) + rm.locals ≤ R.locals ∧ k + rm.cells ≤ R.cells ∧ n + rm.slots ≤ R.slots)
    (kk : ∀ h' : qh_H, pq h' → X (pc + 3) lo rest h' (k + rm.cells) (n + rm.slots)) : X pc lo st h k n :=
  qx_run C hsite hM hy hst hll hro hfr (fun x h' q => by cases q.1) (fun v h' q => by obtain ⟨q1, q2⟩ := q; cases q1; exact kk h' q2)
/-- an object or null comes back -/
theorem qx_runq (C : qw_C l G b own nm cc nL ret tb R post X) {y : MethodName} {cY : ByteArray} {nY : Nat} {rY : Option FieldType} {rm : Room} {av rest : List Value} {pq : Option Nat → qh_H → Prop}
    (hsite : qx_Site l G own cc pc y av rest h) (hM : qx_M l y (Cond.code y cY nY rY :: qu_W) rm G b av h (fun o h' => ∃ r : Option Nat, o = .returned (some (va_rf r)) ∧ pq r h')) (hy : Cond.code y cY nY rY ∈ qu_W ∧ Cond.initialized y.cls ∈ qu_W)
    (hst : st = av.reverse ++ rest) (hll : lo.length = nL) (hro : (rest.map fun v => v.category).sum ≤ 8) (hfr : rm.frames + 1 ≤ R.frames ∧ 8 + (nY + 11) + rm.locals ≤ R.locals ∧ k + rm.cells ≤ R.cells ∧ n + rm.slots ≤ R.slots)
    (kk : ∀ (r : Option Nat) (h' : qh_H), pq r h' → X (pc + 3) lo (va_rf r :: rest) h' (k + rm.cells) (n + rm.slots)) : X pc lo st h k n :=
  qx_run C hsite hM hy hst hll hro hfr (fun x h' q => by obtain ⟨r, q1, -⟩ := q; cases q1) (fun v h' q => by obtain ⟨r, q1, q2⟩ := q; cases q1; exact kk r h' q2)
/-- a callee that may throw, and no handler here: the throw goes on -/
theorem qx_runt (C : qw_C l G b own nm cc nL ret [] R post X) {y : MethodName} {cY : ByteArray} {nY : Nat} {rY : Option FieldType} {rm : Room} {av rest : List Value} {pq : Outcome → qh_H → Prop}
    (hsite : qx_Site l G own cc pc y av rest h) (hM : qx_M l y (Cond.code y cY nY rY :: qu_W) rm G b av h pq) (hy : Cond.code y cY nY rY ∈ qu_W ∧ Cond.initialized y.cls ∈ qu_W)
    (hst : st = av.reverse ++ rest) (hll : lo.length = nL) (hro : (rest.map fun v => v.category).sum ≤ 8) (hfr : rm.frames + 1 ≤ R.frames ∧ 8 + (nY + 11) + rm.locals ≤ R.locals ∧ k + rm.cells ≤ R.cells ∧ n + rm.slots ≤ R.slots)
    (hth : ∀ (x : Addr) (h' : qh_H), pq (.threw x) h' → post (.threw x) h') (kk : ∀ (v : Option Value) (h' : qh_H), pq (.returned v) h' → X (pc + 3) lo (v.toList ++ rest) h' (k + rm.cells) (n + rm.slots)) : X pc lo st h k n := by
  obtain ⟨p, e, s, m, args, below, meth, c, rfl, hx, hb, hml, htb, hown, hts, hK, hlk, hr, hnm, hbs⟩ := C
  intro H locs ls hR hS hL T hT XS
  subst hT
  obtain ⟨vm₁, mk, ig, X₁, hnamed, hd, hgo⟩ := hsite XS hx hb hown hts hK (fun a x hax => (hR.2 a x hax).2) ls
  obtain ⟨o, h', T', L, X', hp, hR', hz, hLb, hret, hthr⟩ := qx_call (g := F0 m pc ls rest) X₁ hM hts hy hK hR hnamed rfl (by show ls.size = _; rw [hml]; exact hL.1.trans hll) (by rw [hb]; exact hd) (lv_room hro) hfr
  have hS' : va_S (fun q => b ≤ q) s.heap T'.heap (locs ++ L) := ⟨Nat.le_trans hS.1 hz.1, fun q g1 g2 => (hz.2 q (Nat.not_le.mp g2)).trans (hS.2.1 q g1 g2), fun q hq => by
    rcases List.mem_append.mp hq with h9 | h9
    · exact hS.2.2 q h9
    · exact hLb q h9⟩
  cases o with
  | returned v =>
    obtain ⟨t, a1, b1⟩ := kk v h' hp T'.heap (locs ++ L) ls hR' hS' hL T' rfl X'
    subst hst
    exact ⟨t, hgo _ ((hret v rfl).trans a1), b1⟩
  | threw x =>
    have X2 := stand_widen X' hfr.2.2.1 hfr.2.2.2
    have htb0 : ∀ z ∈ c.exceptionTable.toList, covers z (F0 m pc ls rest).pc = false := by
      intro z hz9
      have h9 := List.map_eq_nil_iff.mp htb
      rw [h9] at hz9
      cases hz9
    obtain ⟨l1, l2, l3, l4, l5⟩ := X2.leaveThrown x (g := F0 m pc ls rest) rfl rfl rfl htb0 hlk
    subst hst
    refine ⟨_, hgo _ ((hthr x rfl).trans l1), .threw x, h', locs ++ L, l2, l3, hth x h' hp, hR', l4, ⟨Nat.le_trans hS.1 hz.1, fun q hq => ?_⟩, l5, hS'.2.2⟩
    exact (hz.2 q hq).trans (hS.2.1 q (Nat.lt_of_lt_of_le hq hbs) (Nat.not_le.mpr hq))
/-! the sites: virtual, static, constructor; plain or of a nest mate -/
theorem qx_siteV {y : MethodName} {cY : ByteArray} {nY : Nat} {rY : Option FieldType} {E : String} {T0 : u_T} {N0 index ci b0 : Nat} {fs As rest : List Value} (hd : decode cc pc = .ok (.invokevirtual index, 3)) (hw1 : Cond.methodLink own index y ∈ qu_W) (hw2 : Cond.instanceMethod y ∈ qu_W) (hw3 : Cond.selects E y y ∈ qu_W) (hw4 : Cond.code y cY nY rY ∈ qu_W) (hy : y.cls ≠ "java/lang/invoke/MethodHandle" ∧ y.cls ≠ "java/lang/invoke/VarHandle") (hcl : qu_Cl[ci]? = some (E, T0, N0)) (hn : (parseMethodDescriptor y.desc).map (fun d => d.parameters.length) = some As.length) (hb0 : h b0 = some (.inr (ci, fs))) : qx_Site l G own cc pc y (.ref b0 :: As) rest h := by
  intro p e R s m args below meth c T locs k n X hx hb hown hts hK hat ls
  obtain ⟨mk, methM, hnamed, hmethM, hstM, habM⟩ := Cond.instanceMethod_spec (hts _ hw2)
  obtain ⟨methM', cM, hmethM', -, -, -, -, -, -, hsigM⟩ := Cond.code_spec hnamed (hts _ hw4)
  cases hmethM.symm.trans hmethM'
  obtain ⟨c2, r2, m2, q1, q2, q3, q4, kP, hkP, hkPi⟩ := Cond.selects_spec (hts _ hw3)
  obtain ⟨r, g0, cellB, g1, g2, g3, -⟩ := hat b0 _ hb0
  have hcls : s.vm.findClass E = some cellB.cls := by rw [g2]; exact (hK.1.1 ci _ hcl).2.1
  cases hcls.symm.trans q1
  cases (State.methodFound?_of_named hnamed hy).symm.trans q2
  cases hnamed.symm.trans q3
  have hselP : selectMethod e.platform s.vm cellB.cls mk = .method mk := by rw [Launch.admits_selectMethod X.admits]; exact q4
  have hlen : As.length = methM.sig.parameters.length := by rw [hsigM] at hn; exact (Option.some.inj hn).symm
  obtain ⟨vm₁, X₁, hstep₁⟩ := X.invokevirtual hx hown (hts _ hw1) hnamed hmethM hstM hkP hkPi hy (a := b0) (cell := cellB) g1 (fun z q => by rw [g3] at q; cases q) hselP hmethM habM hkP hkPi (g := F0 m pc ls ((Value.ref b0 :: As).reverse ++ rest)) rfl (argsL := As) (rest := rest) hlen (by simp) (by rw [hb]; exact hd)
  exact ⟨vm₁, mk, .invokevirtual index, X₁, hnamed, hd, fun target q => hstep₁ _ fun acts => by rw [doInvoke_state]; exact q⟩
theorem qx_siteVN {y : MethodName} {cY : ByteArray} {nY : Nat} {rY : Option FieldType} {E : String} {T0 : u_T} {N0 index ci b0 : Nat} {fs As rest : List Value} {host : String} (hd : decode cc pc = .ok (.invokevirtual index, 3)) (hw1 : Cond.methodLinkNest own index y host ∈ qu_Mn) (hw2 : Cond.instanceMethod y ∈ qu_W) (hw3 : Cond.selects E y y ∈ qu_W) (hw4 : Cond.code y cY nY rY ∈ qu_W) (hy : y.cls ≠ "java/lang/invoke/MethodHandle" ∧ y.cls ≠ "java/lang/invoke/VarHandle") (hcl : qu_Cl[ci]? = some (E, T0, N0)) (hn : (parseMethodDescriptor y.desc).map (fun d => d.parameters.length) = some As.length) (hb0 : h b0 = some (.inr (ci, fs))) : qx_Site l G own cc pc y (.ref b0 :: As) rest h := by
  intro p e R s m args below meth c T locs k n X hx hb hown hts hK hat ls
  obtain ⟨_, _, _, _, hl0, hl1⟩ := hK.2.1 _ hw1
  cases hl0
  obtain ⟨mk, methM, hnamed, hmethM, hstM, habM⟩ := Cond.instanceMethod_spec (hts _ hw2)
  obtain ⟨methM', cM, hmethM', -, -, -, -, -, -, hsigM⟩ := Cond.code_spec hnamed (hts _ hw4)
  cases hmethM.symm.trans hmethM'
  obtain ⟨c2, r2, m2, q1, q2, q3, q4, kP, hkP, hkPi⟩ := Cond.selects_spec (hts _ hw3)
  obtain ⟨r, g0, cellB, g1, g2, g3, -⟩ := hat b0 _ hb0
  have hcls : s.vm.findClass E = some cellB.cls := by rw [g2]; exact (hK.1.1 ci _ hcl).2.1
  cases hcls.symm.trans q1
  cases (State.methodFound?_of_named hnamed hy).symm.trans q2
  cases hnamed.symm.trans q3
  have hselP : selectMethod e.platform s.vm cellB.cls mk = .method mk := by rw [Launch.admits_selectMethod X.admits]; exact q4
  have hlen : As.length = methM.sig.parameters.length := by rw [hsigM] at hn; exact (Option.some.inj hn).symm
  obtain ⟨vm₁, X₁, hstep₁⟩ := X.invokevirtualNest hx hown (va_Nw.use (A := args) rfl hl1) hnamed hmethM hstM hkP hkPi hy (a := b0) (cell := cellB) g1 (fun z q => by rw [g3] at q; cases q) hselP hmethM habM hkP hkPi (g := F0 m pc ls ((Value.ref b0 :: As).reverse ++ rest)) rfl (argsL := As) (rest := rest) hlen (by simp) (by rw [hb]; exact hd)
  exact ⟨vm₁, mk, .invokevirtual index, X₁, hnamed, hd, fun target q => hstep₁ _ fun acts => by rw [doInvoke_state]; exact q⟩
theorem qx_siteS {y : MethodName} {cY : ByteArray} {nY : Nat} {rY : Option FieldType} {index : Nat} {As rest : List Value} (hd : decode cc pc = .ok (.invokestatic index, 3)) (hw1 : Cond.methodLink own index y ∈ qu_W) (hw2 : Cond.static y ∈ qu_W) (hw3 : Cond.initialized y.cls ∈ qu_W) (hw4 : Cond.code y cY nY rY ∈ qu_W) (hy : y.cls ≠ "java/lang/invoke/MethodHandle" ∧ y.cls ≠ "java/lang/invoke/VarHandle") (hn : (parseMethodDescriptor y.desc).map (fun d => d.parameters.length) = some As.length) : qx_Site l G own cc pc y As rest h := by
  intro p e R s m args below meth c T locs k n X hx hb hown hts hK hat ls
  obtain ⟨mk, hnamed⟩ := Cond.code_named (hts _ hw4)
  obtain ⟨methM, cM, hmethM, -, -, -, -, -, -, hsigM⟩ := Cond.code_spec hnamed (hts _ hw4)
  have hstatic : methM.isStatic = true := Cond.static_spec hnamed hmethM (hts _ hw2)
  obtain ⟨kP, hkP, -⟩ := className_of_methodNamed hnamed
  have hinitP : kP.init = .initialized := Cond.initialized_spec (findClass_of_methodNamed hnamed) hkP (hts _ hw3)
  have hlen : As.length = methM.sig.parameters.length := by rw [hsigM] at hn; exact (Option.some.inj hn).symm
  obtain ⟨vm₁, X₁, hstep₁⟩ := X.invokestatic hx hown (hts _ hw1) hnamed hmethM hstatic hkP hinitP hy (g := F0 m pc ls (As.reverse ++ rest)) rfl (argsL := As) (rest := rest) hlen rfl (by rw [hb]; exact hd)
  exact ⟨vm₁, mk, .invokestatic index, X₁, hnamed, hd, fun target q => hstep₁ _ fun acts => by rw [doInvoke_state]; exact q⟩
theorem qx_siteSN {y : MethodName} {cY : ByteArray} {nY : Nat} {rY : Option FieldType} {index : Nat} {As rest : List Value} {host : String} (hd : decode cc pc = .ok (.invokestatic index, 3)) (hw1 : Cond.methodLinkNest own index y host ∈ qu_Mn) (hw2 : Cond.static y ∈ qu_W) (hw3 : Cond.initialized y.cls ∈ qu_W) (hw4 : Cond.code y cY nY rY ∈ qu_W) (hy : y.cls ≠ "java/lang/invoke/MethodHandle" ∧ y.cls ≠ "java/lang/invoke/VarHandle") (hn : (parseMethodDescriptor y.desc).map (fun d => d.parameters.length) = some As.length) : qx_Site l G own cc pc y As rest h := by
  intro p e R s m args below meth c T locs k n X hx hb hown hts hK hat ls
  obtain ⟨_, _, _, _, hl0, hl1⟩ := hK.2.1 _ hw1
  cases hl0
  obtain ⟨mk, hnamed⟩ := Cond.code_named (hts _ hw4)
  obtain ⟨methM, cM, hmethM, -, -, -, -, -, -, hsigM⟩ := Cond.code_spec hnamed (hts _ hw4)
  have hstatic : methM.isStatic = true := Cond.static_spec hnamed hmethM (hts _ hw2)
  obtain ⟨kP, hkP, -⟩ := className_of_methodNamed hnamed
  have hinitP : kP.init = .initialized := Cond.initialized_spec (findClass_of_methodNamed hnamed) hkP (hts _ hw3)
  have hlen : As.length = methM.sig.parameters.length := by rw [hsigM] at hn; exact (Option.some.inj hn).symm
  obtain ⟨vm₁, X₁, hstep₁⟩ := X.invokestaticNest hx hown (va_Nw.use (A := args) rfl hl1) hnamed hmethM hstatic hkP hinitP hy (g := F0 m pc ls (As.reverse ++ rest)) rfl (argsL := As) (rest := rest) hlen rfl (by rw [hb]; exact hd)
  exact ⟨vm₁, mk, .invokestatic index, X₁, hnamed, hd, fun target q => hstep₁ _ fun acts => by rw [doInvoke_state]; exact q⟩
theorem qx_siteI {y : MethodName} {cY : ByteArray} {nY : Nat} {index b0 : Nat} {As rest : List Value} (hd : decode cc pc = .ok (.invokespecial index, 3)) (hy1 : y.name = "<init>") (hw1 : Cond.methodLink own index y ∈ qu_W) (hw2 : Cond.instanceMethod y ∈ qu_W) (hw4 : Cond.code y cY nY none ∈ qu_W) (hy : y.cls ≠ "java/lang/invoke/MethodHandle" ∧ y.cls ≠ "java/lang/invoke/VarHandle") (hn : (parseMethodDescriptor y.desc).map (fun d => d.parameters.length) = some As.length) : qx_Site l G own cc pc y (.ref b0 :: As) rest h := by
  intro p e R s m args below meth c T locs k n X hx hb hown hts hK hat ls
  have hpl : e.platform.magicAccessors = ({} : Platform).magicAccessors := by rw [X.admits.platform]
  obtain ⟨mk, methM, cM, kP, vm₁, hnamed, hmethM, hcodeM, -, hlocalsM, -, hkP, -, hW₁, hstep₁⟩ := Steps.initColdArgs (e := e) X.here hx X.warmed hpl hown hy1 hy (hts _ hw1) (hts _ hw2) (hts _ hw4) (f := F0 m pc ls ((Value.ref b0 :: As).reverse ++ rest)) rfl (a := b0) (argsL := As) (rest := rest) (fun sig q => by rw [q] at hn; exact (Option.some.inj hn).symm) (by simp) (by rw [hb]; exact hd)
  exact ⟨vm₁, mk, .invokespecial index, X.noted hW₁, hnamed, hd, fun target q => hstep₁ _ fun acts => by rw [doInvoke_state]; exact q⟩
theorem qx_siteIN {y : MethodName} {cY : ByteArray} {nY : Nat} {index b0 : Nat} {As rest : List Value} {host : String} (hd : decode cc pc = .ok (.invokespecial index, 3)) (hy1 : y.name = "<init>") (hw1 : Cond.methodLinkNest own index y host ∈ qu_Mn) (hw2 : Cond.instanceMethod y ∈ qu_W) (hw4 : Cond.code y cY nY none ∈ qu_W) (hy : y.cls ≠ "java/lang/invoke/MethodHandle" ∧ y.cls ≠ "java/lang/invoke/VarHandle") (hn : (parseMethodDescriptor y.desc).map (fun d => d.parameters.length) = some As.length) : qx_Site l G own cc pc y (.ref b0 :: As) rest h := by
  intro p e R s m args below meth c T locs k n X hx hb hown hts hK hat ls
  obtain ⟨_, _, _, _, hl0, hl1⟩ := hK.2.1 _ hw1
  cases hl0
  have hpl : e.platform.magicAccessors = ({} : Platform).magicAccessors := by rw [X.admits.platform]
  obtain ⟨mk, methM, cM, kP, vm₁, hnamed, hmethM, hcodeM, -, hlocalsM, -, hkP, -, hW₁, hstep₁⟩ := Steps.initColdArgsNest (e := e) X.here hx X.warmed hpl hown hy1 hy (va_Nw.use (A := args) rfl hl1) (hts _ hw2) (hts _ hw4) (f := F0 m pc ls ((Value.ref b0 :: As).reverse ++ rest)) rfl (a := b0) (argsL := As) (rest := rest) (fun sig q => by rw [q] at hn; exact (Option.some.inj hn).symm) (by simp) (by rw [hb]; exact hd)
  exact ⟨vm₁, mk, .invokespecial index, X.noted hW₁, hnamed, hd, fun target q => hstep₁ _ fun acts => by rw [doInvoke_state]; exact q⟩
end QXC
end
section
/-! ints by an integer -/
def iI (a : Int) : Int32 := Int32.ofInt a
def rng (a : Int) : Prop := -2147483648 ≤ a ∧ a < 2147483648
theorem iI_toInt {a : Int} (h : rng a) : (iI a).toInt = a := Int32.toInt_ofInt_of_le h.1 h.2
theorem iI_of (x : Int32) : iI x.toInt = x := Int32.ofInt_toInt x
theorem rng_of (x : Int32) : rng x.toInt := ⟨Int32.le_toInt x, Int32.toInt_lt x⟩
theorem iI_ex (x : Int32) : ∃ a : Int, rng a ∧ x = iI a := ⟨x.toInt, rng_of x, (iI_of x).symm⟩
theorem iI_add (a b : Int) : iI a + iI b = iI (a + b) := (Int32.ofInt_add a b).symm
theorem iI_sub (a b : Int) : iI a - iI b = iI (a - b) := (Int32.ofInt_sub a b).symm
theorem iI_mul (a b : Int) : iI a * iI b = iI (a * b) := (Int32.ofInt_mul a b).symm
theorem iI_lt {a b : Int} (ha : rng a) (hb : rng b) : iI a < iI b ↔ a < b := by
  rw [Int32.lt_iff_toInt_lt, iI_toInt ha, iI_toInt hb]
theorem iI_le {a b : Int} (ha : rng a) (hb : rng b) : iI a ≤ iI b ↔ a ≤ b := by
  rw [Int32.le_iff_toInt_le, iI_toInt ha, iI_toInt hb]
theorem iI_eq {a b : Int} (ha : rng a) (hb : rng b) : iI a = iI b ↔ a = b := by
  constructor
  · intro h
    have := congrArg Int32.toInt h
    rwa [iI_toInt ha, iI_toInt hb] at this
  · rintro rfl; rfl
theorem iI_nat (n : Nat) : nI n = iI n := by
  apply Int32.toBitVec_inj.1
  show BitVec.ofNat 32 n = BitVec.ofInt 32 n
  simp
theorem iI_clamp {a : Int} (h0 : 0 ≤ a) (h1 : a < 2147483648) : (iI a).toNatClampNeg = a.toNat := by
  obtain ⟨n, rfl⟩ := Int.eq_ofNat_of_zero_le h0
  rw [← iI_nat, nI_clamp (by omega)]
  rfl
theorem iI_in {a : Int} {N : Nat} (h0 : 0 ≤ a) (h1 : a < N) (hN : N < 2147483648) : vp_in (iI a) N := by
  obtain ⟨n, rfl⟩ := Int.eq_ofNat_of_zero_le h0
  rw [← iI_nat]
  exact vp_in_nI (by omega) (by omega)
end
section
theorem d_R_init_0 : decode c_R_init 0 = .ok (.aload_n 0, 1) := by decide +kernel
theorem d_R_init_1 : decode c_R_init 1 = .ok (.invokespecial 3, 3) := by decide +kernel
theorem d_R_init_4 : decode c_R_init 4 = .ok (.aload_n 0, 1) := by decide +kernel
theorem d_R_init_5 : decode c_R_init 5 = .ok (.bipush (60), 2) := by decide +kernel
theorem d_R_init_7 : decode c_R_init 7 = .ok (.newarray .int, 2) := by decide +kernel
theorem d_R_init_9 : decode c_R_init 9 = .ok (.putfield 9, 3) := by decide +kernel
theorem d_R_init_12 : decode c_R_init 12 = .ok (.aload_n 0, 1) := by decide +kernel
theorem d_R_init_13 : decode c_R_init 13 = .ok (.bipush (60), 2) := by decide +kernel
theorem d_R_init_15 : decode c_R_init 15 = .ok (.newarray .int, 2) := by decide +kernel
theorem d_R_init_17 : decode c_R_init 17 = .ok (.putfield 15, 3) := by decide +kernel
theorem d_R_init_20 : decode c_R_init 20 = .ok (.aload_n 0, 1) := by decide +kernel
theorem d_R_init_21 : decode c_R_init 21 = .ok (.bipush (60), 2) := by decide +kernel
theorem d_R_init_23 : decode c_R_init 23 = .ok (.newarray .int, 2) := by decide +kernel
theorem d_R_init_25 : decode c_R_init 25 = .ok (.putfield 18, 3) := by decide +kernel
theorem d_R_init_28 : decode c_R_init 28 = .ok (.aload_n 0, 1) := by decide +kernel
theorem d_R_init_29 : decode c_R_init 29 = .ok (.bipush (60), 2) := by decide +kernel
theorem d_R_init_31 : decode c_R_init 31 = .ok (.newarray .int, 2) := by decide +kernel
theorem d_R_init_33 : decode c_R_init 33 = .ok (.putfield 21, 3) := by decide +kernel
theorem d_R_init_36 : decode c_R_init 36 = .ok (.aload_n 0, 1) := by decide +kernel
theorem d_R_init_37 : decode c_R_init 37 = .ok (.bipush (60), 2) := by decide +kernel
theorem d_R_init_39 : decode c_R_init 39 = .ok (.newarray .int, 2) := by decide +kernel
theorem d_R_init_41 : decode c_R_init 41 = .ok (.putfield 24, 3) := by decide +kernel
theorem d_R_init_44 : decode c_R_init 44 = .ok (.return_, 1) := by decide +kernel
theorem d_N_init_0 : decode c_N_init 0 = .ok (.aload_n 0, 1) := by decide +kernel
theorem d_N_init_1 : decode c_N_init 1 = .ok (.invokespecial 1, 3) := by decide +kernel
theorem d_N_init_4 : decode c_N_init 4 = .ok (.aload_n 0, 1) := by decide +kernel
theorem d_N_init_5 : decode c_N_init 5 = .ok (.iload_n 1, 1) := by decide +kernel
theorem d_N_init_6 : decode c_N_init 6 = .ok (.putfield 7, 3) := by decide +kernel
theorem d_N_init_9 : decode c_N_init 9 = .ok (.aload_n 0, 1) := by decide +kernel
theorem d_N_init_10 : decode c_N_init 10 = .ok (.iload_n 2, 1) := by decide +kernel
theorem d_N_init_11 : decode c_N_init 11 = .ok (.putfield 13, 3) := by decide +kernel
theorem d_N_init_14 : decode c_N_init 14 = .ok (.aload_n 0, 1) := by decide +kernel
theorem d_N_init_15 : decode c_N_init 15 = .ok (.iload_n 3, 1) := by decide +kernel
theorem d_N_init_16 : decode c_N_init 16 = .ok (.putfield 16, 3) := by decide +kernel
theorem d_N_init_19 : decode c_N_init 19 = .ok (.aload_n 0, 1) := by decide +kernel
theorem d_N_init_20 : decode c_N_init 20 = .ok (.aload 4, 2) := by decide +kernel
theorem d_N_init_22 : decode c_N_init 22 = .ok (.putfield 19, 3) := by decide +kernel
theorem d_N_init_25 : decode c_N_init 25 = .ok (.return_, 1) := by decide +kernel
theorem d_S_init_0 : decode c_S_init 0 = .ok (.aload_n 0, 1) := by decide +kernel
theorem d_S_init_1 : decode c_S_init 1 = .ok (.invokespecial 3, 3) := by decide +kernel
theorem d_S_init_4 : decode c_S_init 4 = .ok (.aload_n 0, 1) := by decide +kernel
theorem d_S_init_5 : decode c_S_init 5 = .ok (.iconst 5, 1) := by decide +kernel
theorem d_S_init_6 : decode c_S_init 6 = .ok (.newarray .int, 2) := by decide +kernel
theorem d_S_init_8 : decode c_S_init 8 = .ok (.putfield 9, 3) := by decide +kernel
theorem d_S_init_11 : decode c_S_init 11 = .ok (.aload_n 0, 1) := by decide +kernel
theorem d_S_init_12 : decode c_S_init 12 = .ok (.iconst 5, 1) := by decide +kernel
theorem d_S_init_13 : decode c_S_init 13 = .ok (.newarray .int, 2) := by decide +kernel
theorem d_S_init_15 : decode c_S_init 15 = .ok (.putfield 15, 3) := by decide +kernel
theorem d_S_init_18 : decode c_S_init 18 = .ok (.aload_n 0, 1) := by decide +kernel
theorem d_S_init_19 : decode c_S_init 19 = .ok (.iconst 5, 1) := by decide +kernel
theorem d_S_init_20 : decode c_S_init 20 = .ok (.newarray .int, 2) := by decide +kernel
theorem d_S_init_22 : decode c_S_init 22 = .ok (.putfield 18, 3) := by decide +kernel
theorem d_S_init_25 : decode c_S_init 25 = .ok (.aload_n 0, 1) := by decide +kernel
theorem d_S_init_26 : decode c_S_init 26 = .ok (.iconst 1, 1) := by decide +kernel
theorem d_S_init_27 : decode c_S_init 27 = .ok (.putfield 21, 3) := by decide +kernel
theorem d_S_init_30 : decode c_S_init 30 = .ok (.aload_n 0, 1) := by decide +kernel
theorem d_S_init_31 : decode c_S_init 31 = .ok (.iconst (-1), 1) := by decide +kernel
theorem d_S_init_32 : decode c_S_init 32 = .ok (.putfield 25, 3) := by decide +kernel
theorem d_S_init_35 : decode c_S_init 35 = .ok (.aload_n 0, 1) := by decide +kernel
theorem d_S_init_36 : decode c_S_init 36 = .ok (.iconst 0, 1) := by decide +kernel
theorem d_S_init_37 : decode c_S_init 37 = .ok (.putfield 29, 3) := by decide +kernel
theorem d_S_init_40 : decode c_S_init 40 = .ok (.aload_n 0, 1) := by decide +kernel
theorem d_S_init_41 : decode c_S_init 41 = .ok (.iload_n 1, 1) := by decide +kernel
theorem d_S_init_42 : decode c_S_init 42 = .ok (.putfield 32, 3) := by decide +kernel
theorem d_S_init_45 : decode c_S_init 45 = .ok (.aload_n 0, 1) := by decide +kernel
theorem d_S_init_46 : decode c_S_init 46 = .ok (.new 35, 3) := by decide +kernel
theorem d_S_init_49 : decode c_S_init 49 = .ok (.dup, 1) := by decide +kernel
theorem d_S_init_50 : decode c_S_init 50 = .ok (.aload_n 2, 1) := by decide +kernel
theorem d_S_init_51 : decode c_S_init 51 = .ok (.invokespecial 37, 3) := by decide +kernel
theorem d_S_init_54 : decode c_S_init 54 = .ok (.putfield 40, 3) := by decide +kernel
theorem d_S_init_57 : decode c_S_init 57 = .ok (.return_, 1) := by decide +kernel
theorem d_L_init_0 : decode c_L_init 0 = .ok (.aload_n 0, 1) := by decide +kernel
theorem d_L_init_1 : decode c_L_init 1 = .ok (.invokespecial 3, 3) := by decide +kernel
theorem d_L_init_4 : decode c_L_init 4 = .ok (.aload_n 0, 1) := by decide +kernel
theorem d_L_init_5 : decode c_L_init 5 = .ok (.bipush (48), 2) := by decide +kernel
theorem d_L_init_7 : decode c_L_init 7 = .ok (.anewarray 9, 3) := by decide +kernel
theorem d_L_init_10 : decode c_L_init 10 = .ok (.putfield 11, 3) := by decide +kernel
theorem d_L_init_13 : decode c_L_init 13 = .ok (.aload_n 0, 1) := by decide +kernel
theorem d_L_init_14 : decode c_L_init 14 = .ok (.aload_n 1, 1) := by decide +kernel
theorem d_L_init_15 : decode c_L_init 15 = .ok (.putfield 17, 3) := by decide +kernel
theorem d_L_init_18 : decode c_L_init 18 = .ok (.return_, 1) := by decide +kernel
theorem d_W_init_0 : decode c_W_init 0 = .ok (.aload_n 0, 1) := by decide +kernel
theorem d_W_init_1 : decode c_W_init 1 = .ok (.invokespecial 3, 3) := by decide +kernel
theorem d_W_init_4 : decode c_W_init 4 = .ok (.aload_n 0, 1) := by decide +kernel
theorem d_W_init_5 : decode c_W_init 5 = .ok (.bipush (49), 2) := by decide +kernel
theorem d_W_init_7 : decode c_W_init 7 = .ok (.anewarray 9, 3) := by decide +kernel
theorem d_W_init_10 : decode c_W_init 10 = .ok (.putfield 11, 3) := by decide +kernel
theorem d_W_init_13 : decode c_W_init 13 = .ok (.iconst 0, 1) := by decide +kernel
theorem d_W_init_14 : decode c_W_init 14 = .ok (.istore_n 2, 1) := by decide +kernel
theorem d_W_init_15 : decode c_W_init 15 = .ok (.iload_n 2, 1) := by decide +kernel
theorem d_W_init_16 : decode c_W_init 16 = .ok (.aload_n 0, 1) := by decide +kernel
theorem d_W_init_17 : decode c_W_init 17 = .ok (.getfield 11, 3) := by decide +kernel
theorem d_W_init_20 : decode c_W_init 20 = .ok (.arraylength, 1) := by decide +kernel
theorem d_W_init_21 : decode c_W_init 21 = .ok (.if_icmp .ge (23), 3) := by decide +kernel
theorem d_W_init_24 : decode c_W_init 24 = .ok (.aload_n 0, 1) := by decide +kernel
theorem d_W_init_25 : decode c_W_init 25 = .ok (.getfield 11, 3) := by decide +kernel
theorem d_W_init_28 : decode c_W_init 28 = .ok (.iload_n 2, 1) := by decide +kernel
theorem d_W_init_29 : decode c_W_init 29 = .ok (.new 9, 3) := by decide +kernel
theorem d_W_init_32 : decode c_W_init 32 = .ok (.dup, 1) := by decide +kernel
theorem d_W_init_33 : decode c_W_init 33 = .ok (.aload_n 1, 1) := by decide +kernel
theorem d_W_init_34 : decode c_W_init 34 = .ok (.invokespecial 17, 3) := by decide +kernel
theorem d_W_init_37 : decode c_W_init 37 = .ok (.aastore, 1) := by decide +kernel
theorem d_W_init_38 : decode c_W_init 38 = .ok (.iinc 2 (1), 3) := by decide +kernel
theorem d_W_init_41 : decode c_W_init 41 = .ok (.goto (-26), 3) := by decide +kernel
theorem d_W_init_44 : decode c_W_init 44 = .ok (.aload_n 0, 1) := by decide +kernel
theorem d_W_init_45 : decode c_W_init 45 = .ok (.new 9, 3) := by decide +kernel
theorem d_W_init_48 : decode c_W_init 48 = .ok (.dup, 1) := by decide +kernel
theorem d_W_init_49 : decode c_W_init 49 = .ok (.aload_n 1, 1) := by decide +kernel
theorem d_W_init_50 : decode c_W_init 50 = .ok (.invokespecial 17, 3) := by decide +kernel
theorem d_W_init_53 : decode c_W_init 53 = .ok (.putfield 20, 3) := by decide +kernel
theorem d_W_init_56 : decode c_W_init 56 = .ok (.return_, 1) := by decide +kernel
theorem d_M_init_0 : decode c_M_init 0 = .ok (.aload_n 0, 1) := by decide +kernel
theorem d_M_init_1 : decode c_M_init 1 = .ok (.invokespecial 3, 3) := by decide +kernel
theorem d_M_init_4 : decode c_M_init 4 = .ok (.aload_n 0, 1) := by decide +kernel
theorem d_M_init_5 : decode c_M_init 5 = .ok (.iconst 2, 1) := by decide +kernel
theorem d_M_init_6 : decode c_M_init 6 = .ok (.anewarray 9, 3) := by decide +kernel
theorem d_M_init_9 : decode c_M_init 9 = .ok (.putfield 11, 3) := by decide +kernel
theorem d_M_init_12 : decode c_M_init 12 = .ok (.aload_n 0, 1) := by decide +kernel
theorem d_M_init_13 : decode c_M_init 13 = .ok (.aload_n 1, 1) := by decide +kernel
theorem d_M_init_14 : decode c_M_init 14 = .ok (.putfield 17, 3) := by decide +kernel
theorem d_M_init_17 : decode c_M_init 17 = .ok (.return_, 1) := by decide +kernel
theorem d_S_mayAsk_0 : decode c_S_mayAsk 0 = .ok (.aload_n 0, 1) := by decide +kernel
theorem d_S_mayAsk_1 : decode c_S_mayAsk 1 = .ok (.getfield 21, 3) := by decide +kernel
theorem d_S_mayAsk_4 : decode c_S_mayAsk 4 = .ok (.ifCond .eq (44), 3) := by decide +kernel
theorem d_S_mayAsk_7 : decode c_S_mayAsk 7 = .ok (.aload_n 0, 1) := by decide +kernel
theorem d_S_mayAsk_8 : decode c_S_mayAsk 8 = .ok (.getfield 29, 3) := by decide +kernel
theorem d_S_mayAsk_11 : decode c_S_mayAsk 11 = .ok (.iconst 3, 1) := by decide +kernel
theorem d_S_mayAsk_12 : decode c_S_mayAsk 12 = .ok (.if_icmp .eq (36), 3) := by decide +kernel
theorem d_S_mayAsk_15 : decode c_S_mayAsk 15 = .ok (.aload_n 0, 1) := by decide +kernel
theorem d_S_mayAsk_16 : decode c_S_mayAsk 16 = .ok (.getfield 40, 3) := by decide +kernel
theorem d_S_mayAsk_19 : decode c_S_mayAsk 19 = .ok (.invokevirtual 44, 3) := by decide +kernel
theorem d_S_mayAsk_22 : decode c_S_mayAsk 22 = .ok (.aload_n 0, 1) := by decide +kernel
theorem d_S_mayAsk_23 : decode c_S_mayAsk 23 = .ok (.getfield 32, 3) := by decide +kernel
theorem d_S_mayAsk_26 : decode c_S_mayAsk 26 = .ok (.invokestatic 48, 3) := by decide +kernel
theorem d_S_mayAsk_29 : decode c_S_mayAsk 29 = .ok (.ifCond .eq (19), 3) := by decide +kernel
theorem d_S_mayAsk_32 : decode c_S_mayAsk 32 = .ok (.aload_n 0, 1) := by decide +kernel
theorem d_S_mayAsk_33 : decode c_S_mayAsk 33 = .ok (.getfield 40, 3) := by decide +kernel
theorem d_S_mayAsk_36 : decode c_S_mayAsk 36 = .ok (.getfield 52, 3) := by decide +kernel
theorem d_S_mayAsk_39 : decode c_S_mayAsk 39 = .ok (.bipush (40), 2) := by decide +kernel
theorem d_S_mayAsk_41 : decode c_S_mayAsk 41 = .ok (.if_icmp .ge (7), 3) := by decide +kernel
theorem d_S_mayAsk_44 : decode c_S_mayAsk 44 = .ok (.iconst 1, 1) := by decide +kernel
theorem d_S_mayAsk_45 : decode c_S_mayAsk 45 = .ok (.goto (4), 3) := by decide +kernel
theorem d_S_mayAsk_48 : decode c_S_mayAsk 48 = .ok (.iconst 0, 1) := by decide +kernel
theorem d_S_mayAsk_49 : decode c_S_mayAsk 49 = .ok (.ireturn, 1) := by decide +kernel
theorem d_L_configuration_0 : decode c_L_configuration 0 = .ok (.aload_n 0, 1) := by decide +kernel
theorem d_L_configuration_1 : decode c_L_configuration 1 = .ok (.aload_n 0, 1) := by decide +kernel
theorem d_L_configuration_2 : decode c_L_configuration 2 = .ok (.aload_n 0, 1) := by decide +kernel
theorem d_L_configuration_3 : decode c_L_configuration 3 = .ok (.invokevirtual 30, 3) := by decide +kernel
theorem d_L_configuration_6 : decode c_L_configuration 6 = .ok (.invokevirtual 49, 3) := by decide +kernel
theorem d_L_configuration_9 : decode c_L_configuration 9 = .ok (.invokevirtual 52, 3) := by decide +kernel
theorem d_L_configuration_12 : decode c_L_configuration 12 = .ok (.ireturn, 1) := by decide +kernel
theorem d_L_last_0 : decode c_L_last 0 = .ok (.aload_n 0, 1) := by decide +kernel
theorem d_L_last_1 : decode c_L_last 1 = .ok (.getfield 17, 3) := by decide +kernel
theorem d_L_last_4 : decode c_L_last 4 = .ok (.getfield 21, 3) := by decide +kernel
theorem d_L_last_7 : decode c_L_last 7 = .ok (.aload_n 0, 1) := by decide +kernel
theorem d_L_last_8 : decode c_L_last 8 = .ok (.getfield 27, 3) := by decide +kernel
theorem d_L_last_11 : decode c_L_last 11 = .ok (.iadd, 1) := by decide +kernel
theorem d_L_last_12 : decode c_L_last 12 = .ok (.ireturn, 1) := by decide +kernel
theorem d_L_latestMembersUpTo_0 : decode c_L_latestMembersUpTo 0 = .ok (.iload_n 1, 1) := by decide +kernel
theorem d_L_latestMembersUpTo_1 : decode c_L_latestMembersUpTo 1 = .ok (.istore_n 2, 1) := by decide +kernel
theorem d_L_latestMembersUpTo_2 : decode c_L_latestMembersUpTo 2 = .ok (.iload_n 2, 1) := by decide +kernel
theorem d_L_latestMembersUpTo_3 : decode c_L_latestMembersUpTo 3 = .ok (.aload_n 0, 1) := by decide +kernel
theorem d_L_latestMembersUpTo_4 : decode c_L_latestMembersUpTo 4 = .ok (.getfield 17, 3) := by decide +kernel
theorem d_L_latestMembersUpTo_7 : decode c_L_latestMembersUpTo 7 = .ok (.getfield 21, 3) := by decide +kernel
theorem d_L_latestMembersUpTo_10 : decode c_L_latestMembersUpTo 10 = .ok (.if_icmp .le (29), 3) := by decide +kernel
theorem d_L_latestMembersUpTo_13 : decode c_L_latestMembersUpTo 13 = .ok (.aload_n 0, 1) := by decide +kernel
theorem d_L_latestMembersUpTo_14 : decode c_L_latestMembersUpTo 14 = .ok (.iload_n 2, 1) := by decide +kernel
theorem d_L_latestMembersUpTo_15 : decode c_L_latestMembersUpTo 15 = .ok (.invokevirtual 41, 3) := by decide +kernel
theorem d_L_latestMembersUpTo_18 : decode c_L_latestMembersUpTo 18 = .ok (.astore_n 3, 1) := by decide +kernel
theorem d_L_latestMembersUpTo_19 : decode c_L_latestMembersUpTo 19 = .ok (.aload_n 3, 1) := by decide +kernel
theorem d_L_latestMembersUpTo_20 : decode c_L_latestMembersUpTo 20 = .ok (.ifnull (13), 3) := by decide +kernel
theorem d_L_latestMembersUpTo_23 : decode c_L_latestMembersUpTo 23 = .ok (.aload_n 3, 1) := by decide +kernel
theorem d_L_latestMembersUpTo_24 : decode c_L_latestMembersUpTo 24 = .ok (.getfield 46, 3) := by decide +kernel
theorem d_L_latestMembersUpTo_27 : decode c_L_latestMembersUpTo 27 = .ok (.iconst 2, 1) := by decide +kernel
theorem d_L_latestMembersUpTo_28 : decode c_L_latestMembersUpTo 28 = .ok (.if_icmp .ne (5), 3) := by decide +kernel
theorem d_L_latestMembersUpTo_31 : decode c_L_latestMembersUpTo 31 = .ok (.iload_n 2, 1) := by decide +kernel
theorem d_L_latestMembersUpTo_32 : decode c_L_latestMembersUpTo 32 = .ok (.ireturn, 1) := by decide +kernel
theorem d_L_latestMembersUpTo_33 : decode c_L_latestMembersUpTo 33 = .ok (.iinc 2 (-1), 3) := by decide +kernel
theorem d_L_latestMembersUpTo_36 : decode c_L_latestMembersUpTo 36 = .ok (.goto (-34), 3) := by decide +kernel
theorem d_L_latestMembersUpTo_39 : decode c_L_latestMembersUpTo 39 = .ok (.iconst (-1), 1) := by decide +kernel
theorem d_L_latestMembersUpTo_40 : decode c_L_latestMembersUpTo 40 = .ok (.ireturn, 1) := by decide +kernel
theorem d_L_find_0 : decode c_L_find 0 = .ok (.iload_n 1, 1) := by decide +kernel
theorem d_L_find_1 : decode c_L_find 1 = .ok (.aload_n 0, 1) := by decide +kernel
theorem d_L_find_2 : decode c_L_find 2 = .ok (.getfield 17, 3) := by decide +kernel
theorem d_L_find_5 : decode c_L_find 5 = .ok (.getfield 21, 3) := by decide +kernel
theorem d_L_find_8 : decode c_L_find 8 = .ok (.isub, 1) := by decide +kernel
theorem d_L_find_9 : decode c_L_find 9 = .ok (.iconst 1, 1) := by decide +kernel
theorem d_L_find_10 : decode c_L_find 10 = .ok (.isub, 1) := by decide +kernel
theorem d_L_find_11 : decode c_L_find 11 = .ok (.istore_n 2, 1) := by decide +kernel
theorem d_L_find_12 : decode c_L_find 12 = .ok (.iload_n 2, 1) := by decide +kernel
theorem d_L_find_13 : decode c_L_find 13 = .ok (.ifCond .lt (20), 3) := by decide +kernel
theorem d_L_find_16 : decode c_L_find 16 = .ok (.iload_n 2, 1) := by decide +kernel
theorem d_L_find_17 : decode c_L_find 17 = .ok (.aload_n 0, 1) := by decide +kernel
theorem d_L_find_18 : decode c_L_find 18 = .ok (.getfield 27, 3) := by decide +kernel
theorem d_L_find_21 : decode c_L_find 21 = .ok (.if_icmp .ge (12), 3) := by decide +kernel
theorem d_L_find_24 : decode c_L_find 24 = .ok (.aload_n 0, 1) := by decide +kernel
theorem d_L_find_25 : decode c_L_find 25 = .ok (.getfield 11, 3) := by decide +kernel
theorem d_L_find_28 : decode c_L_find 28 = .ok (.iload_n 2, 1) := by decide +kernel
theorem d_L_find_29 : decode c_L_find 29 = .ok (.aaload, 1) := by decide +kernel
theorem d_L_find_30 : decode c_L_find 30 = .ok (.goto (4), 3) := by decide +kernel
theorem d_L_find_33 : decode c_L_find 33 = .ok (.aconst_null, 1) := by decide +kernel
theorem d_L_find_34 : decode c_L_find 34 = .ok (.areturn, 1) := by decide +kernel
theorem d_L_membersAt_0 : decode c_L_membersAt 0 = .ok (.aload_n 0, 1) := by decide +kernel
theorem d_L_membersAt_1 : decode c_L_membersAt 1 = .ok (.iload_n 1, 1) := by decide +kernel
theorem d_L_membersAt_2 : decode c_L_membersAt 2 = .ok (.invokevirtual 41, 3) := by decide +kernel
theorem d_L_membersAt_5 : decode c_L_membersAt 5 = .ok (.astore_n 2, 1) := by decide +kernel
theorem d_L_membersAt_6 : decode c_L_membersAt 6 = .ok (.aload_n 2, 1) := by decide +kernel
theorem d_L_membersAt_7 : decode c_L_membersAt 7 = .ok (.ifnonnull (13), 3) := by decide +kernel
theorem d_L_membersAt_10 : decode c_L_membersAt 10 = .ok (.aload_n 0, 1) := by decide +kernel
theorem d_L_membersAt_11 : decode c_L_membersAt 11 = .ok (.getfield 17, 3) := by decide +kernel
theorem d_L_membersAt_14 : decode c_L_membersAt 14 = .ok (.getfield 55, 3) := by decide +kernel
theorem d_L_membersAt_17 : decode c_L_membersAt 17 = .ok (.goto (7), 3) := by decide +kernel
theorem d_L_membersAt_20 : decode c_L_membersAt 20 = .ok (.aload_n 2, 1) := by decide +kernel
theorem d_L_membersAt_21 : decode c_L_membersAt 21 = .ok (.getfield 58, 3) := by decide +kernel
theorem d_L_membersAt_24 : decode c_L_membersAt 24 = .ok (.ireturn, 1) := by decide +kernel
theorem d_W_send_0 : decode c_W_send 0 = .ok (.aload_n 0, 1) := by decide +kernel
theorem d_W_send_1 : decode c_W_send 1 = .ok (.getfield 11, 3) := by decide +kernel
theorem d_W_send_4 : decode c_W_send 4 = .ok (.aload_n 0, 1) := by decide +kernel
theorem d_W_send_5 : decode c_W_send 5 = .ok (.getfield 24, 3) := by decide +kernel
theorem d_W_send_8 : decode c_W_send 8 = .ok (.aaload, 1) := by decide +kernel
theorem d_W_send_9 : decode c_W_send 9 = .ok (.astore 5, 2) := by decide +kernel
theorem d_W_send_11 : decode c_W_send 11 = .ok (.aload 5, 2) := by decide +kernel
theorem d_W_send_13 : decode c_W_send 13 = .ok (.iload_n 1, 1) := by decide +kernel
theorem d_W_send_14 : decode c_W_send 14 = .ok (.iload_n 2, 1) := by decide +kernel
theorem d_W_send_15 : decode c_W_send 15 = .ok (.iload_n 3, 1) := by decide +kernel
theorem d_W_send_16 : decode c_W_send 16 = .ok (.iload 4, 2) := by decide +kernel
theorem d_W_send_18 : decode c_W_send 18 = .ok (.invokevirtual 28, 3) := by decide +kernel
theorem d_W_send_21 : decode c_W_send 21 = .ok (.aload_n 0, 1) := by decide +kernel
theorem d_W_send_22 : decode c_W_send 22 = .ok (.getfield 24, 3) := by decide +kernel
theorem d_W_send_25 : decode c_W_send 25 = .ok (.bipush (48), 2) := by decide +kernel
theorem d_W_send_27 : decode c_W_send 27 = .ok (.if_icmp .ge (13), 3) := by decide +kernel
theorem d_W_send_30 : decode c_W_send 30 = .ok (.aload_n 0, 1) := by decide +kernel
theorem d_W_send_31 : decode c_W_send 31 = .ok (.dup, 1) := by decide +kernel
theorem d_W_send_32 : decode c_W_send 32 = .ok (.getfield 24, 3) := by decide +kernel
theorem d_W_send_35 : decode c_W_send 35 = .ok (.iconst 1, 1) := by decide +kernel
theorem d_W_send_36 : decode c_W_send 36 = .ok (.iadd, 1) := by decide +kernel
theorem d_W_send_37 : decode c_W_send 37 = .ok (.putfield 24, 3) := by decide +kernel
theorem d_W_send_40 : decode c_W_send 40 = .ok (.aload 5, 2) := by decide +kernel
theorem d_W_send_42 : decode c_W_send 42 = .ok (.areturn, 1) := by decide +kernel
theorem d_M_begin_0 : decode c_M_begin 0 = .ok (.aload_n 0, 1) := by decide +kernel
theorem d_M_begin_1 : decode c_M_begin 1 = .ok (.iload_n 1, 1) := by decide +kernel
theorem d_M_begin_2 : decode c_M_begin 2 = .ok (.putfield 21, 3) := by decide +kernel
theorem d_M_begin_5 : decode c_M_begin 5 = .ok (.aload_n 0, 1) := by decide +kernel
theorem d_M_begin_6 : decode c_M_begin 6 = .ok (.iload_n 2, 1) := by decide +kernel
theorem d_M_begin_7 : decode c_M_begin 7 = .ok (.putfield 25, 3) := by decide +kernel
theorem d_M_begin_10 : decode c_M_begin 10 = .ok (.aload_n 0, 1) := by decide +kernel
theorem d_M_begin_11 : decode c_M_begin 11 = .ok (.iload_n 3, 1) := by decide +kernel
theorem d_M_begin_12 : decode c_M_begin 12 = .ok (.putfield 28, 3) := by decide +kernel
theorem d_M_begin_15 : decode c_M_begin 15 = .ok (.aload_n 0, 1) := by decide +kernel
theorem d_M_begin_16 : decode c_M_begin 16 = .ok (.iload 4, 2) := by decide +kernel
theorem d_M_begin_18 : decode c_M_begin 18 = .ok (.putfield 31, 3) := by decide +kernel
theorem d_M_begin_21 : decode c_M_begin 21 = .ok (.aload_n 0, 1) := by decide +kernel
theorem d_M_begin_22 : decode c_M_begin 22 = .ok (.iconst 0, 1) := by decide +kernel
theorem d_M_begin_23 : decode c_M_begin 23 = .ok (.putfield 34, 3) := by decide +kernel
theorem d_M_begin_26 : decode c_M_begin 26 = .ok (.aload_n 0, 1) := by decide +kernel
theorem d_M_begin_27 : decode c_M_begin 27 = .ok (.iconst 0, 1) := by decide +kernel
theorem d_M_begin_28 : decode c_M_begin 28 = .ok (.putfield 37, 3) := by decide +kernel
theorem d_M_begin_31 : decode c_M_begin 31 = .ok (.aload_n 0, 1) := by decide +kernel
theorem d_M_begin_32 : decode c_M_begin 32 = .ok (.iconst 0, 1) := by decide +kernel
theorem d_M_begin_33 : decode c_M_begin 33 = .ok (.putfield 40, 3) := by decide +kernel
theorem d_M_begin_36 : decode c_M_begin 36 = .ok (.aload_n 0, 1) := by decide +kernel
theorem d_M_begin_37 : decode c_M_begin 37 = .ok (.iconst 0, 1) := by decide +kernel
theorem d_M_begin_38 : decode c_M_begin 38 = .ok (.putfield 43, 3) := by decide +kernel
theorem d_M_begin_41 : decode c_M_begin 41 = .ok (.aload_n 0, 1) := by decide +kernel
theorem d_M_begin_42 : decode c_M_begin 42 = .ok (.iconst 0, 1) := by decide +kernel
theorem d_M_begin_43 : decode c_M_begin 43 = .ok (.putfield 46, 3) := by decide +kernel
theorem d_M_begin_46 : decode c_M_begin 46 = .ok (.aload_n 0, 1) := by decide +kernel
theorem d_M_begin_47 : decode c_M_begin 47 = .ok (.iconst 0, 1) := by decide +kernel
theorem d_M_begin_48 : decode c_M_begin 48 = .ok (.putfield 49, 3) := by decide +kernel
theorem d_M_begin_51 : decode c_M_begin 51 = .ok (.return_, 1) := by decide +kernel
theorem d_L_lastTerm_0 : decode c_L_lastTerm 0 = .ok (.aload_n 0, 1) := by decide +kernel
theorem d_L_lastTerm_1 : decode c_L_lastTerm 1 = .ok (.aload_n 0, 1) := by decide +kernel
theorem d_L_lastTerm_2 : decode c_L_lastTerm 2 = .ok (.invokevirtual 30, 3) := by decide +kernel
theorem d_L_lastTerm_5 : decode c_L_lastTerm 5 = .ok (.invokevirtual 34, 3) := by decide +kernel
theorem d_L_lastTerm_8 : decode c_L_lastTerm 8 = .ok (.ireturn, 1) := by decide +kernel
theorem d_L_termAt_0 : decode c_L_termAt 0 = .ok (.iload_n 1, 1) := by decide +kernel
theorem d_L_termAt_1 : decode c_L_termAt 1 = .ok (.aload_n 0, 1) := by decide +kernel
theorem d_L_termAt_2 : decode c_L_termAt 2 = .ok (.getfield 17, 3) := by decide +kernel
theorem d_L_termAt_5 : decode c_L_termAt 5 = .ok (.getfield 21, 3) := by decide +kernel
theorem d_L_termAt_8 : decode c_L_termAt 8 = .ok (.if_icmp .ne (11), 3) := by decide +kernel
theorem d_L_termAt_11 : decode c_L_termAt 11 = .ok (.aload_n 0, 1) := by decide +kernel
theorem d_L_termAt_12 : decode c_L_termAt 12 = .ok (.getfield 17, 3) := by decide +kernel
theorem d_L_termAt_15 : decode c_L_termAt 15 = .ok (.getfield 38, 3) := by decide +kernel
theorem d_L_termAt_18 : decode c_L_termAt 18 = .ok (.ireturn, 1) := by decide +kernel
theorem d_L_termAt_19 : decode c_L_termAt 19 = .ok (.aload_n 0, 1) := by decide +kernel
theorem d_L_termAt_20 : decode c_L_termAt 20 = .ok (.iload_n 1, 1) := by decide +kernel
theorem d_L_termAt_21 : decode c_L_termAt 21 = .ok (.invokevirtual 41, 3) := by decide +kernel
theorem d_L_termAt_24 : decode c_L_termAt 24 = .ok (.astore_n 2, 1) := by decide +kernel
theorem d_L_termAt_25 : decode c_L_termAt 25 = .ok (.aload_n 2, 1) := by decide +kernel
theorem d_L_termAt_26 : decode c_L_termAt 26 = .ok (.ifnonnull (7), 3) := by decide +kernel
theorem d_L_termAt_29 : decode c_L_termAt 29 = .ok (.iconst (-1), 1) := by decide +kernel
theorem d_L_termAt_30 : decode c_L_termAt 30 = .ok (.goto (7), 3) := by decide +kernel
theorem d_L_termAt_33 : decode c_L_termAt 33 = .ok (.aload_n 2, 1) := by decide +kernel
theorem d_L_termAt_34 : decode c_L_termAt 34 = .ok (.getfield 45, 3) := by decide +kernel
theorem d_L_termAt_37 : decode c_L_termAt 37 = .ok (.ireturn, 1) := by decide +kernel
theorem d_E_init_0 : decode c_E_init 0 = .ok (.aload_n 0, 1) := by decide +kernel
theorem d_E_init_1 : decode c_E_init 1 = .ok (.invokespecial 1, 3) := by decide +kernel
theorem d_E_init_4 : decode c_E_init 4 = .ok (.aload_n 0, 1) := by decide +kernel
theorem d_E_init_5 : decode c_E_init 5 = .ok (.iload_n 1, 1) := by decide +kernel
theorem d_E_init_6 : decode c_E_init 6 = .ok (.putfield 7, 3) := by decide +kernel
theorem d_E_init_9 : decode c_E_init 9 = .ok (.aload_n 0, 1) := by decide +kernel
theorem d_E_init_10 : decode c_E_init 10 = .ok (.iload_n 2, 1) := by decide +kernel
theorem d_E_init_11 : decode c_E_init 11 = .ok (.putfield 13, 3) := by decide +kernel
theorem d_E_init_14 : decode c_E_init 14 = .ok (.aload_n 0, 1) := by decide +kernel
theorem d_E_init_15 : decode c_E_init 15 = .ok (.iload_n 3, 1) := by decide +kernel
theorem d_E_init_16 : decode c_E_init 16 = .ok (.putfield 16, 3) := by decide +kernel
theorem d_E_init_19 : decode c_E_init 19 = .ok (.aload_n 0, 1) := by decide +kernel
theorem d_E_init_20 : decode c_E_init 20 = .ok (.iload 4, 2) := by decide +kernel
theorem d_E_init_22 : decode c_E_init 22 = .ok (.putfield 19, 3) := by decide +kernel
theorem d_E_init_25 : decode c_E_init 25 = .ok (.return_, 1) := by decide +kernel
theorem d_L_add_0 : decode c_L_add 0 = .ok (.aload_n 0, 1) := by decide +kernel
theorem d_L_add_1 : decode c_L_add 1 = .ok (.getfield 27, 3) := by decide +kernel
theorem d_L_add_4 : decode c_L_add 4 = .ok (.bipush (48), 2) := by decide +kernel
theorem d_L_add_6 : decode c_L_add 6 = .ok (.if_icmp .lt (5), 3) := by decide +kernel
theorem d_L_add_9 : decode c_L_add 9 = .ok (.iconst 0, 1) := by decide +kernel
theorem d_L_add_10 : decode c_L_add 10 = .ok (.ireturn, 1) := by decide +kernel
theorem d_L_add_11 : decode c_L_add 11 = .ok (.aload_n 0, 1) := by decide +kernel
theorem d_L_add_12 : decode c_L_add 12 = .ok (.getfield 11, 3) := by decide +kernel
theorem d_L_add_15 : decode c_L_add 15 = .ok (.aload_n 0, 1) := by decide +kernel
theorem d_L_add_16 : decode c_L_add 16 = .ok (.getfield 27, 3) := by decide +kernel
theorem d_L_add_19 : decode c_L_add 19 = .ok (.aload_n 1, 1) := by decide +kernel
theorem d_L_add_20 : decode c_L_add 20 = .ok (.aastore, 1) := by decide +kernel
theorem d_L_add_21 : decode c_L_add 21 = .ok (.aload_n 0, 1) := by decide +kernel
theorem d_L_add_22 : decode c_L_add 22 = .ok (.dup, 1) := by decide +kernel
theorem d_L_add_23 : decode c_L_add 23 = .ok (.getfield 27, 3) := by decide +kernel
theorem d_L_add_26 : decode c_L_add 26 = .ok (.iconst 1, 1) := by decide +kernel
theorem d_L_add_27 : decode c_L_add 27 = .ok (.iadd, 1) := by decide +kernel
theorem d_L_add_28 : decode c_L_add 28 = .ok (.putfield 27, 3) := by decide +kernel
theorem d_L_add_31 : decode c_L_add 31 = .ok (.iconst 1, 1) := by decide +kernel
theorem d_L_add_32 : decode c_L_add 32 = .ok (.ireturn, 1) := by decide +kernel
theorem d_S_holdersOf_0 : decode c_S_holdersOf 0 = .ok (.aload_n 0, 1) := by decide +kernel
theorem d_S_holdersOf_1 : decode c_S_holdersOf 1 = .ok (.aload_n 0, 1) := by decide +kernel
theorem d_S_holdersOf_2 : decode c_S_holdersOf 2 = .ok (.getfield 15, 3) := by decide +kernel
theorem d_S_holdersOf_5 : decode c_S_holdersOf 5 = .ok (.iload_n 1, 1) := by decide +kernel
theorem d_S_holdersOf_6 : decode c_S_holdersOf 6 = .ok (.invokevirtual 69, 3) := by decide +kernel
theorem d_S_holdersOf_9 : decode c_S_holdersOf 9 = .ok (.ireturn, 1) := by decide +kernel
theorem d_S_reachedBy_0 : decode c_S_reachedBy 0 = .ok (.iconst 1, 1) := by decide +kernel
theorem d_S_reachedBy_1 : decode c_S_reachedBy 1 = .ok (.aload_n 0, 1) := by decide +kernel
theorem d_S_reachedBy_2 : decode c_S_reachedBy 2 = .ok (.getfield 32, 3) := by decide +kernel
theorem d_S_reachedBy_5 : decode c_S_reachedBy 5 = .ok (.ishl, 1) := by decide +kernel
theorem d_S_reachedBy_6 : decode c_S_reachedBy 6 = .ok (.istore_n 3, 1) := by decide +kernel
theorem d_S_reachedBy_7 : decode c_S_reachedBy 7 = .ok (.iconst 0, 1) := by decide +kernel
theorem d_S_reachedBy_8 : decode c_S_reachedBy 8 = .ok (.istore 4, 2) := by decide +kernel
theorem d_S_reachedBy_10 : decode c_S_reachedBy 10 = .ok (.iload 4, 2) := by decide +kernel
theorem d_S_reachedBy_12 : decode c_S_reachedBy 12 = .ok (.iconst 5, 1) := by decide +kernel
theorem d_S_reachedBy_13 : decode c_S_reachedBy 13 = .ok (.if_icmp .ge (24), 3) := by decide +kernel
theorem d_S_reachedBy_16 : decode c_S_reachedBy 16 = .ok (.aload_n 1, 1) := by decide +kernel
theorem d_S_reachedBy_17 : decode c_S_reachedBy 17 = .ok (.iload 4, 2) := by decide +kernel
theorem d_S_reachedBy_19 : decode c_S_reachedBy 19 = .ok (.iaload, 1) := by decide +kernel
theorem d_S_reachedBy_20 : decode c_S_reachedBy 20 = .ok (.iload_n 2, 1) := by decide +kernel
theorem d_S_reachedBy_21 : decode c_S_reachedBy 21 = .ok (.if_icmp .lt (10), 3) := by decide +kernel
theorem d_S_reachedBy_24 : decode c_S_reachedBy 24 = .ok (.iload_n 3, 1) := by decide +kernel
theorem d_S_reachedBy_25 : decode c_S_reachedBy 25 = .ok (.iconst 1, 1) := by decide +kernel
theorem d_S_reachedBy_26 : decode c_S_reachedBy 26 = .ok (.iload 4, 2) := by decide +kernel
theorem d_S_reachedBy_28 : decode c_S_reachedBy 28 = .ok (.ishl, 1) := by decide +kernel
theorem d_S_reachedBy_29 : decode c_S_reachedBy 29 = .ok (.ior, 1) := by decide +kernel
theorem d_S_reachedBy_30 : decode c_S_reachedBy 30 = .ok (.istore_n 3, 1) := by decide +kernel
theorem d_S_reachedBy_31 : decode c_S_reachedBy 31 = .ok (.iinc 4 (1), 3) := by decide +kernel
theorem d_S_reachedBy_34 : decode c_S_reachedBy 34 = .ok (.goto (-24), 3) := by decide +kernel
theorem d_S_reachedBy_37 : decode c_S_reachedBy 37 = .ok (.iload_n 3, 1) := by decide +kernel
theorem d_S_reachedBy_38 : decode c_S_reachedBy 38 = .ok (.ireturn, 1) := by decide +kernel
theorem d_R_failAllOf_0 : decode c_R_failAllOf 0 = .ok (.iconst 0, 1) := by decide +kernel
theorem d_R_failAllOf_1 : decode c_R_failAllOf 1 = .ok (.istore_n 2, 1) := by decide +kernel
theorem d_R_failAllOf_2 : decode c_R_failAllOf 2 = .ok (.iload_n 2, 1) := by decide +kernel
theorem d_R_failAllOf_3 : decode c_R_failAllOf 3 = .ok (.aload_n 0, 1) := by decide +kernel
theorem d_R_failAllOf_4 : decode c_R_failAllOf 4 = .ok (.getfield 27, 3) := by decide +kernel
theorem d_R_failAllOf_7 : decode c_R_failAllOf 7 = .ok (.if_icmp .ge (25), 3) := by decide +kernel
theorem d_R_failAllOf_10 : decode c_R_failAllOf 10 = .ok (.aload_n 0, 1) := by decide +kernel
theorem d_R_failAllOf_11 : decode c_R_failAllOf 11 = .ok (.iload_n 2, 1) := by decide +kernel
theorem d_R_failAllOf_12 : decode c_R_failAllOf 12 = .ok (.iload_n 1, 1) := by decide +kernel
theorem d_R_failAllOf_13 : decode c_R_failAllOf 13 = .ok (.invokevirtual 31, 3) := by decide +kernel
theorem d_R_failAllOf_16 : decode c_R_failAllOf 16 = .ok (.ifCond .eq (10), 3) := by decide +kernel
theorem d_R_failAllOf_19 : decode c_R_failAllOf 19 = .ok (.aload_n 0, 1) := by decide +kernel
theorem d_R_failAllOf_20 : decode c_R_failAllOf 20 = .ok (.getfield 21, 3) := by decide +kernel
theorem d_R_failAllOf_23 : decode c_R_failAllOf 23 = .ok (.iload_n 2, 1) := by decide +kernel
theorem d_R_failAllOf_24 : decode c_R_failAllOf 24 = .ok (.iconst 2, 1) := by decide +kernel
theorem d_R_failAllOf_25 : decode c_R_failAllOf 25 = .ok (.iastore, 1) := by decide +kernel
theorem d_R_failAllOf_26 : decode c_R_failAllOf 26 = .ok (.iinc 2 (1), 3) := by decide +kernel
theorem d_R_failAllOf_29 : decode c_R_failAllOf 29 = .ok (.goto (-27), 3) := by decide +kernel
theorem d_R_failAllOf_32 : decode c_R_failAllOf 32 = .ok (.return_, 1) := by decide +kernel
theorem d_R_isKeptBy_0 : decode c_R_isKeptBy 0 = .ok (.aload_n 0, 1) := by decide +kernel
theorem d_R_isKeptBy_1 : decode c_R_isKeptBy 1 = .ok (.getfield 21, 3) := by decide +kernel
theorem d_R_isKeptBy_4 : decode c_R_isKeptBy 4 = .ok (.iload_n 1, 1) := by decide +kernel
theorem d_R_isKeptBy_5 : decode c_R_isKeptBy 5 = .ok (.iaload, 1) := by decide +kernel
theorem d_R_isKeptBy_6 : decode c_R_isKeptBy 6 = .ok (.ifCond .ne (17), 3) := by decide +kernel
theorem d_R_isKeptBy_9 : decode c_R_isKeptBy 9 = .ok (.aload_n 0, 1) := by decide +kernel
theorem d_R_isKeptBy_10 : decode c_R_isKeptBy 10 = .ok (.getfield 9, 3) := by decide +kernel
theorem d_R_isKeptBy_13 : decode c_R_isKeptBy 13 = .ok (.iload_n 1, 1) := by decide +kernel
theorem d_R_isKeptBy_14 : decode c_R_isKeptBy 14 = .ok (.iaload, 1) := by decide +kernel
theorem d_R_isKeptBy_15 : decode c_R_isKeptBy 15 = .ok (.iload_n 2, 1) := by decide +kernel
theorem d_R_isKeptBy_16 : decode c_R_isKeptBy 16 = .ok (.if_icmp .ne (7), 3) := by decide +kernel
theorem d_R_isKeptBy_19 : decode c_R_isKeptBy 19 = .ok (.iconst 1, 1) := by decide +kernel
theorem d_R_isKeptBy_20 : decode c_R_isKeptBy 20 = .ok (.goto (4), 3) := by decide +kernel
theorem d_R_isKeptBy_23 : decode c_R_isKeptBy 23 = .ok (.iconst 0, 1) := by decide +kernel
theorem d_R_isKeptBy_24 : decode c_R_isKeptBy 24 = .ok (.ireturn, 1) := by decide +kernel
theorem d_L_copyBehind_0 : decode c_L_copyBehind 0 = .ok (.iconst 0, 1) := by decide +kernel
theorem d_L_copyBehind_1 : decode c_L_copyBehind 1 = .ok (.istore_n 3, 1) := by decide +kernel
theorem d_L_copyBehind_2 : decode c_L_copyBehind 2 = .ok (.iload_n 3, 1) := by decide +kernel
theorem d_L_copyBehind_3 : decode c_L_copyBehind 3 = .ok (.aload_n 2, 1) := by decide +kernel
theorem d_L_copyBehind_4 : decode c_L_copyBehind 4 = .ok (.arraylength, 1) := by decide +kernel
theorem d_L_copyBehind_5 : decode c_L_copyBehind 5 = .ok (.if_icmp .ge (32), 3) := by decide +kernel
theorem d_L_copyBehind_8 : decode c_L_copyBehind 8 = .ok (.aload_n 0, 1) := by decide +kernel
theorem d_L_copyBehind_9 : decode c_L_copyBehind 9 = .ok (.iload_n 1, 1) := by decide +kernel
theorem d_L_copyBehind_10 : decode c_L_copyBehind 10 = .ok (.iconst 1, 1) := by decide +kernel
theorem d_L_copyBehind_11 : decode c_L_copyBehind 11 = .ok (.iadd, 1) := by decide +kernel
theorem d_L_copyBehind_12 : decode c_L_copyBehind 12 = .ok (.iload_n 3, 1) := by decide +kernel
theorem d_L_copyBehind_13 : decode c_L_copyBehind 13 = .ok (.iadd, 1) := by decide +kernel
theorem d_L_copyBehind_14 : decode c_L_copyBehind 14 = .ok (.invokevirtual 41, 3) := by decide +kernel
theorem d_L_copyBehind_17 : decode c_L_copyBehind 17 = .ok (.astore 4, 2) := by decide +kernel
theorem d_L_copyBehind_19 : decode c_L_copyBehind 19 = .ok (.aload 4, 2) := by decide +kernel
theorem d_L_copyBehind_21 : decode c_L_copyBehind 21 = .ok (.ifnonnull (5), 3) := by decide +kernel
theorem d_L_copyBehind_24 : decode c_L_copyBehind 24 = .ok (.iload_n 3, 1) := by decide +kernel
theorem d_L_copyBehind_25 : decode c_L_copyBehind 25 = .ok (.ireturn, 1) := by decide +kernel
theorem d_L_copyBehind_26 : decode c_L_copyBehind 26 = .ok (.aload_n 2, 1) := by decide +kernel
theorem d_L_copyBehind_27 : decode c_L_copyBehind 27 = .ok (.iload_n 3, 1) := by decide +kernel
theorem d_L_copyBehind_28 : decode c_L_copyBehind 28 = .ok (.aload 4, 2) := by decide +kernel
theorem d_L_copyBehind_30 : decode c_L_copyBehind 30 = .ok (.aastore, 1) := by decide +kernel
theorem d_L_copyBehind_31 : decode c_L_copyBehind 31 = .ok (.iinc 3 (1), 3) := by decide +kernel
theorem d_L_copyBehind_34 : decode c_L_copyBehind 34 = .ok (.goto (-32), 3) := by decide +kernel
theorem d_L_copyBehind_37 : decode c_L_copyBehind 37 = .ok (.aload_n 2, 1) := by decide +kernel
theorem d_L_copyBehind_38 : decode c_L_copyBehind 38 = .ok (.arraylength, 1) := by decide +kernel
theorem d_L_copyBehind_39 : decode c_L_copyBehind 39 = .ok (.ireturn, 1) := by decide +kernel
theorem d_S_leads_0 : decode c_S_leads 0 = .ok (.aload_n 0, 1) := by decide +kernel
theorem d_S_leads_1 : decode c_S_leads 1 = .ok (.getfield 21, 3) := by decide +kernel
theorem d_S_leads_4 : decode c_S_leads 4 = .ok (.ifCond .eq (15), 3) := by decide +kernel
theorem d_S_leads_7 : decode c_S_leads 7 = .ok (.aload_n 0, 1) := by decide +kernel
theorem d_S_leads_8 : decode c_S_leads 8 = .ok (.getfield 29, 3) := by decide +kernel
theorem d_S_leads_11 : decode c_S_leads 11 = .ok (.iconst 3, 1) := by decide +kernel
theorem d_S_leads_12 : decode c_S_leads 12 = .ok (.if_icmp .ne (7), 3) := by decide +kernel
theorem d_S_leads_15 : decode c_S_leads 15 = .ok (.iconst 1, 1) := by decide +kernel
theorem d_S_leads_16 : decode c_S_leads 16 = .ok (.goto (4), 3) := by decide +kernel
theorem d_S_leads_19 : decode c_S_leads 19 = .ok (.iconst 0, 1) := by decide +kernel
theorem d_S_leads_20 : decode c_S_leads 20 = .ok (.ireturn, 1) := by decide +kernel
theorem d_R_holds_0 : decode c_R_holds 0 = .ok (.iload_n 1, 1) := by decide +kernel
theorem d_R_holds_1 : decode c_R_holds 1 = .ok (.ifCond .lt (15), 3) := by decide +kernel
theorem d_R_holds_4 : decode c_R_holds 4 = .ok (.iload_n 1, 1) := by decide +kernel
theorem d_R_holds_5 : decode c_R_holds 5 = .ok (.aload_n 0, 1) := by decide +kernel
theorem d_R_holds_6 : decode c_R_holds 6 = .ok (.getfield 27, 3) := by decide +kernel
theorem d_R_holds_9 : decode c_R_holds 9 = .ok (.if_icmp .ge (7), 3) := by decide +kernel
theorem d_R_holds_12 : decode c_R_holds 12 = .ok (.iconst 1, 1) := by decide +kernel
theorem d_R_holds_13 : decode c_R_holds 13 = .ok (.goto (4), 3) := by decide +kernel
theorem d_R_holds_16 : decode c_R_holds 16 = .ok (.iconst 0, 1) := by decide +kernel
theorem d_R_holds_17 : decode c_R_holds 17 = .ok (.ireturn, 1) := by decide +kernel
theorem d_L_snapshotAt_0 : decode c_L_snapshotAt 0 = .ok (.iconst 4, 1) := by decide +kernel
theorem d_L_snapshotAt_1 : decode c_L_snapshotAt 1 = .ok (.newarray .int, 2) := by decide +kernel
theorem d_L_snapshotAt_3 : decode c_L_snapshotAt 3 = .ok (.astore_n 2, 1) := by decide +kernel
theorem d_L_snapshotAt_4 : decode c_L_snapshotAt 4 = .ok (.iconst 0, 1) := by decide +kernel
theorem d_L_snapshotAt_5 : decode c_L_snapshotAt 5 = .ok (.istore_n 3, 1) := by decide +kernel
theorem d_L_snapshotAt_6 : decode c_L_snapshotAt 6 = .ok (.iload_n 3, 1) := by decide +kernel
theorem d_L_snapshotAt_7 : decode c_L_snapshotAt 7 = .ok (.iconst 4, 1) := by decide +kernel
theorem d_L_snapshotAt_8 : decode c_L_snapshotAt 8 = .ok (.if_icmp .ge (18), 3) := by decide +kernel
theorem d_L_snapshotAt_11 : decode c_L_snapshotAt 11 = .ok (.aload_n 2, 1) := by decide +kernel
theorem d_L_snapshotAt_12 : decode c_L_snapshotAt 12 = .ok (.iload_n 3, 1) := by decide +kernel
theorem d_L_snapshotAt_13 : decode c_L_snapshotAt 13 = .ok (.aload_n 0, 1) := by decide +kernel
theorem d_L_snapshotAt_14 : decode c_L_snapshotAt 14 = .ok (.iload_n 1, 1) := by decide +kernel
theorem d_L_snapshotAt_15 : decode c_L_snapshotAt 15 = .ok (.iload_n 3, 1) := by decide +kernel
theorem d_L_snapshotAt_16 : decode c_L_snapshotAt 16 = .ok (.invokevirtual 93, 3) := by decide +kernel
theorem d_L_snapshotAt_19 : decode c_L_snapshotAt 19 = .ok (.iastore, 1) := by decide +kernel
theorem d_L_snapshotAt_20 : decode c_L_snapshotAt 20 = .ok (.iinc 3 (1), 3) := by decide +kernel
theorem d_L_snapshotAt_23 : decode c_L_snapshotAt 23 = .ok (.goto (-17), 3) := by decide +kernel
theorem d_L_snapshotAt_26 : decode c_L_snapshotAt 26 = .ok (.new 22, 3) := by decide +kernel
theorem d_L_snapshotAt_29 : decode c_L_snapshotAt 29 = .ok (.dup, 1) := by decide +kernel
theorem d_L_snapshotAt_30 : decode c_L_snapshotAt 30 = .ok (.iload_n 1, 1) := by decide +kernel
theorem d_L_snapshotAt_31 : decode c_L_snapshotAt 31 = .ok (.aload_n 0, 1) := by decide +kernel
theorem d_L_snapshotAt_32 : decode c_L_snapshotAt 32 = .ok (.iload_n 1, 1) := by decide +kernel
theorem d_L_snapshotAt_33 : decode c_L_snapshotAt 33 = .ok (.invokevirtual 34, 3) := by decide +kernel
theorem d_L_snapshotAt_36 : decode c_L_snapshotAt 36 = .ok (.aload_n 0, 1) := by decide +kernel
theorem d_L_snapshotAt_37 : decode c_L_snapshotAt 37 = .ok (.aload_n 0, 1) := by decide +kernel
theorem d_L_snapshotAt_38 : decode c_L_snapshotAt 38 = .ok (.iload_n 1, 1) := by decide +kernel
theorem d_L_snapshotAt_39 : decode c_L_snapshotAt 39 = .ok (.invokevirtual 49, 3) := by decide +kernel
theorem d_L_snapshotAt_42 : decode c_L_snapshotAt 42 = .ok (.invokevirtual 52, 3) := by decide +kernel
theorem d_L_snapshotAt_45 : decode c_L_snapshotAt 45 = .ok (.aload_n 2, 1) := by decide +kernel
theorem d_L_snapshotAt_46 : decode c_L_snapshotAt 46 = .ok (.invokespecial 97, 3) := by decide +kernel
theorem d_L_snapshotAt_49 : decode c_L_snapshotAt 49 = .ok (.areturn, 1) := by decide +kernel
theorem d_L_storedUpTo_0 : decode c_L_storedUpTo 0 = .ok (.iload_n 1, 1) := by decide +kernel
theorem d_L_storedUpTo_1 : decode c_L_storedUpTo 1 = .ok (.istore_n 3, 1) := by decide +kernel
theorem d_L_storedUpTo_2 : decode c_L_storedUpTo 2 = .ok (.iload_n 3, 1) := by decide +kernel
theorem d_L_storedUpTo_3 : decode c_L_storedUpTo 3 = .ok (.aload_n 0, 1) := by decide +kernel
theorem d_L_storedUpTo_4 : decode c_L_storedUpTo 4 = .ok (.getfield 17, 3) := by decide +kernel
theorem d_L_storedUpTo_7 : decode c_L_storedUpTo 7 = .ok (.getfield 21, 3) := by decide +kernel
theorem d_L_storedUpTo_10 : decode c_L_storedUpTo 10 = .ok (.if_icmp .le (45), 3) := by decide +kernel
theorem d_L_storedUpTo_13 : decode c_L_storedUpTo 13 = .ok (.aload_n 0, 1) := by decide +kernel
theorem d_L_storedUpTo_14 : decode c_L_storedUpTo 14 = .ok (.iload_n 3, 1) := by decide +kernel
theorem d_L_storedUpTo_15 : decode c_L_storedUpTo 15 = .ok (.invokevirtual 41, 3) := by decide +kernel
theorem d_L_storedUpTo_18 : decode c_L_storedUpTo 18 = .ok (.astore 4, 2) := by decide +kernel
theorem d_L_storedUpTo_20 : decode c_L_storedUpTo 20 = .ok (.aload 4, 2) := by decide +kernel
theorem d_L_storedUpTo_22 : decode c_L_storedUpTo 22 = .ok (.ifnull (27), 3) := by decide +kernel
theorem d_L_storedUpTo_25 : decode c_L_storedUpTo 25 = .ok (.aload 4, 2) := by decide +kernel
theorem d_L_storedUpTo_27 : decode c_L_storedUpTo 27 = .ok (.getfield 46, 3) := by decide +kernel
theorem d_L_storedUpTo_30 : decode c_L_storedUpTo 30 = .ok (.iconst 1, 1) := by decide +kernel
theorem d_L_storedUpTo_31 : decode c_L_storedUpTo 31 = .ok (.if_icmp .ne (18), 3) := by decide +kernel
theorem d_L_storedUpTo_34 : decode c_L_storedUpTo 34 = .ok (.aload 4, 2) := by decide +kernel
theorem d_L_storedUpTo_36 : decode c_L_storedUpTo 36 = .ok (.getfield 58, 3) := by decide +kernel
theorem d_L_storedUpTo_39 : decode c_L_storedUpTo 39 = .ok (.iload_n 2, 1) := by decide +kernel
theorem d_L_storedUpTo_40 : decode c_L_storedUpTo 40 = .ok (.if_icmp .ne (9), 3) := by decide +kernel
theorem d_L_storedUpTo_43 : decode c_L_storedUpTo 43 = .ok (.aload 4, 2) := by decide +kernel
theorem d_L_storedUpTo_45 : decode c_L_storedUpTo 45 = .ok (.getfield 61, 3) := by decide +kernel
theorem d_L_storedUpTo_48 : decode c_L_storedUpTo 48 = .ok (.ireturn, 1) := by decide +kernel
theorem d_L_storedUpTo_49 : decode c_L_storedUpTo 49 = .ok (.iinc 3 (-1), 3) := by decide +kernel
theorem d_L_storedUpTo_52 : decode c_L_storedUpTo 52 = .ok (.goto (-50), 3) := by decide +kernel
theorem d_L_storedUpTo_55 : decode c_L_storedUpTo 55 = .ok (.aload_n 0, 1) := by decide +kernel
theorem d_L_storedUpTo_56 : decode c_L_storedUpTo 56 = .ok (.getfield 17, 3) := by decide +kernel
theorem d_L_storedUpTo_59 : decode c_L_storedUpTo 59 = .ok (.getfield 64, 3) := by decide +kernel
theorem d_L_storedUpTo_62 : decode c_L_storedUpTo 62 = .ok (.iload_n 2, 1) := by decide +kernel
theorem d_L_storedUpTo_63 : decode c_L_storedUpTo 63 = .ok (.iaload, 1) := by decide +kernel
theorem d_L_storedUpTo_64 : decode c_L_storedUpTo 64 = .ok (.ireturn, 1) := by decide +kernel
theorem d_L_beginBehind_0 : decode c_L_beginBehind 0 = .ok (.aload_n 0, 1) := by decide +kernel
theorem d_L_beginBehind_1 : decode c_L_beginBehind 1 = .ok (.aload_n 1, 1) := by decide +kernel
theorem d_L_beginBehind_2 : decode c_L_beginBehind 2 = .ok (.getfield 21, 3) := by decide +kernel
theorem d_L_beginBehind_5 : decode c_L_beginBehind 5 = .ok (.invokevirtual 34, 3) := by decide +kernel
theorem d_L_beginBehind_8 : decode c_L_beginBehind 8 = .ok (.istore_n 2, 1) := by decide +kernel
theorem d_L_beginBehind_9 : decode c_L_beginBehind 9 = .ok (.iload_n 2, 1) := by decide +kernel
theorem d_L_beginBehind_10 : decode c_L_beginBehind 10 = .ok (.iconst (-1), 1) := by decide +kernel
theorem d_L_beginBehind_11 : decode c_L_beginBehind 11 = .ok (.if_icmp .eq (23), 3) := by decide +kernel
theorem d_L_beginBehind_14 : decode c_L_beginBehind 14 = .ok (.iload_n 2, 1) := by decide +kernel
theorem d_L_beginBehind_15 : decode c_L_beginBehind 15 = .ok (.aload_n 1, 1) := by decide +kernel
theorem d_L_beginBehind_16 : decode c_L_beginBehind 16 = .ok (.getfield 38, 3) := by decide +kernel
theorem d_L_beginBehind_19 : decode c_L_beginBehind 19 = .ok (.if_icmp .ne (15), 3) := by decide +kernel
theorem d_L_beginBehind_22 : decode c_L_beginBehind 22 = .ok (.aload_n 0, 1) := by decide +kernel
theorem d_L_beginBehind_23 : decode c_L_beginBehind 23 = .ok (.invokevirtual 30, 3) := by decide +kernel
theorem d_L_beginBehind_26 : decode c_L_beginBehind 26 = .ok (.aload_n 1, 1) := by decide +kernel
theorem d_L_beginBehind_27 : decode c_L_beginBehind 27 = .ok (.getfield 21, 3) := by decide +kernel
theorem d_L_beginBehind_30 : decode c_L_beginBehind 30 = .ok (.isub, 1) := by decide +kernel
theorem d_L_beginBehind_31 : decode c_L_beginBehind 31 = .ok (.goto (4), 3) := by decide +kernel
theorem d_L_beginBehind_34 : decode c_L_beginBehind 34 = .ok (.iconst 0, 1) := by decide +kernel
theorem d_L_beginBehind_35 : decode c_L_beginBehind 35 = .ok (.istore_n 3, 1) := by decide +kernel
theorem d_L_beginBehind_36 : decode c_L_beginBehind 36 = .ok (.aload_n 0, 1) := by decide +kernel
theorem d_L_beginBehind_37 : decode c_L_beginBehind 37 = .ok (.getfield 27, 3) := by decide +kernel
theorem d_L_beginBehind_40 : decode c_L_beginBehind 40 = .ok (.iload_n 3, 1) := by decide +kernel
theorem d_L_beginBehind_41 : decode c_L_beginBehind 41 = .ok (.isub, 1) := by decide +kernel
theorem d_L_beginBehind_42 : decode c_L_beginBehind 42 = .ok (.istore 4, 2) := by decide +kernel
theorem d_L_beginBehind_44 : decode c_L_beginBehind 44 = .ok (.iconst 0, 1) := by decide +kernel
theorem d_L_beginBehind_45 : decode c_L_beginBehind 45 = .ok (.istore 5, 2) := by decide +kernel
theorem d_L_beginBehind_47 : decode c_L_beginBehind 47 = .ok (.iload 5, 2) := by decide +kernel
theorem d_L_beginBehind_49 : decode c_L_beginBehind 49 = .ok (.iload_n 3, 1) := by decide +kernel
theorem d_L_beginBehind_50 : decode c_L_beginBehind 50 = .ok (.if_icmp .ge (26), 3) := by decide +kernel
theorem d_L_beginBehind_53 : decode c_L_beginBehind 53 = .ok (.aload_n 0, 1) := by decide +kernel
theorem d_L_beginBehind_54 : decode c_L_beginBehind 54 = .ok (.getfield 11, 3) := by decide +kernel
theorem d_L_beginBehind_57 : decode c_L_beginBehind 57 = .ok (.iload 5, 2) := by decide +kernel
theorem d_L_beginBehind_59 : decode c_L_beginBehind 59 = .ok (.aload_n 0, 1) := by decide +kernel
theorem d_L_beginBehind_60 : decode c_L_beginBehind 60 = .ok (.getfield 11, 3) := by decide +kernel
theorem d_L_beginBehind_63 : decode c_L_beginBehind 63 = .ok (.iload 5, 2) := by decide +kernel
theorem d_L_beginBehind_65 : decode c_L_beginBehind 65 = .ok (.iload 4, 2) := by decide +kernel
theorem d_L_beginBehind_67 : decode c_L_beginBehind 67 = .ok (.iadd, 1) := by decide +kernel
theorem d_L_beginBehind_68 : decode c_L_beginBehind 68 = .ok (.aaload, 1) := by decide +kernel
theorem d_L_beginBehind_69 : decode c_L_beginBehind 69 = .ok (.aastore, 1) := by decide +kernel
theorem d_L_beginBehind_70 : decode c_L_beginBehind 70 = .ok (.iinc 5 (1), 3) := by decide +kernel
theorem d_L_beginBehind_73 : decode c_L_beginBehind 73 = .ok (.goto (-26), 3) := by decide +kernel
theorem d_L_beginBehind_76 : decode c_L_beginBehind 76 = .ok (.aload_n 0, 1) := by decide +kernel
theorem d_L_beginBehind_77 : decode c_L_beginBehind 77 = .ok (.iload_n 3, 1) := by decide +kernel
theorem d_L_beginBehind_78 : decode c_L_beginBehind 78 = .ok (.putfield 27, 3) := by decide +kernel
theorem d_L_beginBehind_81 : decode c_L_beginBehind 81 = .ok (.aload_n 0, 1) := by decide +kernel
theorem d_L_beginBehind_82 : decode c_L_beginBehind 82 = .ok (.aload_n 1, 1) := by decide +kernel
theorem d_L_beginBehind_83 : decode c_L_beginBehind 83 = .ok (.putfield 17, 3) := by decide +kernel
theorem d_L_beginBehind_86 : decode c_L_beginBehind 86 = .ok (.return_, 1) := by decide +kernel
theorem d_W_holds_0 : decode c_W_holds 0 = .ok (.iload_n 1, 1) := by decide +kernel
theorem d_W_holds_1 : decode c_W_holds 1 = .ok (.ifCond .lt (15), 3) := by decide +kernel
theorem d_W_holds_4 : decode c_W_holds 4 = .ok (.iload_n 1, 1) := by decide +kernel
theorem d_W_holds_5 : decode c_W_holds 5 = .ok (.aload_n 0, 1) := by decide +kernel
theorem d_W_holds_6 : decode c_W_holds 6 = .ok (.getfield 24, 3) := by decide +kernel
theorem d_W_holds_9 : decode c_W_holds 9 = .ok (.if_icmp .ge (7), 3) := by decide +kernel
theorem d_W_holds_12 : decode c_W_holds 12 = .ok (.iconst 1, 1) := by decide +kernel
theorem d_W_holds_13 : decode c_W_holds 13 = .ok (.goto (4), 3) := by decide +kernel
theorem d_W_holds_16 : decode c_W_holds 16 = .ok (.iconst 0, 1) := by decide +kernel
theorem d_W_holds_17 : decode c_W_holds 17 = .ok (.ireturn, 1) := by decide +kernel
theorem d_W_take_0 : decode c_W_take 0 = .ok (.aload_n 0, 1) := by decide +kernel
theorem d_W_take_1 : decode c_W_take 1 = .ok (.getfield 20, 3) := by decide +kernel
theorem d_W_take_4 : decode c_W_take 4 = .ok (.astore_n 2, 1) := by decide +kernel
theorem d_W_take_5 : decode c_W_take 5 = .ok (.aload_n 0, 1) := by decide +kernel
theorem d_W_take_6 : decode c_W_take 6 = .ok (.aload_n 0, 1) := by decide +kernel
theorem d_W_take_7 : decode c_W_take 7 = .ok (.getfield 11, 3) := by decide +kernel
theorem d_W_take_10 : decode c_W_take 10 = .ok (.iload_n 1, 1) := by decide +kernel
theorem d_W_take_11 : decode c_W_take 11 = .ok (.aaload, 1) := by decide +kernel
theorem d_W_take_12 : decode c_W_take 12 = .ok (.putfield 20, 3) := by decide +kernel
theorem d_W_take_15 : decode c_W_take 15 = .ok (.aload_n 0, 1) := by decide +kernel
theorem d_W_take_16 : decode c_W_take 16 = .ok (.dup, 1) := by decide +kernel
theorem d_W_take_17 : decode c_W_take 17 = .ok (.getfield 24, 3) := by decide +kernel
theorem d_W_take_20 : decode c_W_take 20 = .ok (.iconst 1, 1) := by decide +kernel
theorem d_W_take_21 : decode c_W_take 21 = .ok (.isub, 1) := by decide +kernel
theorem d_W_take_22 : decode c_W_take 22 = .ok (.putfield 24, 3) := by decide +kernel
theorem d_W_take_25 : decode c_W_take 25 = .ok (.iload_n 1, 1) := by decide +kernel
theorem d_W_take_26 : decode c_W_take 26 = .ok (.istore_n 3, 1) := by decide +kernel
theorem d_W_take_27 : decode c_W_take 27 = .ok (.iload_n 3, 1) := by decide +kernel
theorem d_W_take_28 : decode c_W_take 28 = .ok (.aload_n 0, 1) := by decide +kernel
theorem d_W_take_29 : decode c_W_take 29 = .ok (.getfield 24, 3) := by decide +kernel
theorem d_W_take_32 : decode c_W_take 32 = .ok (.if_icmp .ge (23), 3) := by decide +kernel
theorem d_W_take_35 : decode c_W_take 35 = .ok (.aload_n 0, 1) := by decide +kernel
theorem d_W_take_36 : decode c_W_take 36 = .ok (.getfield 11, 3) := by decide +kernel
theorem d_W_take_39 : decode c_W_take 39 = .ok (.iload_n 3, 1) := by decide +kernel
theorem d_W_take_40 : decode c_W_take 40 = .ok (.aload_n 0, 1) := by decide +kernel
theorem d_W_take_41 : decode c_W_take 41 = .ok (.getfield 11, 3) := by decide +kernel
theorem d_W_take_44 : decode c_W_take 44 = .ok (.iload_n 3, 1) := by decide +kernel
theorem d_W_take_45 : decode c_W_take 45 = .ok (.iconst 1, 1) := by decide +kernel
theorem d_W_take_46 : decode c_W_take 46 = .ok (.iadd, 1) := by decide +kernel
theorem d_W_take_47 : decode c_W_take 47 = .ok (.aaload, 1) := by decide +kernel
theorem d_W_take_48 : decode c_W_take 48 = .ok (.aastore, 1) := by decide +kernel
theorem d_W_take_49 : decode c_W_take 49 = .ok (.iinc 3 (1), 3) := by decide +kernel
theorem d_W_take_52 : decode c_W_take 52 = .ok (.goto (-25), 3) := by decide +kernel
theorem d_W_take_55 : decode c_W_take 55 = .ok (.aload_n 0, 1) := by decide +kernel
theorem d_W_take_56 : decode c_W_take 56 = .ok (.getfield 11, 3) := by decide +kernel
theorem d_W_take_59 : decode c_W_take 59 = .ok (.aload_n 0, 1) := by decide +kernel
theorem d_W_take_60 : decode c_W_take 60 = .ok (.getfield 24, 3) := by decide +kernel
theorem d_W_take_63 : decode c_W_take 63 = .ok (.aload_n 2, 1) := by decide +kernel
theorem d_W_take_64 : decode c_W_take 64 = .ok (.aastore, 1) := by decide +kernel
theorem d_W_take_65 : decode c_W_take 65 = .ok (.aload_n 0, 1) := by decide +kernel
theorem d_W_take_66 : decode c_W_take 66 = .ok (.getfield 20, 3) := by decide +kernel
theorem d_W_take_69 : decode c_W_take 69 = .ok (.areturn, 1) := by decide +kernel
theorem d_L_isBehindOf_0 : decode c_L_isBehindOf 0 = .ok (.aload_n 0, 1) := by decide +kernel
theorem d_L_isBehindOf_1 : decode c_L_isBehindOf 1 = .ok (.invokevirtual 68, 3) := by decide +kernel
theorem d_L_isBehindOf_4 : decode c_L_isBehindOf 4 = .ok (.istore_n 2, 1) := by decide +kernel
theorem d_L_isBehindOf_5 : decode c_L_isBehindOf 5 = .ok (.aload_n 1, 1) := by decide +kernel
theorem d_L_isBehindOf_6 : decode c_L_isBehindOf 6 = .ok (.getfield 71, 3) := by decide +kernel
theorem d_L_isBehindOf_9 : decode c_L_isBehindOf 9 = .ok (.iload_n 2, 1) := by decide +kernel
theorem d_L_isBehindOf_10 : decode c_L_isBehindOf 10 = .ok (.if_icmp .lt (22), 3) := by decide +kernel
theorem d_L_isBehindOf_13 : decode c_L_isBehindOf 13 = .ok (.aload_n 1, 1) := by decide +kernel
theorem d_L_isBehindOf_14 : decode c_L_isBehindOf 14 = .ok (.getfield 71, 3) := by decide +kernel
theorem d_L_isBehindOf_17 : decode c_L_isBehindOf 17 = .ok (.iload_n 2, 1) := by decide +kernel
theorem d_L_isBehindOf_18 : decode c_L_isBehindOf 18 = .ok (.if_icmp .ne (18), 3) := by decide +kernel
theorem d_L_isBehindOf_21 : decode c_L_isBehindOf 21 = .ok (.aload_n 1, 1) := by decide +kernel
theorem d_L_isBehindOf_22 : decode c_L_isBehindOf 22 = .ok (.getfield 76, 3) := by decide +kernel
theorem d_L_isBehindOf_25 : decode c_L_isBehindOf 25 = .ok (.aload_n 0, 1) := by decide +kernel
theorem d_L_isBehindOf_26 : decode c_L_isBehindOf 26 = .ok (.invokevirtual 30, 3) := by decide +kernel
theorem d_L_isBehindOf_29 : decode c_L_isBehindOf 29 = .ok (.if_icmp .ge (7), 3) := by decide +kernel
theorem d_L_isBehindOf_32 : decode c_L_isBehindOf 32 = .ok (.iconst 1, 1) := by decide +kernel
theorem d_L_isBehindOf_33 : decode c_L_isBehindOf 33 = .ok (.goto (4), 3) := by decide +kernel
theorem d_L_isBehindOf_36 : decode c_L_isBehindOf 36 = .ok (.iconst 0, 1) := by decide +kernel
theorem d_L_isBehindOf_37 : decode c_L_isBehindOf 37 = .ok (.ireturn, 1) := by decide +kernel
theorem d_L_fitsBehind_0 : decode c_L_fitsBehind 0 = .ok (.iload_n 1, 1) := by decide +kernel
theorem d_L_fitsBehind_1 : decode c_L_fitsBehind 1 = .ok (.aload_n 0, 1) := by decide +kernel
theorem d_L_fitsBehind_2 : decode c_L_fitsBehind 2 = .ok (.invokevirtual 30, 3) := by decide +kernel
theorem d_L_fitsBehind_5 : decode c_L_fitsBehind 5 = .ok (.if_icmp .gt (27), 3) := by decide +kernel
theorem d_L_fitsBehind_8 : decode c_L_fitsBehind 8 = .ok (.iload_n 1, 1) := by decide +kernel
theorem d_L_fitsBehind_9 : decode c_L_fitsBehind 9 = .ok (.aload_n 0, 1) := by decide +kernel
theorem d_L_fitsBehind_10 : decode c_L_fitsBehind 10 = .ok (.getfield 17, 3) := by decide +kernel
theorem d_L_fitsBehind_13 : decode c_L_fitsBehind 13 = .ok (.getfield 21, 3) := by decide +kernel
theorem d_L_fitsBehind_16 : decode c_L_fitsBehind 16 = .ok (.if_icmp .lt (12), 3) := by decide +kernel
theorem d_L_fitsBehind_19 : decode c_L_fitsBehind 19 = .ok (.aload_n 0, 1) := by decide +kernel
theorem d_L_fitsBehind_20 : decode c_L_fitsBehind 20 = .ok (.iload_n 1, 1) := by decide +kernel
theorem d_L_fitsBehind_21 : decode c_L_fitsBehind 21 = .ok (.invokevirtual 34, 3) := by decide +kernel
theorem d_L_fitsBehind_24 : decode c_L_fitsBehind 24 = .ok (.iload_n 2, 1) := by decide +kernel
theorem d_L_fitsBehind_25 : decode c_L_fitsBehind 25 = .ok (.if_icmp .ne (7), 3) := by decide +kernel
theorem d_L_fitsBehind_28 : decode c_L_fitsBehind 28 = .ok (.iconst 1, 1) := by decide +kernel
theorem d_L_fitsBehind_29 : decode c_L_fitsBehind 29 = .ok (.goto (4), 3) := by decide +kernel
theorem d_L_fitsBehind_32 : decode c_L_fitsBehind 32 = .ok (.iconst 0, 1) := by decide +kernel
theorem d_L_fitsBehind_33 : decode c_L_fitsBehind 33 = .ok (.ireturn, 1) := by decide +kernel
theorem d_L_takeOver_0 : decode c_L_takeOver 0 = .ok (.iconst 0, 1) := by decide +kernel
theorem d_L_takeOver_1 : decode c_L_takeOver 1 = .ok (.istore_n 2, 1) := by decide +kernel
theorem d_L_takeOver_2 : decode c_L_takeOver 2 = .ok (.iload_n 2, 1) := by decide +kernel
theorem d_L_takeOver_3 : decode c_L_takeOver 3 = .ok (.aload_n 1, 1) := by decide +kernel
theorem d_L_takeOver_4 : decode c_L_takeOver 4 = .ok (.getfield 77, 3) := by decide +kernel
theorem d_L_takeOver_7 : decode c_L_takeOver 7 = .ok (.if_icmp .ge (47), 3) := by decide +kernel
theorem d_L_takeOver_10 : decode c_L_takeOver 10 = .ok (.aload_n 1, 1) := by decide +kernel
theorem d_L_takeOver_11 : decode c_L_takeOver 11 = .ok (.getfield 76, 3) := by decide +kernel
theorem d_L_takeOver_14 : decode c_L_takeOver 14 = .ok (.iconst 1, 1) := by decide +kernel
theorem d_L_takeOver_15 : decode c_L_takeOver 15 = .ok (.iadd, 1) := by decide +kernel
theorem d_L_takeOver_16 : decode c_L_takeOver 16 = .ok (.iload_n 2, 1) := by decide +kernel
theorem d_L_takeOver_17 : decode c_L_takeOver 17 = .ok (.iadd, 1) := by decide +kernel
theorem d_L_takeOver_18 : decode c_L_takeOver 18 = .ok (.istore_n 3, 1) := by decide +kernel
theorem d_L_takeOver_19 : decode c_L_takeOver 19 = .ok (.iload_n 3, 1) := by decide +kernel
theorem d_L_takeOver_20 : decode c_L_takeOver 20 = .ok (.aload_n 0, 1) := by decide +kernel
theorem d_L_takeOver_21 : decode c_L_takeOver 21 = .ok (.getfield 17, 3) := by decide +kernel
theorem d_L_takeOver_24 : decode c_L_takeOver 24 = .ok (.getfield 21, 3) := by decide +kernel
theorem d_L_takeOver_27 : decode c_L_takeOver 27 = .ok (.if_icmp .le (21), 3) := by decide +kernel
theorem d_L_takeOver_30 : decode c_L_takeOver 30 = .ok (.aload_n 0, 1) := by decide +kernel
theorem d_L_takeOver_31 : decode c_L_takeOver 31 = .ok (.iload_n 3, 1) := by decide +kernel
theorem d_L_takeOver_32 : decode c_L_takeOver 32 = .ok (.aload_n 1, 1) := by decide +kernel
theorem d_L_takeOver_33 : decode c_L_takeOver 33 = .ok (.getfield 80, 3) := by decide +kernel
theorem d_L_takeOver_36 : decode c_L_takeOver 36 = .ok (.iload_n 2, 1) := by decide +kernel
theorem d_L_takeOver_37 : decode c_L_takeOver 37 = .ok (.aaload, 1) := by decide +kernel
theorem d_L_takeOver_38 : decode c_L_takeOver 38 = .ok (.invokevirtual 81, 3) := by decide +kernel
theorem d_L_takeOver_41 : decode c_L_takeOver 41 = .ok (.ifCond .ne (7), 3) := by decide +kernel
theorem d_L_takeOver_44 : decode c_L_takeOver 44 = .ok (.iload_n 3, 1) := by decide +kernel
theorem d_L_takeOver_45 : decode c_L_takeOver 45 = .ok (.iconst 1, 1) := by decide +kernel
theorem d_L_takeOver_46 : decode c_L_takeOver 46 = .ok (.isub, 1) := by decide +kernel
theorem d_L_takeOver_47 : decode c_L_takeOver 47 = .ok (.ireturn, 1) := by decide +kernel
theorem d_L_takeOver_48 : decode c_L_takeOver 48 = .ok (.iinc 2 (1), 3) := by decide +kernel
theorem d_L_takeOver_51 : decode c_L_takeOver 51 = .ok (.goto (-49), 3) := by decide +kernel
theorem d_L_takeOver_54 : decode c_L_takeOver 54 = .ok (.aload_n 1, 1) := by decide +kernel
theorem d_L_takeOver_55 : decode c_L_takeOver 55 = .ok (.getfield 76, 3) := by decide +kernel
theorem d_L_takeOver_58 : decode c_L_takeOver 58 = .ok (.aload_n 1, 1) := by decide +kernel
theorem d_L_takeOver_59 : decode c_L_takeOver 59 = .ok (.getfield 77, 3) := by decide +kernel
theorem d_L_takeOver_62 : decode c_L_takeOver 62 = .ok (.iadd, 1) := by decide +kernel
theorem d_L_takeOver_63 : decode c_L_takeOver 63 = .ok (.ireturn, 1) := by decide +kernel
theorem d_L_hasOrTakes_0 : decode c_L_hasOrTakes 0 = .ok (.aload_n 0, 1) := by decide +kernel
theorem d_L_hasOrTakes_1 : decode c_L_hasOrTakes 1 = .ok (.iload_n 1, 1) := by decide +kernel
theorem d_L_hasOrTakes_2 : decode c_L_hasOrTakes 2 = .ok (.invokevirtual 34, 3) := by decide +kernel
theorem d_L_hasOrTakes_5 : decode c_L_hasOrTakes 5 = .ok (.aload_n 2, 1) := by decide +kernel
theorem d_L_hasOrTakes_6 : decode c_L_hasOrTakes 6 = .ok (.getfield 45, 3) := by decide +kernel
theorem d_L_hasOrTakes_9 : decode c_L_hasOrTakes 9 = .ok (.if_icmp .ne (5), 3) := by decide +kernel
theorem d_L_hasOrTakes_12 : decode c_L_hasOrTakes 12 = .ok (.iconst 1, 1) := by decide +kernel
theorem d_L_hasOrTakes_13 : decode c_L_hasOrTakes 13 = .ok (.ireturn, 1) := by decide +kernel
theorem d_L_hasOrTakes_14 : decode c_L_hasOrTakes 14 = .ok (.aload_n 0, 1) := by decide +kernel
theorem d_L_hasOrTakes_15 : decode c_L_hasOrTakes 15 = .ok (.iload_n 1, 1) := by decide +kernel
theorem d_L_hasOrTakes_16 : decode c_L_hasOrTakes 16 = .ok (.invokevirtual 85, 3) := by decide +kernel
theorem d_L_hasOrTakes_19 : decode c_L_hasOrTakes 19 = .ok (.aload_n 0, 1) := by decide +kernel
theorem d_L_hasOrTakes_20 : decode c_L_hasOrTakes 20 = .ok (.aload_n 2, 1) := by decide +kernel
theorem d_L_hasOrTakes_21 : decode c_L_hasOrTakes 21 = .ok (.invokevirtual 89, 3) := by decide +kernel
theorem d_L_hasOrTakes_24 : decode c_L_hasOrTakes 24 = .ok (.ireturn, 1) := by decide +kernel
theorem d_L_cutFrom_0 : decode c_L_cutFrom 0 = .ok (.iload_n 1, 1) := by decide +kernel
theorem d_L_cutFrom_1 : decode c_L_cutFrom 1 = .ok (.aload_n 0, 1) := by decide +kernel
theorem d_L_cutFrom_2 : decode c_L_cutFrom 2 = .ok (.getfield 17, 3) := by decide +kernel
theorem d_L_cutFrom_5 : decode c_L_cutFrom 5 = .ok (.getfield 21, 3) := by decide +kernel
theorem d_L_cutFrom_8 : decode c_L_cutFrom 8 = .ok (.isub, 1) := by decide +kernel
theorem d_L_cutFrom_9 : decode c_L_cutFrom 9 = .ok (.iconst 1, 1) := by decide +kernel
theorem d_L_cutFrom_10 : decode c_L_cutFrom 10 = .ok (.isub, 1) := by decide +kernel
theorem d_L_cutFrom_11 : decode c_L_cutFrom 11 = .ok (.istore_n 2, 1) := by decide +kernel
theorem d_L_cutFrom_12 : decode c_L_cutFrom 12 = .ok (.iload_n 2, 1) := by decide +kernel
theorem d_L_cutFrom_13 : decode c_L_cutFrom 13 = .ok (.ifCond .lt (16), 3) := by decide +kernel
theorem d_L_cutFrom_16 : decode c_L_cutFrom 16 = .ok (.iload_n 2, 1) := by decide +kernel
theorem d_L_cutFrom_17 : decode c_L_cutFrom 17 = .ok (.aload_n 0, 1) := by decide +kernel
theorem d_L_cutFrom_18 : decode c_L_cutFrom 18 = .ok (.getfield 27, 3) := by decide +kernel
theorem d_L_cutFrom_21 : decode c_L_cutFrom 21 = .ok (.if_icmp .ge (8), 3) := by decide +kernel
theorem d_L_cutFrom_24 : decode c_L_cutFrom 24 = .ok (.aload_n 0, 1) := by decide +kernel
theorem d_L_cutFrom_25 : decode c_L_cutFrom 25 = .ok (.iload_n 2, 1) := by decide +kernel
theorem d_L_cutFrom_26 : decode c_L_cutFrom 26 = .ok (.putfield 27, 3) := by decide +kernel
theorem d_L_cutFrom_29 : decode c_L_cutFrom 29 = .ok (.return_, 1) := by decide +kernel
theorem d_S_confirmersOf_0 : decode c_S_confirmersOf 0 = .ok (.aload_n 0, 1) := by decide +kernel
theorem d_S_confirmersOf_1 : decode c_S_confirmersOf 1 = .ok (.aload_n 0, 1) := by decide +kernel
theorem d_S_confirmersOf_2 : decode c_S_confirmersOf 2 = .ok (.getfield 18, 3) := by decide +kernel
theorem d_S_confirmersOf_5 : decode c_S_confirmersOf 5 = .ok (.iload_n 1, 1) := by decide +kernel
theorem d_S_confirmersOf_6 : decode c_S_confirmersOf 6 = .ok (.invokevirtual 69, 3) := by decide +kernel
theorem d_S_confirmersOf_9 : decode c_S_confirmersOf 9 = .ok (.ireturn, 1) := by decide +kernel
theorem d_S_storedNow_0 : decode c_S_storedNow 0 = .ok (.aload_n 0, 1) := by decide +kernel
theorem d_S_storedNow_1 : decode c_S_storedNow 1 = .ok (.getfield 40, 3) := by decide +kernel
theorem d_S_storedNow_4 : decode c_S_storedNow 4 = .ok (.aload_n 0, 1) := by decide +kernel
theorem d_S_storedNow_5 : decode c_S_storedNow 5 = .ok (.getfield 55, 3) := by decide +kernel
theorem d_S_storedNow_8 : decode c_S_storedNow 8 = .ok (.iload_n 1, 1) := by decide +kernel
theorem d_S_storedNow_9 : decode c_S_storedNow 9 = .ok (.invokevirtual 65, 3) := by decide +kernel
theorem d_S_storedNow_12 : decode c_S_storedNow 12 = .ok (.ireturn, 1) := by decide +kernel
theorem d_S_hasCommitOfItsTerm_0 : decode c_S_hasCommitOfItsTerm 0 = .ok (.aload_n 0, 1) := by decide +kernel
theorem d_S_hasCommitOfItsTerm_1 : decode c_S_hasCommitOfItsTerm 1 = .ok (.getfield 40, 3) := by decide +kernel
theorem d_S_hasCommitOfItsTerm_4 : decode c_S_hasCommitOfItsTerm 4 = .ok (.aload_n 0, 1) := by decide +kernel
theorem d_S_hasCommitOfItsTerm_5 : decode c_S_hasCommitOfItsTerm 5 = .ok (.getfield 55, 3) := by decide +kernel
theorem d_S_hasCommitOfItsTerm_8 : decode c_S_hasCommitOfItsTerm 8 = .ok (.invokevirtual 58, 3) := by decide +kernel
theorem d_S_hasCommitOfItsTerm_11 : decode c_S_hasCommitOfItsTerm 11 = .ok (.aload_n 0, 1) := by decide +kernel
theorem d_S_hasCommitOfItsTerm_12 : decode c_S_hasCommitOfItsTerm 12 = .ok (.getfield 62, 3) := by decide +kernel
theorem d_S_hasCommitOfItsTerm_15 : decode c_S_hasCommitOfItsTerm 15 = .ok (.if_icmp .ne (7), 3) := by decide +kernel
theorem d_S_hasCommitOfItsTerm_18 : decode c_S_hasCommitOfItsTerm 18 = .ok (.iconst 1, 1) := by decide +kernel
theorem d_S_hasCommitOfItsTerm_19 : decode c_S_hasCommitOfItsTerm 19 = .ok (.goto (4), 3) := by decide +kernel
theorem d_S_hasCommitOfItsTerm_22 : decode c_S_hasCommitOfItsTerm 22 = .ok (.iconst 0, 1) := by decide +kernel
theorem d_S_hasCommitOfItsTerm_23 : decode c_S_hasCommitOfItsTerm 23 = .ok (.ireturn, 1) := by decide +kernel
theorem d_R_keptBy_0 : decode c_R_keptBy 0 = .ok (.iconst 0, 1) := by decide +kernel
theorem d_R_keptBy_1 : decode c_R_keptBy 1 = .ok (.istore_n 2, 1) := by decide +kernel
theorem d_R_keptBy_2 : decode c_R_keptBy 2 = .ok (.iconst 0, 1) := by decide +kernel
theorem d_R_keptBy_3 : decode c_R_keptBy 3 = .ok (.istore_n 3, 1) := by decide +kernel
theorem d_R_keptBy_4 : decode c_R_keptBy 4 = .ok (.iload_n 3, 1) := by decide +kernel
theorem d_R_keptBy_5 : decode c_R_keptBy 5 = .ok (.aload_n 0, 1) := by decide +kernel
theorem d_R_keptBy_6 : decode c_R_keptBy 6 = .ok (.getfield 27, 3) := by decide +kernel
theorem d_R_keptBy_9 : decode c_R_keptBy 9 = .ok (.if_icmp .ge (21), 3) := by decide +kernel
theorem d_R_keptBy_12 : decode c_R_keptBy 12 = .ok (.aload_n 0, 1) := by decide +kernel
theorem d_R_keptBy_13 : decode c_R_keptBy 13 = .ok (.iload_n 3, 1) := by decide +kernel
theorem d_R_keptBy_14 : decode c_R_keptBy 14 = .ok (.iload_n 1, 1) := by decide +kernel
theorem d_R_keptBy_15 : decode c_R_keptBy 15 = .ok (.invokevirtual 31, 3) := by decide +kernel
theorem d_R_keptBy_18 : decode c_R_keptBy 18 = .ok (.ifCond .eq (6), 3) := by decide +kernel
theorem d_R_keptBy_21 : decode c_R_keptBy 21 = .ok (.iinc 2 (1), 3) := by decide +kernel
theorem d_R_keptBy_24 : decode c_R_keptBy 24 = .ok (.iinc 3 (1), 3) := by decide +kernel
theorem d_R_keptBy_27 : decode c_R_keptBy 27 = .ok (.goto (-23), 3) := by decide +kernel
theorem d_R_keptBy_30 : decode c_R_keptBy 30 = .ok (.iload_n 2, 1) := by decide +kernel
theorem d_R_keptBy_31 : decode c_R_keptBy 31 = .ok (.ireturn, 1) := by decide +kernel
theorem d_R_keep_0 : decode c_R_keep 0 = .ok (.aload_n 0, 1) := by decide +kernel
theorem d_R_keep_1 : decode c_R_keep 1 = .ok (.getfield 27, 3) := by decide +kernel
theorem d_R_keep_4 : decode c_R_keep 4 = .ok (.istore 4, 2) := by decide +kernel
theorem d_R_keep_6 : decode c_R_keep 6 = .ok (.iload 4, 2) := by decide +kernel
theorem d_R_keep_8 : decode c_R_keep 8 = .ok (.bipush (60), 2) := by decide +kernel
theorem d_R_keep_10 : decode c_R_keep 10 = .ok (.if_icmp .ge (37), 3) := by decide +kernel
theorem d_R_keep_13 : decode c_R_keep 13 = .ok (.aload_n 0, 1) := by decide +kernel
theorem d_R_keep_14 : decode c_R_keep 14 = .ok (.getfield 9, 3) := by decide +kernel
theorem d_R_keep_17 : decode c_R_keep 17 = .ok (.iload 4, 2) := by decide +kernel
theorem d_R_keep_19 : decode c_R_keep 19 = .ok (.iload_n 1, 1) := by decide +kernel
theorem d_R_keep_20 : decode c_R_keep 20 = .ok (.iastore, 1) := by decide +kernel
theorem d_R_keep_21 : decode c_R_keep 21 = .ok (.aload_n 0, 1) := by decide +kernel
theorem d_R_keep_22 : decode c_R_keep 22 = .ok (.getfield 15, 3) := by decide +kernel
theorem d_R_keep_25 : decode c_R_keep 25 = .ok (.iload 4, 2) := by decide +kernel
theorem d_R_keep_27 : decode c_R_keep 27 = .ok (.iload_n 2, 1) := by decide +kernel
theorem d_R_keep_28 : decode c_R_keep 28 = .ok (.iastore, 1) := by decide +kernel
theorem d_R_keep_29 : decode c_R_keep 29 = .ok (.aload_n 0, 1) := by decide +kernel
theorem d_R_keep_30 : decode c_R_keep 30 = .ok (.getfield 18, 3) := by decide +kernel
theorem d_R_keep_33 : decode c_R_keep 33 = .ok (.iload 4, 2) := by decide +kernel
theorem d_R_keep_35 : decode c_R_keep 35 = .ok (.iload_n 3, 1) := by decide +kernel
theorem d_R_keep_36 : decode c_R_keep 36 = .ok (.iastore, 1) := by decide +kernel
theorem d_R_keep_37 : decode c_R_keep 37 = .ok (.aload_n 0, 1) := by decide +kernel
theorem d_R_keep_38 : decode c_R_keep 38 = .ok (.dup, 1) := by decide +kernel
theorem d_R_keep_39 : decode c_R_keep 39 = .ok (.getfield 27, 3) := by decide +kernel
theorem d_R_keep_42 : decode c_R_keep 42 = .ok (.iconst 1, 1) := by decide +kernel
theorem d_R_keep_43 : decode c_R_keep 43 = .ok (.iadd, 1) := by decide +kernel
theorem d_R_keep_44 : decode c_R_keep 44 = .ok (.putfield 27, 3) := by decide +kernel
theorem d_R_keep_47 : decode c_R_keep 47 = .ok (.iload 4, 2) := by decide +kernel
theorem d_R_keep_49 : decode c_R_keep 49 = .ok (.ireturn, 1) := by decide +kernel
theorem d_I_bitCount_0 : decode c_I_bitCount 0 = .ok (.iload_n 0, 1) := by decide +kernel
theorem d_I_bitCount_1 : decode c_I_bitCount 1 = .ok (.iload_n 0, 1) := by decide +kernel
theorem d_I_bitCount_2 : decode c_I_bitCount 2 = .ok (.iconst 1, 1) := by decide +kernel
theorem d_I_bitCount_3 : decode c_I_bitCount 3 = .ok (.iushr, 1) := by decide +kernel
theorem d_I_bitCount_4 : decode c_I_bitCount 4 = .ok (.ldc_w 265, 3) := by decide +kernel
theorem d_I_bitCount_7 : decode c_I_bitCount 7 = .ok (.iand, 1) := by decide +kernel
theorem d_I_bitCount_8 : decode c_I_bitCount 8 = .ok (.isub, 1) := by decide +kernel
theorem d_I_bitCount_9 : decode c_I_bitCount 9 = .ok (.istore_n 0, 1) := by decide +kernel
theorem d_I_bitCount_10 : decode c_I_bitCount 10 = .ok (.iload_n 0, 1) := by decide +kernel
theorem d_I_bitCount_11 : decode c_I_bitCount 11 = .ok (.ldc_w 266, 3) := by decide +kernel
theorem d_I_bitCount_14 : decode c_I_bitCount 14 = .ok (.iand, 1) := by decide +kernel
theorem d_I_bitCount_15 : decode c_I_bitCount 15 = .ok (.iload_n 0, 1) := by decide +kernel
theorem d_I_bitCount_16 : decode c_I_bitCount 16 = .ok (.iconst 2, 1) := by decide +kernel
theorem d_I_bitCount_17 : decode c_I_bitCount 17 = .ok (.iushr, 1) := by decide +kernel
theorem d_I_bitCount_18 : decode c_I_bitCount 18 = .ok (.ldc_w 266, 3) := by decide +kernel
theorem d_I_bitCount_21 : decode c_I_bitCount 21 = .ok (.iand, 1) := by decide +kernel
theorem d_I_bitCount_22 : decode c_I_bitCount 22 = .ok (.iadd, 1) := by decide +kernel
theorem d_I_bitCount_23 : decode c_I_bitCount 23 = .ok (.istore_n 0, 1) := by decide +kernel
theorem d_I_bitCount_24 : decode c_I_bitCount 24 = .ok (.iload_n 0, 1) := by decide +kernel
theorem d_I_bitCount_25 : decode c_I_bitCount 25 = .ok (.iload_n 0, 1) := by decide +kernel
theorem d_I_bitCount_26 : decode c_I_bitCount 26 = .ok (.iconst 4, 1) := by decide +kernel
theorem d_I_bitCount_27 : decode c_I_bitCount 27 = .ok (.iushr, 1) := by decide +kernel
theorem d_I_bitCount_28 : decode c_I_bitCount 28 = .ok (.iadd, 1) := by decide +kernel
theorem d_I_bitCount_29 : decode c_I_bitCount 29 = .ok (.ldc_w 267, 3) := by decide +kernel
theorem d_I_bitCount_32 : decode c_I_bitCount 32 = .ok (.iand, 1) := by decide +kernel
theorem d_I_bitCount_33 : decode c_I_bitCount 33 = .ok (.istore_n 0, 1) := by decide +kernel
theorem d_I_bitCount_34 : decode c_I_bitCount 34 = .ok (.iload_n 0, 1) := by decide +kernel
theorem d_I_bitCount_35 : decode c_I_bitCount 35 = .ok (.iload_n 0, 1) := by decide +kernel
theorem d_I_bitCount_36 : decode c_I_bitCount 36 = .ok (.bipush (8), 2) := by decide +kernel
theorem d_I_bitCount_38 : decode c_I_bitCount 38 = .ok (.iushr, 1) := by decide +kernel
theorem d_I_bitCount_39 : decode c_I_bitCount 39 = .ok (.iadd, 1) := by decide +kernel
theorem d_I_bitCount_40 : decode c_I_bitCount 40 = .ok (.istore_n 0, 1) := by decide +kernel
theorem d_I_bitCount_41 : decode c_I_bitCount 41 = .ok (.iload_n 0, 1) := by decide +kernel
theorem d_I_bitCount_42 : decode c_I_bitCount 42 = .ok (.iload_n 0, 1) := by decide +kernel
theorem d_I_bitCount_43 : decode c_I_bitCount 43 = .ok (.bipush (16), 2) := by decide +kernel
theorem d_I_bitCount_45 : decode c_I_bitCount 45 = .ok (.iushr, 1) := by decide +kernel
theorem d_I_bitCount_46 : decode c_I_bitCount 46 = .ok (.iadd, 1) := by decide +kernel
theorem d_I_bitCount_47 : decode c_I_bitCount 47 = .ok (.istore_n 0, 1) := by decide +kernel
theorem d_I_bitCount_48 : decode c_I_bitCount 48 = .ok (.iload_n 0, 1) := by decide +kernel
theorem d_I_bitCount_49 : decode c_I_bitCount 49 = .ok (.bipush (63), 2) := by decide +kernel
theorem d_I_bitCount_51 : decode c_I_bitCount 51 = .ok (.iand, 1) := by decide +kernel
theorem d_I_bitCount_52 : decode c_I_bitCount 52 = .ok (.ireturn, 1) := by decide +kernel
theorem d_H_min_0 : decode c_H_min 0 = .ok (.iload_n 0, 1) := by decide +kernel
theorem d_H_min_1 : decode c_H_min 1 = .ok (.iload_n 1, 1) := by decide +kernel
theorem d_H_min_2 : decode c_H_min 2 = .ok (.if_icmp .gt (7), 3) := by decide +kernel
theorem d_H_min_5 : decode c_H_min 5 = .ok (.iload_n 0, 1) := by decide +kernel
theorem d_H_min_6 : decode c_H_min 6 = .ok (.goto (4), 3) := by decide +kernel
theorem d_H_min_9 : decode c_H_min 9 = .ok (.iload_n 1, 1) := by decide +kernel
theorem d_H_min_10 : decode c_H_min 10 = .ok (.ireturn, 1) := by decide +kernel
theorem d_H_max_0 : decode c_H_max 0 = .ok (.iload_n 0, 1) := by decide +kernel
theorem d_H_max_1 : decode c_H_max 1 = .ok (.iload_n 1, 1) := by decide +kernel
theorem d_H_max_2 : decode c_H_max 2 = .ok (.if_icmp .lt (7), 3) := by decide +kernel
theorem d_H_max_5 : decode c_H_max 5 = .ok (.iload_n 0, 1) := by decide +kernel
theorem d_H_max_6 : decode c_H_max 6 = .ok (.goto (4), 3) := by decide +kernel
theorem d_H_max_9 : decode c_H_max 9 = .ok (.iload_n 1, 1) := by decide +kernel
theorem d_H_max_10 : decode c_H_max 10 = .ok (.ireturn, 1) := by decide +kernel
theorem oi_R_3 : Cond.methodLink "QuorumLog$Reads" 3 Lib.objectInit ∈ qu_W := qm_33
theorem fp_R_9 : qx_FP "QuorumLog$Reads" 9 4 0 (.array .int) true := ⟨"QuorumLog$Reads", T_R, 6, t_R, rfl, by decide, uw_R, qm_34, k_R, n_R, by decide +kernel, rfl, fun _ => rfl⟩
theorem fp_R_15 : qx_FP "QuorumLog$Reads" 15 4 1 (.array .int) true := ⟨"QuorumLog$Reads", T_R, 6, t_R, rfl, by decide, uw_R, qm_35, k_R, n_R, by decide +kernel, rfl, fun _ => rfl⟩
theorem fp_R_18 : qx_FP "QuorumLog$Reads" 18 4 2 (.array .int) true := ⟨"QuorumLog$Reads", T_R, 6, t_R, rfl, by decide, uw_R, qm_37, k_R, n_R, by decide +kernel, rfl, fun _ => rfl⟩
theorem fp_R_21 : qx_FP "QuorumLog$Reads" 21 4 3 (.array .int) true := ⟨"QuorumLog$Reads", T_R, 6, t_R, rfl, by decide, uw_R, qm_39, k_R, n_R, by decide +kernel, rfl, fun _ => rfl⟩
theorem fp_R_24 : qx_FP "QuorumLog$Reads" 24 4 4 (.array .int) true := ⟨"QuorumLog$Reads", T_R, 6, t_R, rfl, by decide, uw_R, qm_41, k_R, n_R, by decide +kernel, rfl, fun _ => rfl⟩
theorem oi_N_1 : Cond.methodLink "QuorumLog$Snapshot" 1 Lib.objectInit ∈ qu_W := qm_64
theorem fp_N_7 : qx_FP "QuorumLog$Snapshot" 7 7 0 (.int) true := ⟨"QuorumLog$Snapshot", T_N, 4, t_N, rfl, by decide, uw_N, qm_65, k_N, n_N, by decide +kernel, rfl, fun _ => rfl⟩
theorem fp_N_13 : qx_FP "QuorumLog$Snapshot" 13 7 1 (.int) true := ⟨"QuorumLog$Snapshot", T_N, 4, t_N, rfl, by decide, uw_N, qm_68, k_N, n_N, by decide +kernel, rfl, fun _ => rfl⟩
theorem fp_N_16 : qx_FP "QuorumLog$Snapshot" 16 7 2 (.int) true := ⟨"QuorumLog$Snapshot", T_N, 4, t_N, rfl, by decide, uw_N, qm_70, k_N, n_N, by decide +kernel, rfl, fun _ => rfl⟩
theorem fp_N_19 : qx_FP "QuorumLog$Snapshot" 19 7 3 (.array .int) true := ⟨"QuorumLog$Snapshot", T_N, 4, t_N, rfl, by decide, uw_N, qm_72, k_N, n_N, by decide +kernel, rfl, fun _ => rfl⟩
theorem oi_S_3 : Cond.methodLink "QuorumLog$Server" 3 Lib.objectInit ∈ qu_W := qm_87
theorem fp_S_9 : qx_FP "QuorumLog$Server" 9 6 2 (.array .int) true := ⟨"QuorumLog$Server", T_S, 13, t_S, rfl, by decide, uw_S, qm_113, k_S, n_S, by decide +kernel, rfl, fun _ => rfl⟩
theorem fp_S_15 : qx_FP "QuorumLog$Server" 15 6 3 (.array .int) true := ⟨"QuorumLog$Server", T_S, 13, t_S, rfl, by decide, uw_S, qm_115, k_S, n_S, by decide +kernel, rfl, fun _ => rfl⟩
theorem fp_S_18 : qx_FP "QuorumLog$Server" 18 6 4 (.array .int) true := ⟨"QuorumLog$Server", T_S, 13, t_S, rfl, by decide, uw_S, qm_117, k_S, n_S, by decide +kernel, rfl, fun _ => rfl⟩
theorem fp_S_21 : qx_FP "QuorumLog$Server" 21 6 5 (.boolean) false := ⟨"QuorumLog$Server", T_S, 13, t_S, rfl, by decide, uw_S, qm_119, k_S, n_S, by decide +kernel, rfl, fun _ => by contradiction⟩
theorem fp_S_25 : qx_FP "QuorumLog$Server" 25 6 8 (.int) false := ⟨"QuorumLog$Server", T_S, 13, t_S, rfl, by decide, uw_S, qm_124, k_S, n_S, by decide +kernel, rfl, fun _ => by contradiction⟩
theorem fp_S_29 : qx_FP "QuorumLog$Server" 29 6 9 (.int) false := ⟨"QuorumLog$Server", T_S, 13, t_S, rfl, by decide, uw_S, qm_126, k_S, n_S, by decide +kernel, rfl, fun _ => by contradiction⟩
theorem fp_S_32 : qx_FP "QuorumLog$Server" 32 6 0 (.int) true := ⟨"QuorumLog$Server", T_S, 13, t_S, rfl, by decide, uw_S, qm_109, k_S, n_S, by decide +kernel, rfl, fun _ => rfl⟩
theorem nw_S_35 : qx_NW "QuorumLog$Server" 35 2 [.null, .null, .int 0] 3 := ⟨"QuorumLog$Log", T_L, t_L, rfl, uw_L, k_L, fun j hj => by revert j; decide +kernel, qm_88, qm_89, qm_5⟩
theorem s_S_init_51 {l : Launch} {G : qh_G} {h : qh_H} {b0 : Nat} {rest : List Value} {v0 : Value} : qx_Site l G "QuorumLog$Server" c_S_init 51 y_L_init (.ref b0 :: [v0]) rest h := qx_siteI (As := [v0]) d_S_init_51 rfl qm_90 qm_91 w_L_init.1 (by decide) p_L_init
theorem fp_S_40 : qx_FP "QuorumLog$Server" 40 6 1 (.object "QuorumLog$Log") true := ⟨"QuorumLog$Server", T_S, 13, t_S, rfl, by decide, uw_S, qm_111, k_S, n_S, by decide +kernel, rfl, fun _ => rfl⟩
theorem oi_L_3 : Cond.methodLink "QuorumLog$Log" 3 Lib.objectInit ∈ qu_W := qm_93
theorem cl_L_9 : Cond.classLink "QuorumLog$Log" 9 "QuorumLog$Entry" ∈ qu_W := qm_94
theorem fp_L_11 : qx_FP "QuorumLog$Log" 11 2 1 (.array (.object "QuorumLog$Entry")) true := ⟨"QuorumLog$Log", T_L, 3, t_L, rfl, by decide, uw_L, qm_98, k_L, n_L, by decide +kernel, rfl, fun _ => rfl⟩
theorem fp_L_17 : qx_FP "QuorumLog$Log" 17 2 0 (.object "QuorumLog$Snapshot") false := ⟨"QuorumLog$Log", T_L, 3, t_L, rfl, by decide, uw_L, qm_96, k_L, n_L, by decide +kernel, rfl, fun _ => by contradiction⟩
theorem oi_W_3 : Cond.methodLink "QuorumLog$Row" 3 Lib.objectInit ∈ qu_W := qm_164
theorem cl_W_9 : Cond.classLink "QuorumLog$Row" 9 "QuorumLog$Message" ∈ qu_W := qm_165
theorem fp_W_11 : qx_FP "QuorumLog$Row" 11 5 0 (.array (.object "QuorumLog$Message")) true := ⟨"QuorumLog$Row", T_W, 3, t_W, rfl, by decide, uw_W, qm_226, k_W, n_W, by decide +kernel, rfl, fun _ => rfl⟩
theorem fl_W_11 : qx_FL "QuorumLog$Row" 11 5 0 := ⟨"QuorumLog$Row", T_W, 3, rfl, by decide, uw_W, qm_226⟩
theorem nw_W_9 : qx_NW "QuorumLog$Row" 9 3 [.null, .int 0, .int 0, .int 0, .int 0, .int 0, .int 0, .int 0, .int 0, .int 0, .int 0, .null] 12 := ⟨"QuorumLog$Message", T_M, t_M, rfl, uw_M, k_M, fun j hj => by revert j; decide +kernel, qm_165, qm_167, qm_7⟩
theorem s_W_init_34 {l : Launch} {G : qh_G} {h : qh_H} {b0 : Nat} {rest : List Value} {v0 : Value} : qx_Site l G "QuorumLog$Row" c_W_init 34 y_M_init (.ref b0 :: [v0]) rest h := qx_siteI (As := [v0]) d_W_init_34 rfl qm_168 qm_169 w_M_init.1 (by decide) p_M_init
theorem s_W_init_50 {l : Launch} {G : qh_G} {h : qh_H} {b0 : Nat} {rest : List Value} {v0 : Value} : qx_Site l G "QuorumLog$Row" c_W_init 50 y_M_init (.ref b0 :: [v0]) rest h := qx_siteI (As := [v0]) d_W_init_50 rfl qm_168 qm_169 w_M_init.1 (by decide) p_M_init
theorem fp_W_20 : qx_FP "QuorumLog$Row" 20 5 1 (.object "QuorumLog$Message") false := ⟨"QuorumLog$Row", T_W, 3, t_W, rfl, by decide, uw_W, qm_228, k_W, n_W, by decide +kernel, rfl, fun _ => by contradiction⟩
theorem oi_M_3 : Cond.methodLink "QuorumLog$Message" 3 Lib.objectInit ∈ qu_W := qm_171
theorem cl_M_9 : Cond.classLink "QuorumLog$Message" 9 "QuorumLog$Entry" ∈ qu_W := qm_172
theorem fp_M_11 : qx_FP "QuorumLog$Message" 11 3 0 (.array (.object "QuorumLog$Entry")) true := ⟨"QuorumLog$Message", T_M, 12, t_M, rfl, by decide, uw_M, qm_173, k_M, n_M, by decide +kernel, rfl, fun _ => rfl⟩
theorem fp_M_17 : qx_FP "QuorumLog$Message" 17 3 11 (.object "QuorumLog$Snapshot") false := ⟨"QuorumLog$Message", T_M, 12, t_M, rfl, by decide, uw_M, qm_199, k_M, n_M, by decide +kernel, rfl, fun _ => by contradiction⟩
theorem fl_S_21 : qx_FL "QuorumLog$Server" 21 6 5 := ⟨"QuorumLog$Server", T_S, 13, rfl, by decide, uw_S, qm_119⟩
theorem fl_S_29 : qx_FL "QuorumLog$Server" 29 6 9 := ⟨"QuorumLog$Server", T_S, 13, rfl, by decide, uw_S, qm_126⟩
theorem fl_S_40 : qx_FL "QuorumLog$Server" 40 6 1 := ⟨"QuorumLog$Server", T_S, 13, rfl, by decide, uw_S, qm_111⟩
theorem s_S_mayAsk_19 {l : Launch} {G : qh_G} {h : qh_H} {b0 : Nat} {fs rest : List Value} (hb0 : h b0 = some (.inr (2, fs))) : qx_Site l G "QuorumLog$Server" c_S_mayAsk 19 y_L_configuration (.ref b0 :: []) rest h := qx_siteV (As := []) (E := "QuorumLog$Log") (ci := 2) d_S_mayAsk_19 qm_259 qm_260 qm_261 w_L_configuration.1 (by decide) rfl p_L_configuration hb0
theorem fl_S_32 : qx_FL "QuorumLog$Server" 32 6 0 := ⟨"QuorumLog$Server", T_S, 13, rfl, by decide, uw_S, qm_109⟩
theorem s_S_mayAsk_26 {l : Launch} {G : qh_G} {h : qh_H} {rest : List Value} {v0 v1 : Value} : qx_Site l G "QuorumLog$Server" c_S_mayAsk 26 y_Q_isIn [v0, v1] rest h := qx_siteSN (As := [v0, v1]) d_S_mayAsk_26 (List.mem_of_getElem? (i := 1) rfl) qm_280 qm_1 w_Q_isIn.1 (by decide) p_Q_isIn
theorem fl_S_52 : qx_FL "QuorumLog$Server" 52 2 2 := ⟨"QuorumLog$Log", T_L, 3, rfl, by decide, uw_L, qm_100⟩
theorem s_L_configuration_3 {l : Launch} {G : qh_G} {h : qh_H} {b0 : Nat} {fs rest : List Value} (hb0 : h b0 = some (.inr (2, fs))) : qx_Site l G "QuorumLog$Log" c_L_configuration 3 y_L_last (.ref b0 :: []) rest h := qx_siteV (As := []) (E := "QuorumLog$Log") (ci := 2) d_L_configuration_3 qm_263 qm_264 qm_265 w_L_last.1 (by decide) rfl p_L_last hb0
theorem s_L_configuration_6 {l : Launch} {G : qh_G} {h : qh_H} {b0 : Nat} {fs rest : List Value} {v0 : Value} (hb0 : h b0 = some (.inr (2, fs))) : qx_Site l G "QuorumLog$Log" c_L_configuration 6 y_L_latestMembersUpTo (.ref b0 :: [v0]) rest h := qx_siteV (As := [v0]) (E := "QuorumLog$Log") (ci := 2) d_L_configuration_6 qm_267 qm_268 qm_269 w_L_latestMembersUpTo.1 (by decide) rfl p_L_latestMembersUpTo hb0
theorem s_L_configuration_9 {l : Launch} {G : qh_G} {h : qh_H} {b0 : Nat} {fs rest : List Value} {v0 : Value} (hb0 : h b0 = some (.inr (2, fs))) : qx_Site l G "QuorumLog$Log" c_L_configuration 9 y_L_membersAt (.ref b0 :: [v0]) rest h := qx_siteV (As := [v0]) (E := "QuorumLog$Log") (ci := 2) d_L_configuration_9 qm_275 qm_276 qm_277 w_L_membersAt.1 (by decide) rfl p_L_membersAt hb0
theorem fl_L_17 : qx_FL "QuorumLog$Log" 17 2 0 := ⟨"QuorumLog$Log", T_L, 3, rfl, by decide, uw_L, qm_96⟩
theorem fl_L_21 : qx_FL "QuorumLog$Log" 21 7 0 := ⟨"QuorumLog$Snapshot", T_N, 4, rfl, by decide, uw_N, qm_66⟩
theorem fl_L_27 : qx_FL "QuorumLog$Log" 27 2 2 := ⟨"QuorumLog$Log", T_L, 3, rfl, by decide, uw_L, qm_99⟩
theorem s_L_latestMembersUpTo_15 {l : Launch} {G : qh_G} {h : qh_H} {b0 : Nat} {fs rest : List Value} {v0 : Value} (hb0 : h b0 = some (.inr (2, fs))) : qx_Site l G "QuorumLog$Log" c_L_latestMembersUpTo 15 y_L_find (.ref b0 :: [v0]) rest h := qx_siteV (As := [v0]) (E := "QuorumLog$Log") (ci := 2) d_L_latestMembersUpTo_15 qm_271 qm_272 qm_273 w_L_find.1 (by decide) rfl p_L_find hb0
theorem fl_L_46 : qx_FL "QuorumLog$Log" 46 1 1 := ⟨"QuorumLog$Entry", T_E, 4, rfl, by decide, uw_E, qm_332⟩
theorem fl_L_11 : qx_FL "QuorumLog$Log" 11 2 1 := ⟨"QuorumLog$Log", T_L, 3, rfl, by decide, uw_L, qm_98⟩
theorem s_L_membersAt_2 {l : Launch} {G : qh_G} {h : qh_H} {b0 : Nat} {fs rest : List Value} {v0 : Value} (hb0 : h b0 = some (.inr (2, fs))) : qx_Site l G "QuorumLog$Log" c_L_membersAt 2 y_L_find (.ref b0 :: [v0]) rest h := qx_siteV (As := [v0]) (E := "QuorumLog$Log") (ci := 2) d_L_membersAt_2 qm_271 qm_272 qm_273 w_L_find.1 (by decide) rfl p_L_find hb0
theorem fl_L_55 : qx_FL "QuorumLog$Log" 55 7 2 := ⟨"QuorumLog$Snapshot", T_N, 4, rfl, by decide, uw_N, qm_71⟩
theorem fl_L_58 : qx_FL "QuorumLog$Log" 58 1 2 := ⟨"QuorumLog$Entry", T_E, 4, rfl, by decide, uw_E, qm_335⟩
theorem fl_W_24 : qx_FL "QuorumLog$Row" 24 5 2 := ⟨"QuorumLog$Row", T_W, 3, rfl, by decide, uw_W, qm_229⟩
theorem s_W_send_18 {l : Launch} {G : qh_G} {h : qh_H} {b0 : Nat} {fs rest : List Value} {v0 v1 v2 v3 : Value} (hb0 : h b0 = some (.inr (3, fs))) : qx_Site l G "QuorumLog$Row" c_W_send 18 y_M_begin (.ref b0 :: [v0, v1, v2, v3]) rest h := qx_siteV (As := [v0, v1, v2, v3]) (E := "QuorumLog$Message") (ci := 3) d_W_send_18 qm_292 qm_293 qm_294 w_M_begin.1 (by decide) rfl p_M_begin hb0
theorem fp_W_24 : qx_FP "QuorumLog$Row" 24 5 2 (.int) false := ⟨"QuorumLog$Row", T_W, 3, t_W, rfl, by decide, uw_W, qm_229, k_W, n_W, by decide +kernel, rfl, fun _ => by contradiction⟩
theorem fp_M_21 : qx_FP "QuorumLog$Message" 21 3 1 (.int) false := ⟨"QuorumLog$Message", T_M, 12, t_M, rfl, by decide, uw_M, qm_176, k_M, n_M, by decide +kernel, rfl, fun _ => by contradiction⟩
theorem fp_M_25 : qx_FP "QuorumLog$Message" 25 3 2 (.int) false := ⟨"QuorumLog$Message", T_M, 12, t_M, rfl, by decide, uw_M, qm_178, k_M, n_M, by decide +kernel, rfl, fun _ => by contradiction⟩
theorem fp_M_28 : qx_FP "QuorumLog$Message" 28 3 3 (.int) false := ⟨"QuorumLog$Message", T_M, 12, t_M, rfl, by decide, uw_M, qm_180, k_M, n_M, by decide +kernel, rfl, fun _ => by contradiction⟩
theorem fp_M_31 : qx_FP "QuorumLog$Message" 31 3 4 (.int) false := ⟨"QuorumLog$Message", T_M, 12, t_M, rfl, by decide, uw_M, qm_182, k_M, n_M, by decide +kernel, rfl, fun _ => by contradiction⟩
theorem fp_M_34 : qx_FP "QuorumLog$Message" 34 3 5 (.int) false := ⟨"QuorumLog$Message", T_M, 12, t_M, rfl, by decide, uw_M, qm_184, k_M, n_M, by decide +kernel, rfl, fun _ => by contradiction⟩
theorem fp_M_37 : qx_FP "QuorumLog$Message" 37 3 6 (.int) false := ⟨"QuorumLog$Message", T_M, 12, t_M, rfl, by decide, uw_M, qm_187, k_M, n_M, by decide +kernel, rfl, fun _ => by contradiction⟩
theorem fp_M_40 : qx_FP "QuorumLog$Message" 40 3 7 (.int) false := ⟨"QuorumLog$Message", T_M, 12, t_M, rfl, by decide, uw_M, qm_190, k_M, n_M, by decide +kernel, rfl, fun _ => by contradiction⟩
theorem fp_M_43 : qx_FP "QuorumLog$Message" 43 3 8 (.int) false := ⟨"QuorumLog$Message", T_M, 12, t_M, rfl, by decide, uw_M, qm_193, k_M, n_M, by decide +kernel, rfl, fun _ => by contradiction⟩
theorem fp_M_46 : qx_FP "QuorumLog$Message" 46 3 9 (.int) false := ⟨"QuorumLog$Message", T_M, 12, t_M, rfl, by decide, uw_M, qm_195, k_M, n_M, by decide +kernel, rfl, fun _ => by contradiction⟩
theorem fp_M_49 : qx_FP "QuorumLog$Message" 49 3 10 (.boolean) false := ⟨"QuorumLog$Message", T_M, 12, t_M, rfl, by decide, uw_M, qm_197, k_M, n_M, by decide +kernel, rfl, fun _ => by contradiction⟩
theorem s_L_lastTerm_2 {l : Launch} {G : qh_G} {h : qh_H} {b0 : Nat} {fs rest : List Value} (hb0 : h b0 = some (.inr (2, fs))) : qx_Site l G "QuorumLog$Log" c_L_lastTerm 2 y_L_last (.ref b0 :: []) rest h := qx_siteV (As := []) (E := "QuorumLog$Log") (ci := 2) d_L_lastTerm_2 qm_263 qm_264 qm_265 w_L_last.1 (by decide) rfl p_L_last hb0
theorem s_L_lastTerm_5 {l : Launch} {G : qh_G} {h : qh_H} {b0 : Nat} {fs rest : List Value} {v0 : Value} (hb0 : h b0 = some (.inr (2, fs))) : qx_Site l G "QuorumLog$Log" c_L_lastTerm 5 y_L_termAt (.ref b0 :: [v0]) rest h := qx_siteV (As := [v0]) (E := "QuorumLog$Log") (ci := 2) d_L_lastTerm_5 qm_301 qm_302 qm_303 w_L_termAt.1 (by decide) rfl p_L_termAt hb0
theorem fl_L_38 : qx_FL "QuorumLog$Log" 38 7 1 := ⟨"QuorumLog$Snapshot", T_N, 4, rfl, by decide, uw_N, qm_69⟩
theorem s_L_termAt_21 {l : Launch} {G : qh_G} {h : qh_H} {b0 : Nat} {fs rest : List Value} {v0 : Value} (hb0 : h b0 = some (.inr (2, fs))) : qx_Site l G "QuorumLog$Log" c_L_termAt 21 y_L_find (.ref b0 :: [v0]) rest h := qx_siteV (As := [v0]) (E := "QuorumLog$Log") (ci := 2) d_L_termAt_21 qm_271 qm_272 qm_273 w_L_find.1 (by decide) rfl p_L_find hb0
theorem fl_L_45 : qx_FL "QuorumLog$Log" 45 1 0 := ⟨"QuorumLog$Entry", T_E, 4, rfl, by decide, uw_E, qm_329⟩
theorem oi_E_1 : Cond.methodLink "QuorumLog$Entry" 1 Lib.objectInit ∈ qu_W := qm_327
theorem fp_E_7 : qx_FP "QuorumLog$Entry" 7 1 0 (.int) true := ⟨"QuorumLog$Entry", T_E, 4, t_E, rfl, by decide, uw_E, qm_328, k_E, n_E, by decide +kernel, rfl, fun _ => rfl⟩
theorem fp_E_13 : qx_FP "QuorumLog$Entry" 13 1 1 (.int) true := ⟨"QuorumLog$Entry", T_E, 4, t_E, rfl, by decide, uw_E, qm_331, k_E, n_E, by decide +kernel, rfl, fun _ => rfl⟩
theorem fp_E_16 : qx_FP "QuorumLog$Entry" 16 1 2 (.int) true := ⟨"QuorumLog$Entry", T_E, 4, t_E, rfl, by decide, uw_E, qm_334, k_E, n_E, by decide +kernel, rfl, fun _ => rfl⟩
theorem fp_E_19 : qx_FP "QuorumLog$Entry" 19 1 3 (.int) true := ⟨"QuorumLog$Entry", T_E, 4, t_E, rfl, by decide, uw_E, qm_337, k_E, n_E, by decide +kernel, rfl, fun _ => rfl⟩
theorem fp_L_27 : qx_FP "QuorumLog$Log" 27 2 2 (.int) false := ⟨"QuorumLog$Log", T_L, 3, t_L, rfl, by decide, uw_L, qm_99, k_L, n_L, by decide +kernel, rfl, fun _ => by contradiction⟩
theorem fl_S_15 : qx_FL "QuorumLog$Server" 15 6 3 := ⟨"QuorumLog$Server", T_S, 13, rfl, by decide, uw_S, qm_115⟩
theorem s_S_holdersOf_6 {l : Launch} {G : qh_G} {h : qh_H} {b0 : Nat} {fs rest : List Value} {v0 v1 : Value} (hb0 : h b0 = some (.inr (6, fs))) : qx_Site l G "QuorumLog$Server" c_S_holdersOf 6 y_S_reachedBy (.ref b0 :: [v0, v1]) rest h := qx_siteV (As := [v0, v1]) (E := "QuorumLog$Server") (ci := 6) d_S_holdersOf_6 qm_366 qm_368 qs_5 w_S_reachedBy.1 (by decide) rfl p_S_reachedBy hb0
theorem fl_R_27 : qx_FL "QuorumLog$Reads" 27 4 5 := ⟨"QuorumLog$Reads", T_R, 6, rfl, by decide, uw_R, qm_43⟩
theorem s_R_failAllOf_13 {l : Launch} {G : qh_G} {h : qh_H} {b0 : Nat} {fs rest : List Value} {v0 v1 : Value} (hb0 : h b0 = some (.inr (4, fs))) : qx_Site l G "QuorumLog$Reads" c_R_failAllOf 13 y_R_isKeptBy (.ref b0 :: [v0, v1]) rest h := qx_siteV (As := [v0, v1]) (E := "QuorumLog$Reads") (ci := 4) d_R_failAllOf_13 qm_379 qm_380 qm_381 w_R_isKeptBy.1 (by decide) rfl p_R_isKeptBy hb0
theorem fl_R_21 : qx_FL "QuorumLog$Reads" 21 4 3 := ⟨"QuorumLog$Reads", T_R, 6, rfl, by decide, uw_R, qm_39⟩
theorem fl_R_9 : qx_FL "QuorumLog$Reads" 9 4 0 := ⟨"QuorumLog$Reads", T_R, 6, rfl, by decide, uw_R, qm_34⟩
theorem s_L_copyBehind_14 {l : Launch} {G : qh_G} {h : qh_H} {b0 : Nat} {fs rest : List Value} {v0 : Value} (hb0 : h b0 = some (.inr (2, fs))) : qx_Site l G "QuorumLog$Log" c_L_copyBehind 14 y_L_find (.ref b0 :: [v0]) rest h := qx_siteV (As := [v0]) (E := "QuorumLog$Log") (ci := 2) d_L_copyBehind_14 qm_271 qm_272 qm_273 w_L_find.1 (by decide) rfl p_L_find hb0
theorem s_L_snapshotAt_16 {l : Launch} {G : qh_G} {h : qh_H} {b0 : Nat} {fs rest : List Value} {v0 v1 : Value} (hb0 : h b0 = some (.inr (2, fs))) : qx_Site l G "QuorumLog$Log" c_L_snapshotAt 16 y_L_storedUpTo (.ref b0 :: [v0, v1]) rest h := qx_siteV (As := [v0, v1]) (E := "QuorumLog$Log") (ci := 2) d_L_snapshotAt_16 qm_423 qm_424 qm_425 w_L_storedUpTo.1 (by decide) rfl p_L_storedUpTo hb0
theorem nw_L_22 : qx_NW "QuorumLog$Log" 22 7 [.int 0, .int 0, .int 0, .null] 4 := ⟨"QuorumLog$Snapshot", T_N, t_N, rfl, uw_N, k_N, fun j hj => by revert j; decide +kernel, qm_427, qm_60, qm_3⟩
theorem s_L_snapshotAt_33 {l : Launch} {G : qh_G} {h : qh_H} {b0 : Nat} {fs rest : List Value} {v0 : Value} (hb0 : h b0 = some (.inr (2, fs))) : qx_Site l G "QuorumLog$Log" c_L_snapshotAt 33 y_L_termAt (.ref b0 :: [v0]) rest h := qx_siteV (As := [v0]) (E := "QuorumLog$Log") (ci := 2) d_L_snapshotAt_33 qm_301 qm_302 qm_303 w_L_termAt.1 (by decide) rfl p_L_termAt hb0
theorem s_L_snapshotAt_39 {l : Launch} {G : qh_G} {h : qh_H} {b0 : Nat} {fs rest : List Value} {v0 : Value} (hb0 : h b0 = some (.inr (2, fs))) : qx_Site l G "QuorumLog$Log" c_L_snapshotAt 39 y_L_latestMembersUpTo (.ref b0 :: [v0]) rest h := qx_siteV (As := [v0]) (E := "QuorumLog$Log") (ci := 2) d_L_snapshotAt_39 qm_267 qm_268 qm_269 w_L_latestMembersUpTo.1 (by decide) rfl p_L_latestMembersUpTo hb0
theorem s_L_snapshotAt_42 {l : Launch} {G : qh_G} {h : qh_H} {b0 : Nat} {fs rest : List Value} {v0 : Value} (hb0 : h b0 = some (.inr (2, fs))) : qx_Site l G "QuorumLog$Log" c_L_snapshotAt 42 y_L_membersAt (.ref b0 :: [v0]) rest h := qx_siteV (As := [v0]) (E := "QuorumLog$Log") (ci := 2) d_L_snapshotAt_42 qm_275 qm_276 qm_277 w_L_membersAt.1 (by decide) rfl p_L_membersAt hb0
theorem s_L_snapshotAt_46 {l : Launch} {G : qh_G} {h : qh_H} {b0 : Nat} {rest : List Value} {v0 v1 v2 v3 : Value} : qx_Site l G "QuorumLog$Log" c_L_snapshotAt 46 y_N_init (.ref b0 :: [v0, v1, v2, v3]) rest h := qx_siteI (As := [v0, v1, v2, v3]) d_L_snapshotAt_46 rfl qm_428 qm_62 w_N_init.1 (by decide) p_N_init
theorem s_L_storedUpTo_15 {l : Launch} {G : qh_G} {h : qh_H} {b0 : Nat} {fs rest : List Value} {v0 : Value} (hb0 : h b0 = some (.inr (2, fs))) : qx_Site l G "QuorumLog$Log" c_L_storedUpTo 15 y_L_find (.ref b0 :: [v0]) rest h := qx_siteV (As := [v0]) (E := "QuorumLog$Log") (ci := 2) d_L_storedUpTo_15 qm_271 qm_272 qm_273 w_L_find.1 (by decide) rfl p_L_find hb0
theorem fl_L_61 : qx_FL "QuorumLog$Log" 61 1 3 := ⟨"QuorumLog$Entry", T_E, 4, rfl, by decide, uw_E, qm_338⟩
theorem fl_L_64 : qx_FL "QuorumLog$Log" 64 7 3 := ⟨"QuorumLog$Snapshot", T_N, 4, rfl, by decide, uw_N, qm_73⟩
theorem s_L_beginBehind_5 {l : Launch} {G : qh_G} {h : qh_H} {b0 : Nat} {fs rest : List Value} {v0 : Value} (hb0 : h b0 = some (.inr (2, fs))) : qx_Site l G "QuorumLog$Log" c_L_beginBehind 5 y_L_termAt (.ref b0 :: [v0]) rest h := qx_siteV (As := [v0]) (E := "QuorumLog$Log") (ci := 2) d_L_beginBehind_5 qm_301 qm_302 qm_303 w_L_termAt.1 (by decide) rfl p_L_termAt hb0
theorem s_L_beginBehind_23 {l : Launch} {G : qh_G} {h : qh_H} {b0 : Nat} {fs rest : List Value} (hb0 : h b0 = some (.inr (2, fs))) : qx_Site l G "QuorumLog$Log" c_L_beginBehind 23 y_L_last (.ref b0 :: []) rest h := qx_siteV (As := []) (E := "QuorumLog$Log") (ci := 2) d_L_beginBehind_23 qm_263 qm_264 qm_265 w_L_last.1 (by decide) rfl p_L_last hb0
theorem fl_W_20 : qx_FL "QuorumLog$Row" 20 5 1 := ⟨"QuorumLog$Row", T_W, 3, rfl, by decide, uw_W, qm_228⟩
theorem s_L_isBehindOf_1 {l : Launch} {G : qh_G} {h : qh_H} {b0 : Nat} {fs rest : List Value} (hb0 : h b0 = some (.inr (2, fs))) : qx_Site l G "QuorumLog$Log" c_L_isBehindOf 1 y_L_lastTerm (.ref b0 :: []) rest h := qx_siteV (As := []) (E := "QuorumLog$Log") (ci := 2) d_L_isBehindOf_1 qm_469 qm_298 qm_299 w_L_lastTerm.1 (by decide) rfl p_L_lastTerm hb0
theorem fl_L_71 : qx_FL "QuorumLog$Log" 71 3 6 := ⟨"QuorumLog$Message", T_M, 12, rfl, by decide, uw_M, qm_188⟩
theorem fl_L_76 : qx_FL "QuorumLog$Log" 76 3 5 := ⟨"QuorumLog$Message", T_M, 12, rfl, by decide, uw_M, qm_185⟩
theorem s_L_isBehindOf_26 {l : Launch} {G : qh_G} {h : qh_H} {b0 : Nat} {fs rest : List Value} (hb0 : h b0 = some (.inr (2, fs))) : qx_Site l G "QuorumLog$Log" c_L_isBehindOf 26 y_L_last (.ref b0 :: []) rest h := qx_siteV (As := []) (E := "QuorumLog$Log") (ci := 2) d_L_isBehindOf_26 qm_263 qm_264 qm_265 w_L_last.1 (by decide) rfl p_L_last hb0
theorem s_L_fitsBehind_2 {l : Launch} {G : qh_G} {h : qh_H} {b0 : Nat} {fs rest : List Value} (hb0 : h b0 = some (.inr (2, fs))) : qx_Site l G "QuorumLog$Log" c_L_fitsBehind 2 y_L_last (.ref b0 :: []) rest h := qx_siteV (As := []) (E := "QuorumLog$Log") (ci := 2) d_L_fitsBehind_2 qm_263 qm_264 qm_265 w_L_last.1 (by decide) rfl p_L_last hb0
theorem s_L_fitsBehind_21 {l : Launch} {G : qh_G} {h : qh_H} {b0 : Nat} {fs rest : List Value} {v0 : Value} (hb0 : h b0 = some (.inr (2, fs))) : qx_Site l G "QuorumLog$Log" c_L_fitsBehind 21 y_L_termAt (.ref b0 :: [v0]) rest h := qx_siteV (As := [v0]) (E := "QuorumLog$Log") (ci := 2) d_L_fitsBehind_21 qm_301 qm_302 qm_303 w_L_termAt.1 (by decide) rfl p_L_termAt hb0
theorem fl_L_77 : qx_FL "QuorumLog$Log" 77 3 7 := ⟨"QuorumLog$Message", T_M, 12, rfl, by decide, uw_M, qm_191⟩
theorem fl_L_80 : qx_FL "QuorumLog$Log" 80 3 0 := ⟨"QuorumLog$Message", T_M, 12, rfl, by decide, uw_M, qm_174⟩
theorem s_L_takeOver_38 {l : Launch} {G : qh_G} {h : qh_H} {b0 : Nat} {fs rest : List Value} {v0 v1 : Value} (hb0 : h b0 = some (.inr (2, fs))) : qx_Site l G "QuorumLog$Log" c_L_takeOver 38 y_L_hasOrTakes (.ref b0 :: [v0, v1]) rest h := qx_siteV (As := [v0, v1]) (E := "QuorumLog$Log") (ci := 2) d_L_takeOver_38 qm_504 qm_506 qs_17 w_L_hasOrTakes.1 (by decide) rfl p_L_hasOrTakes hb0
theorem s_L_hasOrTakes_2 {l : Launch} {G : qh_G} {h : qh_H} {b0 : Nat} {fs rest : List Value} {v0 : Value} (hb0 : h b0 = some (.inr (2, fs))) : qx_Site l G "QuorumLog$Log" c_L_hasOrTakes 2 y_L_termAt (.ref b0 :: [v0]) rest h := qx_siteV (As := [v0]) (E := "QuorumLog$Log") (ci := 2) d_L_hasOrTakes_2 qm_301 qm_302 qm_303 w_L_termAt.1 (by decide) rfl p_L_termAt hb0
theorem s_L_hasOrTakes_16 {l : Launch} {G : qh_G} {h : qh_H} {b0 : Nat} {fs rest : List Value} {v0 : Value} (hb0 : h b0 = some (.inr (2, fs))) : qx_Site l G "QuorumLog$Log" c_L_hasOrTakes 16 y_L_cutFrom (.ref b0 :: [v0]) rest h := qx_siteV (As := [v0]) (E := "QuorumLog$Log") (ci := 2) d_L_hasOrTakes_16 qm_508 qm_509 qm_510 w_L_cutFrom.1 (by decide) rfl p_L_cutFrom hb0
theorem s_L_hasOrTakes_21 {l : Launch} {G : qh_G} {h : qh_H} {b0 : Nat} {fs rest : List Value} {v0 : Value} (hb0 : h b0 = some (.inr (2, fs))) : qx_Site l G "QuorumLog$Log" c_L_hasOrTakes 21 y_L_add (.ref b0 :: [v0]) rest h := qx_siteV (As := [v0]) (E := "QuorumLog$Log") (ci := 2) d_L_hasOrTakes_21 qm_512 qm_354 qm_355 w_L_add.1 (by decide) rfl p_L_add hb0
theorem fl_S_18 : qx_FL "QuorumLog$Server" 18 6 4 := ⟨"QuorumLog$Server", T_S, 13, rfl, by decide, uw_S, qm_117⟩
theorem s_S_confirmersOf_6 {l : Launch} {G : qh_G} {h : qh_H} {b0 : Nat} {fs rest : List Value} {v0 v1 : Value} (hb0 : h b0 = some (.inr (6, fs))) : qx_Site l G "QuorumLog$Server" c_S_confirmersOf 6 y_S_reachedBy (.ref b0 :: [v0, v1]) rest h := qx_siteV (As := [v0, v1]) (E := "QuorumLog$Server") (ci := 6) d_S_confirmersOf_6 qm_366 qm_368 qs_5 w_S_reachedBy.1 (by decide) rfl p_S_reachedBy hb0
theorem fl_S_55 : qx_FL "QuorumLog$Server" 55 6 10 := ⟨"QuorumLog$Server", T_S, 13, rfl, by decide, uw_S, qm_128⟩
theorem s_S_storedNow_9 {l : Launch} {G : qh_G} {h : qh_H} {b0 : Nat} {fs rest : List Value} {v0 v1 : Value} (hb0 : h b0 = some (.inr (2, fs))) : qx_Site l G "QuorumLog$Server" c_S_storedNow 9 y_L_storedUpTo (.ref b0 :: [v0, v1]) rest h := qx_siteV (As := [v0, v1]) (E := "QuorumLog$Log") (ci := 2) d_S_storedNow_9 qm_530 qm_424 qm_425 w_L_storedUpTo.1 (by decide) rfl p_L_storedUpTo hb0
theorem s_S_hasCommitOfItsTerm_8 {l : Launch} {G : qh_G} {h : qh_H} {b0 : Nat} {fs rest : List Value} {v0 : Value} (hb0 : h b0 = some (.inr (2, fs))) : qx_Site l G "QuorumLog$Server" c_S_hasCommitOfItsTerm 8 y_L_termAt (.ref b0 :: [v0]) rest h := qx_siteV (As := [v0]) (E := "QuorumLog$Log") (ci := 2) d_S_hasCommitOfItsTerm_8 qm_693 qm_302 qm_303 w_L_termAt.1 (by decide) rfl p_L_termAt hb0
theorem fl_S_62 : qx_FL "QuorumLog$Server" 62 6 7 := ⟨"QuorumLog$Server", T_S, 13, rfl, by decide, uw_S, qm_123⟩
theorem s_R_keptBy_15 {l : Launch} {G : qh_G} {h : qh_H} {b0 : Nat} {fs rest : List Value} {v0 v1 : Value} (hb0 : h b0 = some (.inr (4, fs))) : qx_Site l G "QuorumLog$Reads" c_R_keptBy 15 y_R_isKeptBy (.ref b0 :: [v0, v1]) rest h := qx_siteV (As := [v0, v1]) (E := "QuorumLog$Reads") (ci := 4) d_R_keptBy_15 qm_379 qm_380 qm_381 w_R_isKeptBy.1 (by decide) rfl p_R_isKeptBy hb0
theorem fl_R_15 : qx_FL "QuorumLog$Reads" 15 4 1 := ⟨"QuorumLog$Reads", T_R, 6, rfl, by decide, uw_R, qm_35⟩
theorem fl_R_18 : qx_FL "QuorumLog$Reads" 18 4 2 := ⟨"QuorumLog$Reads", T_R, 6, rfl, by decide, uw_R, qm_37⟩
theorem fp_R_27 : qx_FP "QuorumLog$Reads" 27 4 5 (.int) false := ⟨"QuorumLog$Reads", T_R, 6, t_R, rfl, by decide, uw_R, qm_43, k_R, n_R, by decide +kernel, rfl, fun _ => by contradiction⟩
end
