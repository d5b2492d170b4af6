section
-- ===== PART A: goes FIRST, ahead of the names: the tables' words, and 'selects' of the private methods out of them =====
/-- a private method of a class that the tables say can be made, by its rows of tables_1 -/
def lw_okq (q : MethodName × Nat) : Prop := (q.1.cls ≠ "java/lang/invoke/MethodHandle" ∧ q.1.cls ≠ "java/lang/invoke/VarHandle") ∧ Cond.instantiable q.1.cls q.2 ∈ tables_1 ∧ Cond.privateMethod q.1 ∈ tables_1 ∧ Cond.instanceMethod q.1 ∈ tables_1
theorem lw_p0 : lw_okq (⟨"FosterSons", "faulted", "(I)I"⟩, 9) := ⟨⟨by decide +kernel, by decide +kernel⟩, List.mem_of_getElem? (i := 12) (by decide +kernel), List.mem_of_getElem? (i := 191) (by decide +kernel), List.mem_of_getElem? (i := 192) (by decide +kernel)⟩
theorem lw_p1 : lw_okq (⟨"FosterSons$Treaty", "readsHead", "(LFosterSons$Text;)Z"⟩, 8) := ⟨⟨by decide +kernel, by decide +kernel⟩, List.mem_of_getElem? (i := 40) (by decide +kernel), List.mem_of_getElem? (i := 217) (by decide +kernel), List.mem_of_getElem? (i := 218) (by decide +kernel)⟩
theorem lw_p2 : lw_okq (⟨"FosterSons$Treaty", "readsGains", "(LFosterSons$Text;)Z"⟩, 8) := ⟨⟨by decide +kernel, by decide +kernel⟩, List.mem_of_getElem? (i := 40) (by decide +kernel), List.mem_of_getElem? (i := 230) (by decide +kernel), List.mem_of_getElem? (i := 231) (by decide +kernel)⟩
theorem lw_p3 : lw_okq (⟨"FosterSons$Treaty", "readsSons", "(LFosterSons$Text;)Z"⟩, 8) := ⟨⟨by decide +kernel, by decide +kernel⟩, List.mem_of_getElem? (i := 40) (by decide +kernel), List.mem_of_getElem? (i := 234) (by decide +kernel), List.mem_of_getElem? (i := 235) (by decide +kernel)⟩
theorem lw_p4 : lw_okq (⟨"FosterSons$Treaty", "readsSon", "(LFosterSons$Text;I)Z"⟩, 8) := ⟨⟨by decide +kernel, by decide +kernel⟩, List.mem_of_getElem? (i := 40) (by decide +kernel), List.mem_of_getElem? (i := 238) (by decide +kernel), List.mem_of_getElem? (i := 239) (by decide +kernel)⟩
theorem lw_p5 : lw_okq (⟨"FosterSons", "beginAnew", "()V"⟩, 9) := ⟨⟨by decide +kernel, by decide +kernel⟩, List.mem_of_getElem? (i := 12) (by decide +kernel), List.mem_of_getElem? (i := 251) (by decide +kernel), List.mem_of_getElem? (i := 252) (by decide +kernel)⟩
theorem lw_p6 : lw_okq (⟨"FosterSons", "isSon", "(I)Z"⟩, 9) := ⟨⟨by decide +kernel, by decide +kernel⟩, List.mem_of_getElem? (i := 12) (by decide +kernel), List.mem_of_getElem? (i := 263) (by decide +kernel), List.mem_of_getElem? (i := 264) (by decide +kernel)⟩
theorem lw_p7 : lw_okq (⟨"FosterSons", "isCourt", "(I)Z"⟩, 9) := ⟨⟨by decide +kernel, by decide +kernel⟩, List.mem_of_getElem? (i := 12) (by decide +kernel), List.mem_of_getElem? (i := 275) (by decide +kernel), List.mem_of_getElem? (i := 276) (by decide +kernel)⟩
theorem lw_p8 : lw_okq (⟨"FosterSons", "isYear", "(I)Z"⟩, 9) := ⟨⟨by decide +kernel, by decide +kernel⟩, List.mem_of_getElem? (i := 12) (by decide +kernel), List.mem_of_getElem? (i := 279) (by decide +kernel), List.mem_of_getElem? (i := 280) (by decide +kernel)⟩
theorem lw_p9 : lw_okq (⟨"FosterSons", "hasTreaty", "()Z"⟩, 9) := ⟨⟨by decide +kernel, by decide +kernel⟩, List.mem_of_getElem? (i := 12) (by decide +kernel), List.mem_of_getElem? (i := 321) (by decide +kernel), List.mem_of_getElem? (i := 322) (by decide +kernel)⟩
theorem lw_p10 : lw_okq (⟨"FosterSons", "ofBreak", "(LFosterSons$Sending;I)I"⟩, 9) := ⟨⟨by decide +kernel, by decide +kernel⟩, List.mem_of_getElem? (i := 12) (by decide +kernel), List.mem_of_getElem? (i := 334) (by decide +kernel), List.mem_of_getElem? (i := 335) (by decide +kernel)⟩
theorem lw_p11 : lw_okq (⟨"FosterSons", "tryPlan", "(LFosterSons$Sheet;I)Z"⟩, 9) := ⟨⟨by decide +kernel, by decide +kernel⟩, List.mem_of_getElem? (i := 12) (by decide +kernel), List.mem_of_getElem? (i := 355) (by decide +kernel), List.mem_of_getElem? (i := 356) (by decide +kernel)⟩
theorem lw_p12 : lw_okq (⟨"FosterSons", "ofTrial", "(I)I"⟩, 9) := ⟨⟨by decide +kernel, by decide +kernel⟩, List.mem_of_getElem? (i := 12) (by decide +kernel), List.mem_of_getElem? (i := 360) (by decide +kernel), List.mem_of_getElem? (i := 361) (by decide +kernel)⟩
theorem lw_p13 : lw_okq (⟨"FosterSons", "everySon", "()I"⟩, 9) := ⟨⟨by decide +kernel, by decide +kernel⟩, List.mem_of_getElem? (i := 12) (by decide +kernel), List.mem_of_getElem? (i := 384) (by decide +kernel), List.mem_of_getElem? (i := 385) (by decide +kernel)⟩
theorem lw_p14 : lw_okq (⟨"FosterSons", "fitting", "([III)I"⟩, 9) := ⟨⟨by decide +kernel, by decide +kernel⟩, List.mem_of_getElem? (i := 12) (by decide +kernel), List.mem_of_getElem? (i := 412) (by decide +kernel), List.mem_of_getElem? (i := 413) (by decide +kernel)⟩
theorem lw_p15 : lw_okq (⟨"FosterSons", "breaksBy", "(II)Z"⟩, 9) := ⟨⟨by decide +kernel, by decide +kernel⟩, List.mem_of_getElem? (i := 12) (by decide +kernel), List.mem_of_getElem? (i := 439) (by decide +kernel), List.mem_of_getElem? (i := 440) (by decide +kernel)⟩
def lw_privs_1 : List (MethodName × Nat) := [(⟨"FosterSons", "faulted", "(I)I"⟩, 9), (⟨"FosterSons$Treaty", "readsHead", "(LFosterSons$Text;)Z"⟩, 8), (⟨"FosterSons$Treaty", "readsGains", "(LFosterSons$Text;)Z"⟩, 8), (⟨"FosterSons$Treaty", "readsSons", "(LFosterSons$Text;)Z"⟩, 8), (⟨"FosterSons$Treaty", "readsSon", "(LFosterSons$Text;I)Z"⟩, 8), (⟨"FosterSons", "beginAnew", "()V"⟩, 9), (⟨"FosterSons", "isSon", "(I)Z"⟩, 9), (⟨"FosterSons", "isCourt", "(I)Z"⟩, 9), (⟨"FosterSons", "isYear", "(I)Z"⟩, 9), (⟨"FosterSons", "hasTreaty", "()Z"⟩, 9), (⟨"FosterSons", "ofBreak", "(LFosterSons$Sending;I)I"⟩, 9), (⟨"FosterSons", "tryPlan", "(LFosterSons$Sheet;I)Z"⟩, 9), (⟨"FosterSons", "ofTrial", "(I)I"⟩, 9), (⟨"FosterSons", "everySon", "()I"⟩, 9), (⟨"FosterSons", "fitting", "([III)I"⟩, 9), (⟨"FosterSons", "breaksBy", "(II)Z"⟩, 9)]
theorem lw_r1 : ∀ q ∈ lw_privs_1, lw_okq q := List.forall_mem_cons.mpr ⟨lw_p0, List.forall_mem_cons.mpr ⟨lw_p1, List.forall_mem_cons.mpr ⟨lw_p2, List.forall_mem_cons.mpr ⟨lw_p3, List.forall_mem_cons.mpr ⟨lw_p4, List.forall_mem_cons.mpr ⟨lw_p5, List.forall_mem_cons.mpr ⟨lw_p6, List.forall_mem_cons.mpr ⟨lw_p7, List.forall_mem_cons.mpr ⟨lw_p8, List.forall_mem_cons.mpr ⟨lw_p9, List.forall_mem_cons.mpr ⟨lw_p10, List.forall_mem_cons.mpr ⟨lw_p11, List.forall_mem_cons.mpr ⟨lw_p12, List.forall_mem_cons.mpr ⟨lw_p13, List.forall_mem_cons.mpr ⟨lw_p14, List.forall_mem_cons.mpr ⟨lw_p15, fun _ h => absurd h List.not_mem_nil⟩⟩⟩⟩⟩⟩⟩⟩⟩⟩⟩⟩⟩⟩⟩⟩
theorem lw_p16 : lw_okq (⟨"FosterSons$Sheet", "cut", "(I)I"⟩, 4) := ⟨⟨by decide +kernel, by decide +kernel⟩, List.mem_of_getElem? (i := 121) (by decide +kernel), List.mem_of_getElem? (i := 466) (by decide +kernel), List.mem_of_getElem? (i := 467) (by decide +kernel)⟩
theorem lw_p17 : lw_okq (⟨"FosterSons", "pageTells", "(I)I"⟩, 9) := ⟨⟨by decide +kernel, by decide +kernel⟩, List.mem_of_getElem? (i := 12) (by decide +kernel), List.mem_of_getElem? (i := 485) (by decide +kernel), List.mem_of_getElem? (i := 486) (by decide +kernel)⟩
theorem lw_p18 : lw_okq (⟨"FosterSons", "leaveTrace", "(I)V"⟩, 9) := ⟨⟨by decide +kernel, by decide +kernel⟩, List.mem_of_getElem? (i := 12) (by decide +kernel), List.mem_of_getElem? (i := 489) (by decide +kernel), List.mem_of_getElem? (i := 490) (by decide +kernel)⟩
theorem lw_p19 : lw_okq (⟨"FosterSons", "heirTells", "(I)I"⟩, 9) := ⟨⟨by decide +kernel, by decide +kernel⟩, List.mem_of_getElem? (i := 12) (by decide +kernel), List.mem_of_getElem? (i := 493) (by decide +kernel), List.mem_of_getElem? (i := 494) (by decide +kernel)⟩
theorem lw_p20 : lw_okq (⟨"FosterSons", "sonTells", "(I)I"⟩, 9) := ⟨⟨by decide +kernel, by decide +kernel⟩, List.mem_of_getElem? (i := 12) (by decide +kernel), List.mem_of_getElem? (i := 497) (by decide +kernel), List.mem_of_getElem? (i := 498) (by decide +kernel)⟩
theorem lw_p21 : lw_okq (⟨"FosterSonsModel", "against", "(IIII)I"⟩, 27) := ⟨⟨by decide +kernel, by decide +kernel⟩, List.mem_of_getElem? (i := 521) (by decide +kernel), List.mem_of_getElem? (i := 622) (by decide +kernel), List.mem_of_getElem? (i := 623) (by decide +kernel)⟩
theorem lw_p22 : lw_okq (⟨"FosterSonsModel", "fails", "(I)I"⟩, 27) := ⟨⟨by decide +kernel, by decide +kernel⟩, List.mem_of_getElem? (i := 521) (by decide +kernel), List.mem_of_getElem? (i := 626) (by decide +kernel), List.mem_of_getElem? (i := 627) (by decide +kernel)⟩
theorem lw_p23 : lw_okq (⟨"FosterSonsModel", "readTreaty", "(I)Z"⟩, 27) := ⟨⟨by decide +kernel, by decide +kernel⟩, List.mem_of_getElem? (i := 521) (by decide +kernel), List.mem_of_getElem? (i := 630) (by decide +kernel), List.mem_of_getElem? (i := 631) (by decide +kernel)⟩
theorem lw_p24 : lw_okq (⟨"FosterSonsModel", "isSign", "(II)Z"⟩, 27) := ⟨⟨by decide +kernel, by decide +kernel⟩, List.mem_of_getElem? (i := 521) (by decide +kernel), List.mem_of_getElem? (i := 634) (by decide +kernel), List.mem_of_getElem? (i := 635) (by decide +kernel)⟩
theorem lw_p25 : lw_okq (⟨"FosterSonsModel", "digit", "(III)I"⟩, 27) := ⟨⟨by decide +kernel, by decide +kernel⟩, List.mem_of_getElem? (i := 521) (by decide +kernel), List.mem_of_getElem? (i := 638) (by decide +kernel), List.mem_of_getElem? (i := 639) (by decide +kernel)⟩
theorem lw_p26 : lw_okq (⟨"FosterSonsModel", "readCourt", "(II)Z"⟩, 27) := ⟨⟨by decide +kernel, by decide +kernel⟩, List.mem_of_getElem? (i := 521) (by decide +kernel), List.mem_of_getElem? (i := 642) (by decide +kernel), List.mem_of_getElem? (i := 643) (by decide +kernel)⟩
theorem lw_p27 : lw_okq (⟨"FosterSonsModel", "readSon", "(I)Z"⟩, 27) := ⟨⟨by decide +kernel, by decide +kernel⟩, List.mem_of_getElem? (i := 521) (by decide +kernel), List.mem_of_getElem? (i := 646) (by decide +kernel), List.mem_of_getElem? (i := 647) (by decide +kernel)⟩
theorem lw_p28 : lw_okq (⟨"FosterSonsModel", "takeTreaty", "()V"⟩, 27) := ⟨⟨by decide +kernel, by decide +kernel⟩, List.mem_of_getElem? (i := 521) (by decide +kernel), List.mem_of_getElem? (i := 650) (by decide +kernel), List.mem_of_getElem? (i := 651) (by decide +kernel)⟩
theorem lw_p29 : lw_okq (⟨"FosterSonsModel", "isSon", "(I)Z"⟩, 27) := ⟨⟨by decide +kernel, by decide +kernel⟩, List.mem_of_getElem? (i := 521) (by decide +kernel), List.mem_of_getElem? (i := 658) (by decide +kernel), List.mem_of_getElem? (i := 659) (by decide +kernel)⟩
theorem lw_p30 : lw_okq (⟨"FosterSonsModel", "isCourt", "(I)Z"⟩, 27) := ⟨⟨by decide +kernel, by decide +kernel⟩, List.mem_of_getElem? (i := 521) (by decide +kernel), List.mem_of_getElem? (i := 666) (by decide +kernel), List.mem_of_getElem? (i := 667) (by decide +kernel)⟩
theorem lw_p31 : lw_okq (⟨"FosterSonsModel", "isYear", "(I)Z"⟩, 27) := ⟨⟨by decide +kernel, by decide +kernel⟩, List.mem_of_getElem? (i := 521) (by decide +kernel), List.mem_of_getElem? (i := 670) (by decide +kernel), List.mem_of_getElem? (i := 671) (by decide +kernel)⟩
def lw_privs_2 : List (MethodName × Nat) := [(⟨"FosterSons$Sheet", "cut", "(I)I"⟩, 4), (⟨"FosterSons", "pageTells", "(I)I"⟩, 9), (⟨"FosterSons", "leaveTrace", "(I)V"⟩, 9), (⟨"FosterSons", "heirTells", "(I)I"⟩, 9), (⟨"FosterSons", "sonTells", "(I)I"⟩, 9), (⟨"FosterSonsModel", "against", "(IIII)I"⟩, 27), (⟨"FosterSonsModel", "fails", "(I)I"⟩, 27), (⟨"FosterSonsModel", "readTreaty", "(I)Z"⟩, 27), (⟨"FosterSonsModel", "isSign", "(II)Z"⟩, 27), (⟨"FosterSonsModel", "digit", "(III)I"⟩, 27), (⟨"FosterSonsModel", "readCourt", "(II)Z"⟩, 27), (⟨"FosterSonsModel", "readSon", "(I)Z"⟩, 27), (⟨"FosterSonsModel", "takeTreaty", "()V"⟩, 27), (⟨"FosterSonsModel", "isSon", "(I)Z"⟩, 27), (⟨"FosterSonsModel", "isCourt", "(I)Z"⟩, 27), (⟨"FosterSonsModel", "isYear", "(I)Z"⟩, 27)]
theorem lw_r2 : ∀ q ∈ lw_privs_2, lw_okq q := List.forall_mem_cons.mpr ⟨lw_p16, List.forall_mem_cons.mpr ⟨lw_p17, List.forall_mem_cons.mpr ⟨lw_p18, List.forall_mem_cons.mpr ⟨lw_p19, List.forall_mem_cons.mpr ⟨lw_p20, List.forall_mem_cons.mpr ⟨lw_p21, List.forall_mem_cons.mpr ⟨lw_p22, List.forall_mem_cons.mpr ⟨lw_p23, List.forall_mem_cons.mpr ⟨lw_p24, List.forall_mem_cons.mpr ⟨lw_p25, List.forall_mem_cons.mpr ⟨lw_p26, List.forall_mem_cons.mpr ⟨lw_p27, List.forall_mem_cons.mpr ⟨lw_p28, List.forall_mem_cons.mpr ⟨lw_p29, List.forall_mem_cons.mpr ⟨lw_p30, List.forall_mem_cons.mpr ⟨lw_p31, fun _ h => absurd h List.not_mem_nil⟩⟩⟩⟩⟩⟩⟩⟩⟩⟩⟩⟩⟩⟩⟩⟩
theorem lw_p32 : lw_okq (⟨"FosterSonsModel", "stakeBy", "(III)I"⟩, 27) := ⟨⟨by decide +kernel, by decide +kernel⟩, List.mem_of_getElem? (i := 521) (by decide +kernel), List.mem_of_getElem? (i := 690) (by decide +kernel), List.mem_of_getElem? (i := 691) (by decide +kernel)⟩
theorem lw_p33 : lw_okq (⟨"FosterSonsModel", "askNow", "()V"⟩, 27) := ⟨⟨by decide +kernel, by decide +kernel⟩, List.mem_of_getElem? (i := 521) (by decide +kernel), List.mem_of_getElem? (i := 698) (by decide +kernel), List.mem_of_getElem? (i := 699) (by decide +kernel)⟩
theorem lw_p34 : lw_okq (⟨"FosterSonsModel", "stakesBy", "(II)I"⟩, 27) := ⟨⟨by decide +kernel, by decide +kernel⟩, List.mem_of_getElem? (i := 521) (by decide +kernel), List.mem_of_getElem? (i := 702) (by decide +kernel), List.mem_of_getElem? (i := 703) (by decide +kernel)⟩
theorem lw_p35 : lw_okq (⟨"FosterSonsModel", "temptedSet", "(I)I"⟩, 27) := ⟨⟨by decide +kernel, by decide +kernel⟩, List.mem_of_getElem? (i := 521) (by decide +kernel), List.mem_of_getElem? (i := 710) (by decide +kernel), List.mem_of_getElem? (i := 711) (by decide +kernel)⟩
theorem lw_p36 : lw_okq (⟨"FosterSonsModel", "isTempted", "(II)Z"⟩, 27) := ⟨⟨by decide +kernel, by decide +kernel⟩, List.mem_of_getElem? (i := 521) (by decide +kernel), List.mem_of_getElem? (i := 714) (by decide +kernel), List.mem_of_getElem? (i := 715) (by decide +kernel)⟩
theorem lw_p37 : lw_okq (⟨"FosterSonsModel", "breakYear", "()I"⟩, 27) := ⟨⟨by decide +kernel, by decide +kernel⟩, List.mem_of_getElem? (i := 521) (by decide +kernel), List.mem_of_getElem? (i := 722) (by decide +kernel), List.mem_of_getElem? (i := 723) (by decide +kernel)⟩
theorem lw_p38 : lw_okq (⟨"FosterSonsModel", "breakCourt", "()I"⟩, 27) := ⟨⟨by decide +kernel, by decide +kernel⟩, List.mem_of_getElem? (i := 521) (by decide +kernel), List.mem_of_getElem? (i := 726) (by decide +kernel), List.mem_of_getElem? (i := 727) (by decide +kernel)⟩
theorem lw_p39 : lw_okq (⟨"FosterSonsModel", "tellPlan", "(I)I"⟩, 27) := ⟨⟨by decide +kernel, by decide +kernel⟩, List.mem_of_getElem? (i := 521) (by decide +kernel), List.mem_of_getElem? (i := 734) (by decide +kernel), List.mem_of_getElem? (i := 735) (by decide +kernel)⟩
theorem lw_p40 : lw_okq (⟨"FosterSonsModel", "askSet", "(I)V"⟩, 27) := ⟨⟨by decide +kernel, by decide +kernel⟩, List.mem_of_getElem? (i := 521) (by decide +kernel), List.mem_of_getElem? (i := 745) (by decide +kernel), List.mem_of_getElem? (i := 746) (by decide +kernel)⟩
theorem lw_p41 : lw_okq (⟨"FosterSonsModel", "holeOf", "(I)I"⟩, 27) := ⟨⟨by decide +kernel, by decide +kernel⟩, List.mem_of_getElem? (i := 521) (by decide +kernel), List.mem_of_getElem? (i := 753) (by decide +kernel), List.mem_of_getElem? (i := 754) (by decide +kernel)⟩
theorem lw_p42 : lw_okq (⟨"FosterSonsModel", "areSo", "()Z"⟩, 27) := ⟨⟨by decide +kernel, by decide +kernel⟩, List.mem_of_getElem? (i := 521) (by decide +kernel), List.mem_of_getElem? (i := 773) (by decide +kernel), List.mem_of_getElem? (i := 774) (by decide +kernel)⟩
theorem lw_p43 : lw_okq (⟨"FosterSonsModel", "sentSet", "()I"⟩, 27) := ⟨⟨by decide +kernel, by decide +kernel⟩, List.mem_of_getElem? (i := 521) (by decide +kernel), List.mem_of_getElem? (i := 790) (by decide +kernel), List.mem_of_getElem? (i := 791) (by decide +kernel)⟩
theorem lw_p44 : lw_okq (⟨"FosterSonsModel", "lost", "(I)J"⟩, 27) := ⟨⟨by decide +kernel, by decide +kernel⟩, List.mem_of_getElem? (i := 521) (by decide +kernel), List.mem_of_getElem? (i := 813) (by decide +kernel), List.mem_of_getElem? (i := 814) (by decide +kernel)⟩
theorem lw_p45 : lw_okq (⟨"FosterSonsModel", "begins", "(I)V"⟩, 27) := ⟨⟨by decide +kernel, by decide +kernel⟩, List.mem_of_getElem? (i := 521) (by decide +kernel), List.mem_of_getElem? (i := 825) (by decide +kernel), List.mem_of_getElem? (i := 826) (by decide +kernel)⟩
def lw_privs_3 : List (MethodName × Nat) := [(⟨"FosterSonsModel", "stakeBy", "(III)I"⟩, 27), (⟨"FosterSonsModel", "askNow", "()V"⟩, 27), (⟨"FosterSonsModel", "stakesBy", "(II)I"⟩, 27), (⟨"FosterSonsModel", "temptedSet", "(I)I"⟩, 27), (⟨"FosterSonsModel", "isTempted", "(II)Z"⟩, 27), (⟨"FosterSonsModel", "breakYear", "()I"⟩, 27), (⟨"FosterSonsModel", "breakCourt", "()I"⟩, 27), (⟨"FosterSonsModel", "tellPlan", "(I)I"⟩, 27), (⟨"FosterSonsModel", "askSet", "(I)V"⟩, 27), (⟨"FosterSonsModel", "holeOf", "(I)I"⟩, 27), (⟨"FosterSonsModel", "areSo", "()Z"⟩, 27), (⟨"FosterSonsModel", "sentSet", "()I"⟩, 27), (⟨"FosterSonsModel", "lost", "(I)J"⟩, 27), (⟨"FosterSonsModel", "begins", "(I)V"⟩, 27)]
theorem lw_r3 : ∀ q ∈ lw_privs_3, lw_okq q := List.forall_mem_cons.mpr ⟨lw_p32, List.forall_mem_cons.mpr ⟨lw_p33, List.forall_mem_cons.mpr ⟨lw_p34, List.forall_mem_cons.mpr ⟨lw_p35, List.forall_mem_cons.mpr ⟨lw_p36, List.forall_mem_cons.mpr ⟨lw_p37, List.forall_mem_cons.mpr ⟨lw_p38, List.forall_mem_cons.mpr ⟨lw_p39, List.forall_mem_cons.mpr ⟨lw_p40, List.forall_mem_cons.mpr ⟨lw_p41, List.forall_mem_cons.mpr ⟨lw_p42, List.forall_mem_cons.mpr ⟨lw_p43, List.forall_mem_cons.mpr ⟨lw_p44, List.forall_mem_cons.mpr ⟨lw_p45, fun _ h => absurd h List.not_mem_nil⟩⟩⟩⟩⟩⟩⟩⟩⟩⟩⟩⟩⟩⟩
def lw_privs : List (MethodName × Nat) := lw_privs_1 ++ (lw_privs_2 ++ (lw_privs_3))
def lw_tbl : List Cond := k2_sels lw_privs ++ tables_1
theorem lw_privs_ok : ∀ q ∈ lw_privs, lw_okq q := by
  show ∀ q ∈ lw_privs_1 ++ (lw_privs_2 ++ (lw_privs_3)), lw_okq q
  exact List.forall_mem_append.mpr ⟨lw_r1, List.forall_mem_append.mpr ⟨lw_r2, lw_r3⟩⟩
-- ===== end of PART A; then your names; then what follows =====
end
section
/-! ===== BEGIN words of one list among another's, by their places ===== -/
theorem goodIn_r {big : List Cond} (ws : List Cond) (ps : List Nat) (hp : ws = ps.filterMap (fun i => big[i]?)) (h : ws.all goodWord = true) : GoodIn big ws := by
  intro w hw
  have h1 := List.all_eq_true.mp h w hw
  rw [hp] at hw
  obtain ⟨i, -, hi⟩ := List.mem_filterMap.mp hw
  have hm : w ∈ big := by first | exact List.mem_of_getElem? hi | exact List.getElem?_mem hi
  exact ⟨hm, good_of_word h1⟩
theorem goodIn_app {big a b : List Cond} (ha : GoodIn big a) (hb : GoodIn big b) : GoodIn big (a ++ b) := fun w h => (List.mem_append.mp h).elim (ha w) (hb w)
theorem goodIn_ca {big a b : List Cond} {c : Cond} (ha : GoodIn big (c :: a)) (hb : GoodIn big b) : GoodIn big (c :: (a ++ b)) := fun w h => (List.mem_cons.mp h).elim (fun e => ha w (List.mem_cons.mpr (Or.inl e))) (fun h => (List.mem_append.mp h).elim (fun h => ha w (List.mem_cons.mpr (Or.inr h))) (hb w))
theorem goodIn_sub {big ws : List Cond} (hm : ∀ w ∈ ws, w ∈ big) (h : ws.all goodWord = true) : GoodIn big ws := fun w hw => ⟨hm w hw, good_of_word (List.all_eq_true.mp h w hw)⟩
/-! ===== END ===== -/

/-! ===== BEGIN printed: names, fields, word lists, decode rows ===== -/
def RX0 : String := "FosterSons$Readings"
def TX0 : u_T := fun k => match k with
  | 0 => ("FosterSons$Readings", "court", "[I", true)
  | 1 => ("FosterSons$Readings", "year", "[I", true)
  | 2 => ("FosterSons$Readings", "was", "[Z", true)
  | _ => ("FosterSons$Readings", "count", "I", false)
def tyX0 : Nat → FieldType := fun k => match k with
  | 0 => .array .int
  | 1 => .array .int
  | 2 => .array .boolean
  | _ => .int
abbrev wsX00 : List Cond := u_ws RX0 TX0 4
theorem nmX0 : ∀ a, a < 4 → ∀ b, b < 4 → a ≠ b → (TX0 a).2.1 ≠ (TX0 b).2.1 := by decide +kernel
theorem tyX0_ok : ∀ k, k < 4 → parseFieldDescriptor (TX0 k).2.2.1 = some (tyX0 k) := by decide +kernel
abbrev cX0_init : ByteArray := prog_2_method_1_code
def yX0_init : MethodName := ⟨RX0, "<init>", "()V"⟩
abbrev cX0_note : ByteArray := prog_2_method_2_code
def yX0_note : MethodName := ⟨RX0, "note", "(IIZ)I"⟩
abbrev cX0_allSo : ByteArray := prog_2_method_3_code
def yX0_allSo : MethodName := ⟨RX0, "allSo", "(LFosterSons$Treaty;LFosterSons$Sending;)Z"⟩
def RX1 : String := "FosterSons$Sending"
def TX1 : u_T := fun k => match k with
  | 0 => ("FosterSons$Sending", "to", "[I", true)
  | _ => ("FosterSons$Sending", "from", "[I", true)
def tyX1 : Nat → FieldType := fun k => match k with
  | 0 => .array .int
  | _ => .array .int
abbrev wsX10 : List Cond := u_ws RX1 TX1 2
theorem nmX1 : ∀ a, a < 2 → ∀ b, b < 2 → a ≠ b → (TX1 a).2.1 ≠ (TX1 b).2.1 := by decide +kernel
theorem tyX1_ok : ∀ k, k < 2 → parseFieldDescriptor (TX1 k).2.2.1 = some (tyX1 k) := by decide +kernel
abbrev cX1_init : ByteArray := prog_3_method_1_code
def yX1_init : MethodName := ⟨RX1, "<init>", "()V"⟩
abbrev cX1_nobody : ByteArray := prog_3_method_2_code
def yX1_nobody : MethodName := ⟨RX1, "nobody", "()V"⟩
abbrev cX1_fromTheStart : ByteArray := prog_3_method_3_code
def yX1_fromTheStart : MethodName := ⟨RX1, "fromTheStart", "(I)V"⟩
abbrev cX1_ever : ByteArray := prog_3_method_4_code
def yX1_ever : MethodName := ⟨RX1, "ever", "(I)Z"⟩
abbrev cX1_isAway : ByteArray := prog_3_method_5_code
def yX1_isAway : MethodName := ⟨RX1, "isAway", "(II)Z"⟩
abbrev cX1_howManyBy : ByteArray := prog_3_method_6_code
def yX1_howManyBy : MethodName := ⟨RX1, "howManyBy", "(I)I"⟩
abbrev cX1_setOf : ByteArray := prog_3_method_7_code
def yX1_setOf : MethodName := ⟨RX1, "setOf", "()I"⟩
def RX2 : String := "FosterSons$Sheet"
def TX2 : u_T := fun k => match k with
  | 0 => ("FosterSons$Sheet", "cells", "[I", true)
  | 1 => ("FosterSons$Sheet", "hasRow", "Z", false)
  | 2 => ("FosterSons$Sheet", "lane", "I", false)
  | _ => ("FosterSons$Sheet", "length", "I", false)
def tyX2 : Nat → FieldType := fun k => match k with
  | 0 => .array .int
  | 1 => .boolean
  | 2 => .int
  | _ => .int
abbrev wsX20 : List Cond := u_ws RX2 TX2 4
theorem nmX2 : ∀ a, a < 4 → ∀ b, b < 4 → a ≠ b → (TX2 a).2.1 ≠ (TX2 b).2.1 := by decide +kernel
theorem tyX2_ok : ∀ k, k < 4 → parseFieldDescriptor (TX2 k).2.2.1 = some (tyX2 k) := by decide +kernel
abbrev cX2_init : ByteArray := prog_4_method_1_code
def yX2_init : MethodName := ⟨RX2, "<init>", "()V"⟩
abbrev cX2_begin : ByteArray := prog_4_method_2_code
def yX2_begin : MethodName := ⟨RX2, "begin", "(II)V"⟩
abbrev cX2_hasCell : ByteArray := prog_4_method_3_code
def yX2_hasCell : MethodName := ⟨RX2, "hasCell", "(I)Z"⟩
abbrev cX2_hasCells : ByteArray := prog_4_method_4_code
def yX2_hasCells : MethodName := ⟨RX2, "hasCells", "(II)Z"⟩
abbrev cX2_at : ByteArray := prog_4_method_5_code
def yX2_at : MethodName := ⟨RX2, "at", "(I)I"⟩
abbrev cX2_write : ByteArray := prog_4_method_6_code
def yX2_write : MethodName := ⟨RX2, "write", "(II)V"⟩
abbrev cX2_cut : ByteArray := prog_4_method_7_code
def yX2_cut : MethodName := ⟨RX2, "cut", "(I)I"⟩
def RX3 : String := "FosterSons$Text"
def TX3 : u_T := fun k => match k with
  | 0 => ("FosterSons$Text", "codes", "[I", true)
  | 1 => ("FosterSons$Text", "length", "I", false)
  | _ => ("FosterSons$Text", "place", "I", false)
def tyX3 : Nat → FieldType := fun k => match k with
  | 0 => .array .int
  | 1 => .int
  | _ => .int
abbrev wsX30 : List Cond := u_ws RX3 TX3 3
theorem nmX3 : ∀ a, a < 3 → ∀ b, b < 3 → a ≠ b → (TX3 a).2.1 ≠ (TX3 b).2.1 := by decide +kernel
theorem tyX3_ok : ∀ k, k < 3 → parseFieldDescriptor (TX3 k).2.2.1 = some (tyX3 k) := by decide +kernel
abbrev cX3_init : ByteArray := prog_5_method_1_code
def yX3_init : MethodName := ⟨RX3, "<init>", "()V"⟩
abbrev cX3_open : ByteArray := prog_5_method_2_code
def yX3_open : MethodName := ⟨RX3, "open", "(LFosterSons$Sheet;II)V"⟩
abbrev cX3_isAtEnd : ByteArray := prog_5_method_3_code
def yX3_isAtEnd : MethodName := ⟨RX3, "isAtEnd", "()Z"⟩
abbrev cX3_takes : ByteArray := prog_5_method_4_code
def yX3_takes : MethodName := ⟨RX3, "takes", "(C)Z"⟩
abbrev cX3_takesDigit : ByteArray := prog_5_method_5_code
def yX3_takesDigit : MethodName := ⟨RX3, "takesDigit", "(II)I"⟩
abbrev cX3_takesKind : ByteArray := prog_5_method_6_code
def yX3_takesKind : MethodName := ⟨RX3, "takesKind", "()I"⟩
def RX4 : String := "FosterSons$Treaty"
def TX4 : u_T := fun k => match k with
  | 0 => ("FosterSons$Treaty", "courts", "I", false)
  | 1 => ("FosterSons$Treaty", "years", "I", false)
  | 2 => ("FosterSons$Treaty", "sons", "I", false)
  | 3 => ("FosterSons$Treaty", "gains", "[[I", true)
  | 4 => ("FosterSons$Treaty", "kind", "[I", true)
  | 5 => ("FosterSons$Treaty", "father", "[I", true)
  | 6 => ("FosterSons$Treaty", "worth", "[I", true)
  | _ => ("FosterSons$Treaty", "fond", "[I", true)
def tyX4 : Nat → FieldType := fun k => match k with
  | 0 => .int
  | 1 => .int
  | 2 => .int
  | 3 => .array (.array .int)
  | 4 => .array .int
  | 5 => .array .int
  | 6 => .array .int
  | _ => .array .int
abbrev wsX40 : List Cond := u_ws RX4 TX4 8
theorem nmX4 : ∀ a, a < 8 → ∀ b, b < 8 → a ≠ b → (TX4 a).2.1 ≠ (TX4 b).2.1 := by decide +kernel
theorem tyX4_ok : ∀ k, k < 8 → parseFieldDescriptor (TX4 k).2.2.1 = some (tyX4 k) := by decide +kernel
abbrev cX4_init : ByteArray := prog_6_method_1_code
def yX4_init : MethodName := ⟨RX4, "<init>", "()V"⟩
abbrev cX4_readsAll : ByteArray := prog_6_method_2_code
def yX4_readsAll : MethodName := ⟨RX4, "readsAll", "(LFosterSons$Text;)Z"⟩
abbrev cX4_readsHead : ByteArray := prog_6_method_3_code
def yX4_readsHead : MethodName := ⟨RX4, "readsHead", "(LFosterSons$Text;)Z"⟩
abbrev cX4_readsGains : ByteArray := prog_6_method_4_code
def yX4_readsGains : MethodName := ⟨RX4, "readsGains", "(LFosterSons$Text;)Z"⟩
abbrev cX4_readsSons : ByteArray := prog_6_method_5_code
def yX4_readsSons : MethodName := ⟨RX4, "readsSons", "(LFosterSons$Text;)Z"⟩
abbrev cX4_readsSon : ByteArray := prog_6_method_6_code
def yX4_readsSon : MethodName := ⟨RX4, "readsSon", "(LFosterSons$Text;I)Z"⟩
abbrev cX4_costOf : ByteArray := prog_6_method_7_code
def yX4_costOf : MethodName := ⟨RX4, "costOf", "(III)I"⟩
abbrev cX4_costsOf : ByteArray := prog_6_method_8_code
def yX4_costsOf : MethodName := ⟨RX4, "costsOf", "(IILFosterSons$Sending;I)I"⟩
abbrev cX4_wouldBreak : ByteArray := prog_6_method_9_code
def yX4_wouldBreak : MethodName := ⟨RX4, "wouldBreak", "(IILFosterSons$Sending;I)Z"⟩
abbrev cX4_firstToBreak : ByteArray := prog_6_method_10_code
def yX4_firstToBreak : MethodName := ⟨RX4, "firstToBreak", "(ILFosterSons$Sending;I)I"⟩
abbrev cX4_breakYear : ByteArray := prog_6_method_11_code
def yX4_breakYear : MethodName := ⟨RX4, "breakYear", "(LFosterSons$Sending;I)I"⟩
abbrev cX4_breakYearOf : ByteArray := prog_6_method_12_code
def yX4_breakYearOf : MethodName := ⟨RX4, "breakYearOf", "(ILFosterSons$Sending;)I"⟩
def RX5 : String := "FosterSons"
def TX5 : u_T := fun k => match k with
  | 0 => ("FosterSons", "sheets", "[LFosterSons$Sheet;", true)
  | 1 => ("FosterSons", "text", "LFosterSons$Text;", true)
  | 2 => ("FosterSons", "pact", "LFosterSons$Treaty;", false)
  | 3 => ("FosterSons", "draft", "LFosterSons$Treaty;", false)
  | 4 => ("FosterSons", "sent", "LFosterSons$Sending;", true)
  | 5 => ("FosterSons", "trial", "LFosterSons$Sending;", true)
  | 6 => ("FosterSons", "readings", "LFosterSons$Readings;", true)
  | 7 => ("FosterSons", "traced", "I", false)
  | _ => ("FosterSons", "latestFault", "I", false)
def tyX5 : Nat → FieldType := fun k => match k with
  | 0 => .array (.object "FosterSons$Sheet")
  | 1 => .object "FosterSons$Text"
  | 2 => .object "FosterSons$Treaty"
  | 3 => .object "FosterSons$Treaty"
  | 4 => .object "FosterSons$Sending"
  | 5 => .object "FosterSons$Sending"
  | 6 => .object "FosterSons$Readings"
  | 7 => .int
  | _ => .int
abbrev wsX50 : List Cond := u_ws RX5 TX5 9
theorem nmX5 : ∀ a, a < 9 → ∀ b, b < 9 → a ≠ b → (TX5 a).2.1 ≠ (TX5 b).2.1 := by decide +kernel
theorem tyX5_ok : ∀ k, k < 9 → parseFieldDescriptor (TX5 k).2.2.1 = some (tyX5 k) := by decide +kernel
abbrev cX5_init : ByteArray := prog_1_method_1_code
def yX5_init : MethodName := ⟨RX5, "<init>", "()V"⟩
abbrev cX5_treaty : ByteArray := prog_1_method_2_code
def yX5_treaty : MethodName := ⟨RX5, "treaty", "(IIII)I"⟩
abbrev cX5_beginAnew : ByteArray := prog_1_method_3_code
def yX5_beginAnew : MethodName := ⟨RX5, "beginAnew", "()V"⟩
abbrev cX5_ofSon : ByteArray := prog_1_method_4_code
def yX5_ofSon : MethodName := ⟨RX5, "ofSon", "(II)I"⟩
abbrev cX5_gain : ByteArray := prog_1_method_5_code
def yX5_gain : MethodName := ⟨RX5, "gain", "(II)I"⟩
abbrev cX5_tempt : ByteArray := prog_1_method_6_code
def yX5_tempt : MethodName := ⟨RX5, "tempt", "(III)I"⟩
abbrev cX5_send : ByteArray := prog_1_method_7_code
def yX5_send : MethodName := ⟨RX5, "send", "(III)I"⟩
abbrev cX5_home : ByteArray := prog_1_method_8_code
def yX5_home : MethodName := ⟨RX5, "home", "(I)I"⟩
abbrev cX5_stake : ByteArray := prog_1_method_9_code
def yX5_stake : MethodName := ⟨RX5, "stake", "(II)I"⟩
abbrev cX5_stakes : ByteArray := prog_1_method_10_code
def yX5_stakes : MethodName := ⟨RX5, "stakes", "(II)I"⟩
abbrev cX5_tempted : ByteArray := prog_1_method_11_code
def yX5_tempted : MethodName := ⟨RX5, "tempted", "(I)I"⟩
abbrev cX5_broken : ByteArray := prog_1_method_12_code
def yX5_broken : MethodName := ⟨RX5, "broken", "(I)I"⟩
abbrev cX5_ofBreak : ByteArray := prog_1_method_13_code
def yX5_ofBreak : MethodName := ⟨RX5, "ofBreak", "(LFosterSons$Sending;I)I"⟩
abbrev cX5_plan : ByteArray := prog_1_method_14_code
def yX5_plan : MethodName := ⟨RX5, "plan", "(IIIII)I"⟩
abbrev cX5_isOfPlan : ByteArray := prog_1_method_15_code
def yX5_isOfPlan : MethodName := ⟨RX5, "isOfPlan", "(I)Z"⟩
abbrev cX5_tryPlan : ByteArray := prog_1_method_16_code
def yX5_tryPlan : MethodName := ⟨RX5, "tryPlan", "(LFosterSons$Sheet;I)Z"⟩
abbrev cX5_ofTrial : ByteArray := prog_1_method_17_code
def yX5_ofTrial : MethodName := ⟨RX5, "ofTrial", "(I)I"⟩
abbrev cX5_least : ByteArray := prog_1_method_18_code
def yX5_least : MethodName := ⟨RX5, "least", "()I"⟩
abbrev cX5_hole : ByteArray := prog_1_method_19_code
def yX5_hole : MethodName := ⟨RX5, "hole", "(I)I"⟩
abbrev cX5_when : ByteArray := prog_1_method_20_code
def yX5_when : MethodName := ⟨RX5, "when", "(I)I"⟩
abbrev cX5_everySon : ByteArray := prog_1_method_21_code
def yX5_everySon : MethodName := ⟨RX5, "everySon", "()I"⟩
abbrev cX5_reading : ByteArray := prog_1_method_22_code
def yX5_reading : MethodName := ⟨RX5, "reading", "(IIZ)I"⟩
abbrev cX5_back : ByteArray := prog_1_method_23_code
def yX5_back : MethodName := ⟨RX5, "back", "(I)I"⟩
abbrev cX5_worths : ByteArray := prog_1_method_24_code
def yX5_worths : MethodName := ⟨RX5, "worths", "(I)I"⟩
abbrev cX5_kinds : ByteArray := prog_1_method_25_code
def yX5_kinds : MethodName := ⟨RX5, "kinds", "(I)I"⟩
abbrev cX5_fondness : ByteArray := prog_1_method_26_code
def yX5_fondness : MethodName := ⟨RX5, "fondness", "(I)I"⟩
abbrev cX5_fitting : ByteArray := prog_1_method_27_code
def yX5_fitting : MethodName := ⟨RX5, "fitting", "([III)I"⟩
abbrev cX5_odds : ByteArray := prog_1_method_28_code
def yX5_odds : MethodName := ⟨RX5, "odds", "(II)J"⟩
abbrev cX5_breaksBy : ByteArray := prog_1_method_29_code
def yX5_breaksBy : MethodName := ⟨RX5, "breaksBy", "(II)Z"⟩
abbrev cX5_sheet : ByteArray := prog_1_method_30_code
def yX5_sheet : MethodName := ⟨RX5, "sheet", "(III)I"⟩
abbrev cX5_lose : ByteArray := prog_1_method_31_code
def yX5_lose : MethodName := ⟨RX5, "lose", "(I)I"⟩
abbrev cX5_put : ByteArray := prog_1_method_32_code
def yX5_put : MethodName := ⟨RX5, "put", "(III)I"⟩
abbrev cX5_cell : ByteArray := prog_1_method_33_code
def yX5_cell : MethodName := ⟨RX5, "cell", "(III)J"⟩
abbrev cX5_copy : ByteArray := prog_1_method_34_code
def yX5_copy : MethodName := ⟨RX5, "copy", "(IIIII)I"⟩
abbrev cX5_tell : ByteArray := prog_1_method_35_code
def yX5_tell : MethodName := ⟨RX5, "tell", "(I)I"⟩
abbrev cX5_sonTells : ByteArray := prog_1_method_36_code
def yX5_sonTells : MethodName := ⟨RX5, "sonTells", "(I)I"⟩
abbrev cX5_heirTells : ByteArray := prog_1_method_37_code
def yX5_heirTells : MethodName := ⟨RX5, "heirTells", "(I)I"⟩
abbrev cX5_pageTells : ByteArray := prog_1_method_38_code
def yX5_pageTells : MethodName := ⟨RX5, "pageTells", "(I)I"⟩
abbrev cX5_teach : ByteArray := prog_1_method_39_code
def yX5_teach : MethodName := ⟨RX5, "teach", "(I)I"⟩
abbrev cX5_leaveTrace : ByteArray := prog_1_method_40_code
def yX5_leaveTrace : MethodName := ⟨RX5, "leaveTrace", "(I)V"⟩
abbrev cX5_as : ByteArray := prog_1_method_41_code
def yX5_as : MethodName := ⟨RX5, "as", "(II)I"⟩
abbrev cX5_trace : ByteArray := prog_1_method_42_code
def yX5_trace : MethodName := ⟨RX5, "trace", "()I"⟩
abbrev cX5_fault : ByteArray := prog_1_method_43_code
def yX5_fault : MethodName := ⟨RX5, "fault", "()I"⟩
abbrev cX5_many : ByteArray := prog_1_method_44_code
def yX5_many : MethodName := ⟨RX5, "many", "(I)I"⟩
abbrev cX5_hasTreaty : ByteArray := prog_1_method_45_code
def yX5_hasTreaty : MethodName := ⟨RX5, "hasTreaty", "()Z"⟩
abbrev cX5_isSon : ByteArray := prog_1_method_46_code
def yX5_isSon : MethodName := ⟨RX5, "isSon", "(I)Z"⟩
abbrev cX5_isCourt : ByteArray := prog_1_method_47_code
def yX5_isCourt : MethodName := ⟨RX5, "isCourt", "(I)Z"⟩
abbrev cX5_isYear : ByteArray := prog_1_method_48_code
def yX5_isYear : MethodName := ⟨RX5, "isYear", "(I)Z"⟩
abbrev cX5_isSheet : ByteArray := prog_1_method_49_code
def yX5_isSheet : MethodName := ⟨RX5, "isSheet", "(I)Z"⟩
abbrev cX5_isLane : ByteArray := prog_1_method_50_code
def yX5_isLane : MethodName := ⟨RX5, "isLane", "(I)Z"⟩
abbrev cX5_faulted : ByteArray := prog_1_method_51_code
def yX5_faulted : MethodName := ⟨RX5, "faulted", "(I)I"⟩
abbrev cX5_laneFault : ByteArray := prog_1_method_52_code
def yX5_laneFault : MethodName := ⟨RX5, "laneFault", "(LFosterSons$Sheet;I)I"⟩
abbrev cX5_rowFault : ByteArray := prog_1_method_53_code
def yX5_rowFault : MethodName := ⟨RX5, "rowFault", "(LFosterSons$Sheet;III)I"⟩
def RX6 : String := "FosterSonsModel"
def TX6 : u_T := fun k => match k with
  | 0 => ("FosterSonsModel", "fault", "I", false)
  | 1 => ("FosterSonsModel", "trace", "I", false)
  | 2 => ("FosterSonsModel", "sorts", "[I", true)
  | 3 => ("FosterSonsModel", "sheetLong", "[I", true)
  | 4 => ("FosterSonsModel", "cells", "[I", true)
  | 5 => ("FosterSonsModel", "courts", "I", false)
  | 6 => ("FosterSonsModel", "years", "I", false)
  | 7 => ("FosterSonsModel", "sons", "I", false)
  | 8 => ("FosterSonsModel", "gains", "[I", true)
  | 9 => ("FosterSonsModel", "kind", "[I", true)
  | 10 => ("FosterSonsModel", "father", "[I", true)
  | 11 => ("FosterSonsModel", "worth", "[I", true)
  | 12 => ("FosterSonsModel", "fond", "[I", true)
  | 13 => ("FosterSonsModel", "sentTo", "[I", true)
  | 14 => ("FosterSonsModel", "sentFrom", "[I", true)
  | 15 => ("FosterSonsModel", "at", "I", false)
  | 16 => ("FosterSonsModel", "readCourts", "I", false)
  | 17 => ("FosterSonsModel", "readYears", "I", false)
  | 18 => ("FosterSonsModel", "readMany", "I", false)
  | 19 => ("FosterSonsModel", "readGains", "[I", true)
  | 20 => ("FosterSonsModel", "read", "[I", true)
  | 21 => ("FosterSonsModel", "asked", "[I", true)
  | 22 => ("FosterSonsModel", "readings", "I", false)
  | 23 => ("FosterSonsModel", "readCourtOf", "[I", true)
  | 24 => ("FosterSonsModel", "readYear", "[I", true)
  | 25 => ("FosterSonsModel", "readWas", "[Z", true)
  | _ => ("FosterSonsModel", "kept", "[I", true)
def tyX6 : Nat → FieldType := fun k => match k with
  | 0 => .int
  | 1 => .int
  | 2 => .array .int
  | 3 => .array .int
  | 4 => .array .int
  | 5 => .int
  | 6 => .int
  | 7 => .int
  | 8 => .array .int
  | 9 => .array .int
  | 10 => .array .int
  | 11 => .array .int
  | 12 => .array .int
  | 13 => .array .int
  | 14 => .array .int
  | 15 => .int
  | 16 => .int
  | 17 => .int
  | 18 => .int
  | 19 => .array .int
  | 20 => .array .int
  | 21 => .array .int
  | 22 => .int
  | 23 => .array .int
  | 24 => .array .int
  | 25 => .array .boolean
  | _ => .array .int
abbrev wsX60 : List Cond := u_ws RX6 TX6 27
theorem nmX6 : ∀ a, a < 27 → ∀ b, b < 27 → a ≠ b → (TX6 a).2.1 ≠ (TX6 b).2.1 := by decide +kernel
theorem tyX6_ok : ∀ k, k < 27 → parseFieldDescriptor (TX6 k).2.2.1 = some (tyX6 k) := by decide +kernel
abbrev cX6_init : ByteArray := prog_8_method_1_code
def yX6_init : MethodName := ⟨RX6, "<init>", "()V"⟩
abbrev cX6_fails : ByteArray := prog_8_method_3_code
def yX6_fails : MethodName := ⟨RX6, "fails", "(I)I"⟩
abbrev cX6_lost : ByteArray := prog_8_method_4_code
def yX6_lost : MethodName := ⟨RX6, "lost", "(I)J"⟩
abbrev cX6_within : ByteArray := prog_8_method_5_code
def yX6_within : MethodName := ⟨RX6, "within", "(III)Z"⟩
abbrev cX6_isSheet : ByteArray := prog_8_method_6_code
def yX6_isSheet : MethodName := ⟨RX6, "isSheet", "(I)Z"⟩
abbrev cX6_isSort : ByteArray := prog_8_method_7_code
def yX6_isSort : MethodName := ⟨RX6, "isSort", "(I)Z"⟩
abbrev cX6_against : ByteArray := prog_8_method_8_code
def yX6_against : MethodName := ⟨RX6, "against", "(IIII)I"⟩
abbrev cX6_isCourt : ByteArray := prog_8_method_9_code
def yX6_isCourt : MethodName := ⟨RX6, "isCourt", "(I)Z"⟩
abbrev cX6_isYear : ByteArray := prog_8_method_10_code
def yX6_isYear : MethodName := ⟨RX6, "isYear", "(I)Z"⟩
abbrev cX6_isSon : ByteArray := prog_8_method_11_code
def yX6_isSon : MethodName := ⟨RX6, "isSon", "(I)Z"⟩
abbrev cX6_digit : ByteArray := prog_8_method_12_code
def yX6_digit : MethodName := ⟨RX6, "digit", "(III)I"⟩
abbrev cX6_isSign : ByteArray := prog_8_method_13_code
def yX6_isSign : MethodName := ⟨RX6, "isSign", "(II)Z"⟩
abbrev cX6_treaty : ByteArray := prog_8_method_14_code
def yX6_treaty : MethodName := ⟨RX6, "treaty", "(IIII)I"⟩
abbrev cX6_takeTreaty : ByteArray := prog_8_method_15_code
def yX6_takeTreaty : MethodName := ⟨RX6, "takeTreaty", "()V"⟩
abbrev cX6_readTreaty : ByteArray := prog_8_method_16_code
def yX6_readTreaty : MethodName := ⟨RX6, "readTreaty", "(I)Z"⟩
abbrev cX6_readCourt : ByteArray := prog_8_method_17_code
def yX6_readCourt : MethodName := ⟨RX6, "readCourt", "(II)Z"⟩
abbrev cX6_readSon : ByteArray := prog_8_method_18_code
def yX6_readSon : MethodName := ⟨RX6, "readSon", "(I)Z"⟩
abbrev cX6_ofSon : ByteArray := prog_8_method_19_code
def yX6_ofSon : MethodName := ⟨RX6, "ofSon", "(II)I"⟩
abbrev cX6_gain : ByteArray := prog_8_method_20_code
def yX6_gain : MethodName := ⟨RX6, "gain", "(II)I"⟩
abbrev cX6_tempt : ByteArray := prog_8_method_21_code
def yX6_tempt : MethodName := ⟨RX6, "tempt", "(III)I"⟩
abbrev cX6_send : ByteArray := prog_8_method_22_code
def yX6_send : MethodName := ⟨RX6, "send", "(III)I"⟩
abbrev cX6_home : ByteArray := prog_8_method_23_code
def yX6_home : MethodName := ⟨RX6, "home", "(I)I"⟩
abbrev cX6_stakeBy : ByteArray := prog_8_method_24_code
def yX6_stakeBy : MethodName := ⟨RX6, "stakeBy", "(III)I"⟩
abbrev cX6_stake : ByteArray := prog_8_method_25_code
def yX6_stake : MethodName := ⟨RX6, "stake", "(II)I"⟩
abbrev cX6_askNow : ByteArray := prog_8_method_26_code
def yX6_askNow : MethodName := ⟨RX6, "askNow", "()V"⟩
abbrev cX6_stakesBy : ByteArray := prog_8_method_27_code
def yX6_stakesBy : MethodName := ⟨RX6, "stakesBy", "(II)I"⟩
abbrev cX6_isTempted : ByteArray := prog_8_method_28_code
def yX6_isTempted : MethodName := ⟨RX6, "isTempted", "(II)Z"⟩
abbrev cX6_stakes : ByteArray := prog_8_method_29_code
def yX6_stakes : MethodName := ⟨RX6, "stakes", "(II)I"⟩
abbrev cX6_temptedSet : ByteArray := prog_8_method_30_code
def yX6_temptedSet : MethodName := ⟨RX6, "temptedSet", "(I)I"⟩
abbrev cX6_tempted : ByteArray := prog_8_method_31_code
def yX6_tempted : MethodName := ⟨RX6, "tempted", "(I)I"⟩
abbrev cX6_breakYear : ByteArray := prog_8_method_32_code
def yX6_breakYear : MethodName := ⟨RX6, "breakYear", "()I"⟩
abbrev cX6_breakCourt : ByteArray := prog_8_method_33_code
def yX6_breakCourt : MethodName := ⟨RX6, "breakCourt", "()I"⟩
abbrev cX6_broken : ByteArray := prog_8_method_34_code
def yX6_broken : MethodName := ⟨RX6, "broken", "(I)I"⟩
abbrev cX6_plan : ByteArray := prog_8_method_35_code
def yX6_plan : MethodName := ⟨RX6, "plan", "(IIIII)I"⟩
abbrev cX6_tellPlan : ByteArray := prog_8_method_36_code
def yX6_tellPlan : MethodName := ⟨RX6, "tellPlan", "(I)I"⟩
abbrev cX6_size : ByteArray := prog_8_method_37_code
def yX6_size : MethodName := ⟨RX6, "size", "(I)I"⟩
abbrev cX6_askSet : ByteArray := prog_8_method_38_code
def yX6_askSet : MethodName := ⟨RX6, "askSet", "(I)V"⟩
abbrev cX6_least : ByteArray := prog_8_method_39_code
def yX6_least : MethodName := ⟨RX6, "least", "()I"⟩
abbrev cX6_holeOf : ByteArray := prog_8_method_40_code
def yX6_holeOf : MethodName := ⟨RX6, "holeOf", "(I)I"⟩
abbrev cX6_hole : ByteArray := prog_8_method_41_code
def yX6_hole : MethodName := ⟨RX6, "hole", "(I)I"⟩
abbrev cX6_when : ByteArray := prog_8_method_42_code
def yX6_when : MethodName := ⟨RX6, "when", "(I)I"⟩
abbrev cX6_reading : ByteArray := prog_8_method_43_code
def yX6_reading : MethodName := ⟨RX6, "reading", "(IIZ)I"⟩
abbrev cX6_back : ByteArray := prog_8_method_44_code
def yX6_back : MethodName := ⟨RX6, "back", "(I)I"⟩
abbrev cX6_areSo : ByteArray := prog_8_method_45_code
def yX6_areSo : MethodName := ⟨RX6, "areSo", "()Z"⟩
abbrev cX6_worths : ByteArray := prog_8_method_46_code
def yX6_worths : MethodName := ⟨RX6, "worths", "(I)I"⟩
abbrev cX6_kinds : ByteArray := prog_8_method_47_code
def yX6_kinds : MethodName := ⟨RX6, "kinds", "(I)I"⟩
abbrev cX6_fondness : ByteArray := prog_8_method_48_code
def yX6_fondness : MethodName := ⟨RX6, "fondness", "(I)I"⟩
abbrev cX6_inLeastTerms : ByteArray := prog_8_method_49_code
def yX6_inLeastTerms : MethodName := ⟨RX6, "inLeastTerms", "(JJI)J"⟩
abbrev cX6_sentSet : ByteArray := prog_8_method_50_code
def yX6_sentSet : MethodName := ⟨RX6, "sentSet", "()I"⟩
abbrev cX6_odds : ByteArray := prog_8_method_51_code
def yX6_odds : MethodName := ⟨RX6, "odds", "(II)J"⟩
abbrev cX6_sheet : ByteArray := prog_8_method_52_code
def yX6_sheet : MethodName := ⟨RX6, "sheet", "(III)I"⟩
abbrev cX6_lose : ByteArray := prog_8_method_53_code
def yX6_lose : MethodName := ⟨RX6, "lose", "(I)I"⟩
abbrev cX6_put : ByteArray := prog_8_method_54_code
def yX6_put : MethodName := ⟨RX6, "put", "(III)I"⟩
abbrev cX6_cell : ByteArray := prog_8_method_55_code
def yX6_cell : MethodName := ⟨RX6, "cell", "(III)J"⟩
abbrev cX6_copy : ByteArray := prog_8_method_56_code
def yX6_copy : MethodName := ⟨RX6, "copy", "(IIIII)I"⟩
abbrev cX6_begins : ByteArray := prog_8_method_57_code
def yX6_begins : MethodName := ⟨RX6, "begins", "(I)V"⟩
abbrev cX6_tell : ByteArray := prog_8_method_58_code
def yX6_tell : MethodName := ⟨RX6, "tell", "(I)I"⟩
abbrev cX6_teach : ByteArray := prog_8_method_59_code
def yX6_teach : MethodName := ⟨RX6, "teach", "(I)I"⟩
abbrev cX6_as : ByteArray := prog_8_method_60_code
def yX6_as : MethodName := ⟨RX6, "as", "(II)I"⟩
abbrev cX6_trace : ByteArray := prog_8_method_61_code
def yX6_trace : MethodName := ⟨RX6, "trace", "()I"⟩
abbrev cX6_fault : ByteArray := prog_8_method_62_code
def yX6_fault : MethodName := ⟨RX6, "fault", "()I"⟩
abbrev cX6_many : ByteArray := prog_8_method_63_code
def yX6_many : MethodName := ⟨RX6, "many", "(I)I"⟩
def RJ6 : String := "java/lang/Integer"
def TJ6 : u_T := fun k => match k with
  | _ => ("", "", "", false)
def tyJ6 : Nat → FieldType := fun k => match k with
  | _ => .int
abbrev wsJ60 : List Cond := u_ws RJ6 TJ6 0
theorem nmJ6 : ∀ a, a < 0 → ∀ b, b < 0 → a ≠ b → (TJ6 a).2.1 ≠ (TJ6 b).2.1 := by decide +kernel
theorem tyJ6_ok : ∀ k, k < 0 → parseFieldDescriptor (TJ6 k).2.2.1 = some (tyJ6 k) := by decide +kernel
abbrev cJ6_bitCount_0f7a4 : ByteArray := prog_9_method_49_code
def yJ6_bitCount_0f7a4 : MethodName := ⟨RJ6, "bitCount", "(I)I"⟩
def RJ9 : String := "java/lang/Math"
def TJ9 : u_T := fun k => match k with
  | _ => ("", "", "", false)
def tyJ9 : Nat → FieldType := fun k => match k with
  | _ => .int
abbrev wsJ90 : List Cond := u_ws RJ9 TJ9 0
theorem nmJ9 : ∀ a, a < 0 → ∀ b, b < 0 → a ≠ b → (TJ9 a).2.1 ≠ (TJ9 b).2.1 := by decide +kernel
theorem tyJ9_ok : ∀ k, k < 0 → parseFieldDescriptor (TJ9 k).2.2.1 = some (tyJ9 k) := by decide +kernel
abbrev cJ9_max_7cf53 : ByteArray := prog_10_method_65_code
def yJ9_max_7cf53 : MethodName := ⟨RJ9, "max", "(II)I"⟩
abbrev cJ9_min_7cf53 : ByteArray := prog_10_method_69_code
def yJ9_min_7cf53 : MethodName := ⟨RJ9, "min", "(II)I"⟩
def RJ10 : String := "java/lang/System"
def TJ10 : u_T := fun k => match k with
  | _ => ("", "", "", false)
def tyJ10 : Nat → FieldType := fun k => match k with
  | _ => .int
abbrev wsJ100 : List Cond := u_ws RJ10 TJ10 0
theorem nmJ10 : ∀ a, a < 0 → ∀ b, b < 0 → a ≠ b → (TJ10 a).2.1 ≠ (TJ10 b).2.1 := by decide +kernel
theorem tyJ10_ok : ∀ k, k < 0 → parseFieldDescriptor (TJ10 k).2.2.1 = some (tyJ10 k) := by decide +kernel
def RL : String := "FosterSonsLaw"
abbrev cL_law : ByteArray := code
def yL_law : MethodName := ⟨RL, "law", "([I)Z"⟩
def wsX0_init : List Cond := .code yX0_init cX0_init 1 none :: ([.methodLink RX0 3 objectInit, .instanceMethod objectInit, .code objectInit ⟨#[0xb1]⟩ 1 none, .arrayClass .int, .fieldLink RX0 9 "FosterSons$Readings" "court" "[I", .fieldLink RX0 15 "FosterSons$Readings" "year" "[I", .arrayClass .boolean, .fieldLink RX0 18 "FosterSons$Readings" "was" "[Z", .fieldLink RX0 22 "FosterSons$Readings" "count" "I"] ++ wsX00)
def wsX0_note : List Cond := .code yX0_note cX0_note 5 (some .int) :: ([.fieldLink RX0 22 "FosterSons$Readings" "count" "I", .fieldLink RX0 9 "FosterSons$Readings" "court" "[I", .fieldLink RX0 15 "FosterSons$Readings" "year" "[I", .fieldLink RX0 18 "FosterSons$Readings" "was" "[Z"] ++ wsX00)
def wsX1_isAway : List Cond := .code yX1_isAway cX1_isAway 3 (some .boolean) :: ([.fieldLink RX1 15 "FosterSons$Sending" "from" "[I"] ++ wsX10)
def wsX4_costOf : List Cond := .code yX4_costOf cX4_costOf 6 (some .int) :: ([.fieldLink RX4 33 "FosterSons$Treaty" "worth" "[I", .fieldLink RX4 36 "FosterSons$Treaty" "fond" "[I"] ++ wsX40)
def wsX4_costsOf : List Cond := .code yX4_costsOf cX4_costsOf 8 (some .int) :: ([.fieldLink RX4 18 "FosterSons$Treaty" "sons" "I", .fieldLink RX4 30 "FosterSons$Treaty" "father" "[I", .fieldLink RX4 26 "FosterSons$Treaty" "kind" "[I", .fieldLink RX4 77 "FosterSons$Sending" "from" "[I", .methodLink RX4 71 yX1_isAway, .instanceMethod yX1_isAway, .selects RX1 yX1_isAway yX1_isAway, .initialized RX1, .code yX1_isAway cX1_isAway 3 (some .boolean), .fieldLink RX1 15 "FosterSons$Sending" "from" "[I", .methodLink RX4 80 yX4_costOf, .instanceMethod yX4_costOf, .selects RX4 yX4_costOf yX4_costOf, .initialized RX4, .code yX4_costOf cX4_costOf 6 (some .int), .fieldLink RX4 33 "FosterSons$Treaty" "worth" "[I", .fieldLink RX4 36 "FosterSons$Treaty" "fond" "[I"] ++ wsX40 ++ wsX10)
def wsX4_wouldBreak : List Cond := .code yX4_wouldBreak cX4_wouldBreak 5 (some .boolean) :: ([.fieldLink RX4 23 "FosterSons$Treaty" "gains" "[[I", .methodLink RX4 84 yX4_costsOf, .instanceMethod yX4_costsOf, .selects RX4 yX4_costsOf yX4_costsOf, .initialized RX4, .code yX4_costsOf cX4_costsOf 8 (some .int), .fieldLink RX4 18 "FosterSons$Treaty" "sons" "I", .fieldLink RX4 30 "FosterSons$Treaty" "father" "[I", .fieldLink RX4 26 "FosterSons$Treaty" "kind" "[I", .fieldLink RX4 77 "FosterSons$Sending" "from" "[I", .methodLink RX4 71 yX1_isAway, .instanceMethod yX1_isAway, .selects RX1 yX1_isAway yX1_isAway, .initialized RX1, .code yX1_isAway cX1_isAway 3 (some .boolean), .fieldLink RX1 15 "FosterSons$Sending" "from" "[I", .methodLink RX4 80 yX4_costOf, .instanceMethod yX4_costOf, .selects RX4 yX4_costOf yX4_costOf, .code yX4_costOf cX4_costOf 6 (some .int), .fieldLink RX4 33 "FosterSons$Treaty" "worth" "[I", .fieldLink RX4 36 "FosterSons$Treaty" "fond" "[I"] ++ wsX40 ++ wsX10)
def wsX0_allSo_r1 : List Cond := [Cond.fieldLink RX0 22 "FosterSons$Readings" "count" "I", Cond.fieldLink RX0 9 "FosterSons$Readings" "court" "[I", Cond.fieldLink RX0 15 "FosterSons$Readings" "year" "[I", Cond.fieldLink RX0 18 "FosterSons$Readings" "was" "[Z", Cond.methodLink RX0 26 yX4_wouldBreak, Cond.instanceMethod yX4_wouldBreak, Cond.selects RX4 yX4_wouldBreak yX4_wouldBreak, Cond.initialized RX4, Cond.code yX4_wouldBreak cX4_wouldBreak 5 (some .boolean), Cond.fieldLink RX4 23 "FosterSons$Treaty" "gains" "[[I", Cond.methodLink RX4 84 yX4_costsOf, Cond.instanceMethod yX4_costsOf, Cond.selects RX4 yX4_costsOf yX4_costsOf, Cond.code yX4_costsOf cX4_costsOf 8 (some .int), Cond.fieldLink RX4 18 "FosterSons$Treaty" "sons" "I", Cond.fieldLink RX4 30 "FosterSons$Treaty" "father" "[I", Cond.fieldLink RX4 26 "FosterSons$Treaty" "kind" "[I", Cond.fieldLink RX4 77 "FosterSons$Sending" "from" "[I", Cond.methodLink RX4 71 yX1_isAway, Cond.instanceMethod yX1_isAway, Cond.selects RX1 yX1_isAway yX1_isAway, Cond.initialized RX1, Cond.code yX1_isAway cX1_isAway 3 (some .boolean), Cond.fieldLink RX1 15 "FosterSons$Sending" "from" "[I"]
def wsX0_allSo_r2 : List Cond := [Cond.methodLink RX4 80 yX4_costOf, Cond.instanceMethod yX4_costOf, Cond.selects RX4 yX4_costOf yX4_costOf, Cond.code yX4_costOf cX4_costOf 6 (some .int), Cond.fieldLink RX4 33 "FosterSons$Treaty" "worth" "[I", Cond.fieldLink RX4 36 "FosterSons$Treaty" "fond" "[I"]
def wsX0_allSo : List Cond := .code yX0_allSo cX0_allSo 4 (some .boolean) :: ((wsX0_allSo_r1 ++ wsX0_allSo_r2) ++ wsX00 ++ wsX40 ++ wsX10)
def wsX1_fromTheStart : List Cond := .code yX1_fromTheStart cX1_fromTheStart 3 none :: ([.fieldLink RX1 15 "FosterSons$Sending" "from" "[I"] ++ wsX10)
def wsX1_init : List Cond := .code yX1_init cX1_init 1 none :: ([.methodLink RX1 3 objectInit, .instanceMethod objectInit, .code objectInit ⟨#[0xb1]⟩ 1 none, .arrayClass .int, .fieldLink RX1 9 "FosterSons$Sending" "to" "[I", .fieldLink RX1 15 "FosterSons$Sending" "from" "[I", .methodLink RX1 18 yX1_fromTheStart, .instanceMethod yX1_fromTheStart, .selects RX1 yX1_fromTheStart yX1_fromTheStart, .initialized RX1, .code yX1_fromTheStart cX1_fromTheStart 3 none] ++ wsX10)
def wsX1_nobody : List Cond := .code yX1_nobody cX1_nobody 1 none :: ([.methodLink RX1 18 yX1_fromTheStart, .instanceMethod yX1_fromTheStart, .selects RX1 yX1_fromTheStart yX1_fromTheStart, .initialized RX1, .code yX1_fromTheStart cX1_fromTheStart 3 none, .fieldLink RX1 15 "FosterSons$Sending" "from" "[I"] ++ wsX10)
def wsX1_ever : List Cond := .code yX1_ever cX1_ever 2 (some .boolean) :: ([.fieldLink RX1 15 "FosterSons$Sending" "from" "[I"] ++ wsX10)
def wsX1_howManyBy : List Cond := .code yX1_howManyBy cX1_howManyBy 4 (some .int) :: ([.methodLink RX1 22 yX1_isAway, .instanceMethod yX1_isAway, .selects RX1 yX1_isAway yX1_isAway, .initialized RX1, .code yX1_isAway cX1_isAway 3 (some .boolean), .fieldLink RX1 15 "FosterSons$Sending" "from" "[I"] ++ wsX10)
def wsX1_setOf : List Cond := .code yX1_setOf cX1_setOf 3 (some .int) :: ([.methodLink RX1 26 yX1_ever, .instanceMethod yX1_ever, .selects RX1 yX1_ever yX1_ever, .initialized RX1, .code yX1_ever cX1_ever 2 (some .boolean), .fieldLink RX1 15 "FosterSons$Sending" "from" "[I"] ++ wsX10)
def wsX2_init : List Cond := .code yX2_init cX2_init 1 none :: ([.methodLink RX2 3 objectInit, .instanceMethod objectInit, .code objectInit ⟨#[0xb1]⟩ 1 none, .arrayClass .int, .fieldLink RX2 9 "FosterSons$Sheet" "cells" "[I", .fieldLink RX2 15 "FosterSons$Sheet" "hasRow" "Z", .fieldLink RX2 19 "FosterSons$Sheet" "lane" "I", .fieldLink RX2 23 "FosterSons$Sheet" "length" "I"] ++ wsX20)
def wsX2_begin : List Cond := .code yX2_begin cX2_begin 4 none :: ([.fieldLink RX2 15 "FosterSons$Sheet" "hasRow" "Z", .fieldLink RX2 19 "FosterSons$Sheet" "lane" "I", .methodLink RX2 26 Lib.Math.min.name, .static Lib.Math.min.name, .initialized "java/lang/Math", .code Lib.Math.min.name Lib.Math.min.code 2 (some .int), .methodLink RX2 32 Lib.Math.max.name, .static Lib.Math.max.name, .code Lib.Math.max.name Lib.Math.max.code 2 (some .int), .fieldLink RX2 23 "FosterSons$Sheet" "length" "I", .fieldLink RX2 9 "FosterSons$Sheet" "cells" "[I"] ++ wsX20)
def wsX2_hasCell : List Cond := .code yX2_hasCell cX2_hasCell 2 (some .boolean) :: ([.fieldLink RX2 23 "FosterSons$Sheet" "length" "I"] ++ wsX20)
def wsX2_hasCells : List Cond := .code yX2_hasCells cX2_hasCells 3 (some .boolean) :: ([.fieldLink RX2 23 "FosterSons$Sheet" "length" "I"] ++ wsX20)
def wsX2_at : List Cond := .code yX2_at cX2_at 2 (some .int) :: ([.fieldLink RX2 9 "FosterSons$Sheet" "cells" "[I", .methodLink RX2 35 yX2_hasCell, .instanceMethod yX2_hasCell, .selects RX2 yX2_hasCell yX2_hasCell, .initialized RX2, .code yX2_hasCell cX2_hasCell 2 (some .boolean), .fieldLink RX2 23 "FosterSons$Sheet" "length" "I"] ++ wsX20)
def wsX2_cut : List Cond := .code yX2_cut cX2_cut 2 (some .int) :: ([.fieldLink RX2 19 "FosterSons$Sheet" "lane" "I"] ++ wsX20)
def wsX2_write : List Cond := .code yX2_write cX2_write 3 none :: ([.fieldLink RX2 9 "FosterSons$Sheet" "cells" "[I", .methodLink RX2 35 yX2_hasCell, .instanceMethod yX2_hasCell, .selects RX2 yX2_hasCell yX2_hasCell, .initialized RX2, .code yX2_hasCell cX2_hasCell 2 (some .boolean), .fieldLink RX2 23 "FosterSons$Sheet" "length" "I", .methodLink RX2 39 yX2_cut, .instanceMethod yX2_cut, .selects RX2 yX2_cut yX2_cut, .code yX2_cut cX2_cut 2 (some .int), .fieldLink RX2 19 "FosterSons$Sheet" "lane" "I"] ++ wsX20)
def wsX3_init : List Cond := .code yX3_init cX3_init 1 none :: ([.methodLink RX3 3 objectInit, .instanceMethod objectInit, .code objectInit ⟨#[0xb1]⟩ 1 none, .arrayClass .int, .fieldLink RX3 9 "FosterSons$Text" "codes" "[I", .fieldLink RX3 15 "FosterSons$Text" "length" "I", .fieldLink RX3 19 "FosterSons$Text" "place" "I"] ++ wsX30)
def wsX3_open : List Cond := .code yX3_open cX3_open 5 none :: ([.methodLink RX3 22 Lib.Math.min.name, .static Lib.Math.min.name, .initialized "java/lang/Math", .code Lib.Math.min.name Lib.Math.min.code 2 (some .int), .methodLink RX3 28 Lib.Math.max.name, .static Lib.Math.max.name, .code Lib.Math.max.name Lib.Math.max.code 2 (some .int), .fieldLink RX3 15 "FosterSons$Text" "length" "I", .fieldLink RX3 19 "FosterSons$Text" "place" "I", .fieldLink RX3 9 "FosterSons$Text" "codes" "[I", .methodLink RX3 31 yX2_at, .instanceMethod yX2_at, .selects RX2 yX2_at yX2_at, .initialized RX2, .code yX2_at cX2_at 2 (some .int), .fieldLink RX2 9 "FosterSons$Sheet" "cells" "[I", .methodLink RX2 35 yX2_hasCell, .instanceMethod yX2_hasCell, .selects RX2 yX2_hasCell yX2_hasCell, .code yX2_hasCell cX2_hasCell 2 (some .boolean), .fieldLink RX2 23 "FosterSons$Sheet" "length" "I"] ++ wsX30 ++ wsX20)
def wsX3_isAtEnd : List Cond := .code yX3_isAtEnd cX3_isAtEnd 1 (some .boolean) :: ([.fieldLink RX3 19 "FosterSons$Text" "place" "I", .fieldLink RX3 15 "FosterSons$Text" "length" "I"] ++ wsX30)
def wsX3_takesDigit : List Cond := .code yX3_takesDigit cX3_takesDigit 4 (some .int) :: ([.fieldLink RX3 19 "FosterSons$Text" "place" "I", .fieldLink RX3 15 "FosterSons$Text" "length" "I", .fieldLink RX3 9 "FosterSons$Text" "codes" "[I"] ++ wsX30)
def wsX3_takes : List Cond := .code yX3_takes cX3_takes 2 (some .boolean) :: ([.methodLink RX3 37 yX3_takesDigit, .instanceMethod yX3_takesDigit, .selects RX3 yX3_takesDigit yX3_takesDigit, .initialized RX3, .code yX3_takesDigit cX3_takesDigit 4 (some .int), .fieldLink RX3 19 "FosterSons$Text" "place" "I", .fieldLink RX3 15 "FosterSons$Text" "length" "I", .fieldLink RX3 9 "FosterSons$Text" "codes" "[I"] ++ wsX30)
def wsX3_takesKind : List Cond := .code yX3_takesKind cX3_takesKind 1 (some .int) :: ([.methodLink RX3 40 yX3_takes, .instanceMethod yX3_takes, .selects RX3 yX3_takes yX3_takes, .initialized RX3, .code yX3_takes cX3_takes 2 (some .boolean), .methodLink RX3 37 yX3_takesDigit, .instanceMethod yX3_takesDigit, .selects RX3 yX3_takesDigit yX3_takesDigit, .code yX3_takesDigit cX3_takesDigit 4 (some .int), .fieldLink RX3 19 "FosterSons$Text" "place" "I", .fieldLink RX3 15 "FosterSons$Text" "length" "I", .fieldLink RX3 9 "FosterSons$Text" "codes" "[I"] ++ wsX30)
def wsX4_init : List Cond := .code yX4_init cX4_init 1 none :: ([.methodLink RX4 3 objectInit, .instanceMethod objectInit, .code objectInit ⟨#[0xb1]⟩ 1 none, .fieldLink RX4 9 "FosterSons$Treaty" "courts" "I", .fieldLink RX4 15 "FosterSons$Treaty" "years" "I", .fieldLink RX4 18 "FosterSons$Treaty" "sons" "I", .classLink RX4 21 "[[I", .arrayClass .int, .fieldLink RX4 23 "FosterSons$Treaty" "gains" "[[I", .fieldLink RX4 26 "FosterSons$Treaty" "kind" "[I", .fieldLink RX4 30 "FosterSons$Treaty" "father" "[I", .fieldLink RX4 33 "FosterSons$Treaty" "worth" "[I", .fieldLink RX4 36 "FosterSons$Treaty" "fond" "[I"] ++ wsX40)
def wsX4_readsHead : List Cond := .code yX4_readsHead cX4_readsHead 4 (some .boolean) :: ([.fieldLink RX4 9 "FosterSons$Treaty" "courts" "I", .fieldLink RX4 15 "FosterSons$Treaty" "years" "I", .methodLink RX4 49 yX3_takes, .instanceMethod yX3_takes, .selects RX3 yX3_takes yX3_takes, .initialized RX3, .code yX3_takes cX3_takes 2 (some .boolean), .methodLink RX3 37 yX3_takesDigit, .instanceMethod yX3_takesDigit, .selects RX3 yX3_takesDigit yX3_takesDigit, .code yX3_takesDigit cX3_takesDigit 4 (some .int), .fieldLink RX3 19 "FosterSons$Text" "place" "I", .fieldLink RX3 15 "FosterSons$Text" "length" "I", .fieldLink RX3 9 "FosterSons$Text" "codes" "[I", .methodLink RX4 55 yX3_takesDigit] ++ wsX40 ++ wsX30)
def wsX4_readsGains : List Cond := .code yX4_readsGains cX4_readsGains 4 (some .boolean) :: ([.fieldLink RX4 9 "FosterSons$Treaty" "courts" "I", .fieldLink RX4 15 "FosterSons$Treaty" "years" "I", .fieldLink RX4 23 "FosterSons$Treaty" "gains" "[[I", .methodLink RX4 49 yX3_takes, .instanceMethod yX3_takes, .selects RX3 yX3_takes yX3_takes, .initialized RX3, .code yX3_takes cX3_takes 2 (some .boolean), .methodLink RX3 37 yX3_takesDigit, .instanceMethod yX3_takesDigit, .selects RX3 yX3_takesDigit yX3_takesDigit, .code yX3_takesDigit cX3_takesDigit 4 (some .int), .fieldLink RX3 19 "FosterSons$Text" "place" "I", .fieldLink RX3 15 "FosterSons$Text" "length" "I", .fieldLink RX3 9 "FosterSons$Text" "codes" "[I", .methodLink RX4 55 yX3_takesDigit] ++ wsX40 ++ wsX30)
def wsX4_readsSon : List Cond := .code yX4_readsSon cX4_readsSon 3 (some .boolean) :: ([.fieldLink RX4 26 "FosterSons$Treaty" "kind" "[I", .fieldLink RX4 30 "FosterSons$Treaty" "father" "[I", .fieldLink RX4 9 "FosterSons$Treaty" "courts" "I", .fieldLink RX4 33 "FosterSons$Treaty" "worth" "[I", .fieldLink RX4 36 "FosterSons$Treaty" "fond" "[I", .methodLink RX4 49 yX3_takes, .instanceMethod yX3_takes, .selects RX3 yX3_takes yX3_takes, .initialized RX3, .code yX3_takes cX3_takes 2 (some .boolean), .methodLink RX3 37 yX3_takesDigit, .instanceMethod yX3_takesDigit, .selects RX3 yX3_takesDigit yX3_takesDigit, .code yX3_takesDigit cX3_takesDigit 4 (some .int), .fieldLink RX3 19 "FosterSons$Text" "place" "I", .fieldLink RX3 15 "FosterSons$Text" "length" "I", .fieldLink RX3 9 "FosterSons$Text" "codes" "[I", .methodLink RX4 67 yX3_takesKind, .instanceMethod yX3_takesKind, .selects RX3 yX3_takesKind yX3_takesKind, .code yX3_takesKind cX3_takesKind 1 (some .int), .methodLink RX3 40 yX3_takes, .methodLink RX4 55 yX3_takesDigit] ++ wsX40 ++ wsX30)
def wsX4_readsSons_r1 : List Cond := [Cond.fieldLink RX4 18 "FosterSons$Treaty" "sons" "I", Cond.methodLink RX4 59 yX4_readsSon, Cond.instanceMethod yX4_readsSon, Cond.selects RX4 yX4_readsSon yX4_readsSon, Cond.initialized RX4, Cond.code yX4_readsSon cX4_readsSon 3 (some .boolean), Cond.fieldLink RX4 26 "FosterSons$Treaty" "kind" "[I", Cond.fieldLink RX4 30 "FosterSons$Treaty" "father" "[I", Cond.fieldLink RX4 9 "FosterSons$Treaty" "courts" "I", Cond.fieldLink RX4 33 "FosterSons$Treaty" "worth" "[I", Cond.fieldLink RX4 36 "FosterSons$Treaty" "fond" "[I", Cond.methodLink RX4 49 yX3_takes, Cond.instanceMethod yX3_takes, Cond.selects RX3 yX3_takes yX3_takes, Cond.initialized RX3, Cond.code yX3_takes cX3_takes 2 (some .boolean), Cond.methodLink RX3 37 yX3_takesDigit, Cond.instanceMethod yX3_takesDigit, Cond.selects RX3 yX3_takesDigit yX3_takesDigit, Cond.code yX3_takesDigit cX3_takesDigit 4 (some .int), Cond.fieldLink RX3 19 "FosterSons$Text" "place" "I", Cond.fieldLink RX3 15 "FosterSons$Text" "length" "I", Cond.fieldLink RX3 9 "FosterSons$Text" "codes" "[I", Cond.methodLink RX4 67 yX3_takesKind]
def wsX4_readsSons_r2 : List Cond := [Cond.instanceMethod yX3_takesKind, Cond.selects RX3 yX3_takesKind yX3_takesKind, Cond.code yX3_takesKind cX3_takesKind 1 (some .int), Cond.methodLink RX3 40 yX3_takes, Cond.methodLink RX4 55 yX3_takesDigit, Cond.methodLink RX4 63 yX3_isAtEnd, Cond.instanceMethod yX3_isAtEnd, Cond.selects RX3 yX3_isAtEnd yX3_isAtEnd, Cond.code yX3_isAtEnd cX3_isAtEnd 1 (some .boolean)]
def wsX4_readsSons : List Cond := .code yX4_readsSons cX4_readsSons 3 (some .boolean) :: ((wsX4_readsSons_r1 ++ wsX4_readsSons_r2) ++ wsX40 ++ wsX30)
def wsX4_readsAll_r1 : List Cond := [Cond.methodLink RX4 39 yX4_readsHead, Cond.instanceMethod yX4_readsHead, Cond.selects RX4 yX4_readsHead yX4_readsHead, Cond.initialized RX4, Cond.code yX4_readsHead cX4_readsHead 4 (some .boolean), Cond.fieldLink RX4 9 "FosterSons$Treaty" "courts" "I", Cond.fieldLink RX4 15 "FosterSons$Treaty" "years" "I", Cond.methodLink RX4 49 yX3_takes, Cond.instanceMethod yX3_takes, Cond.selects RX3 yX3_takes yX3_takes, Cond.initialized RX3, Cond.code yX3_takes cX3_takes 2 (some .boolean), Cond.methodLink RX3 37 yX3_takesDigit, Cond.instanceMethod yX3_takesDigit, Cond.selects RX3 yX3_takesDigit yX3_takesDigit, Cond.code yX3_takesDigit cX3_takesDigit 4 (some .int), Cond.fieldLink RX3 19 "FosterSons$Text" "place" "I", Cond.fieldLink RX3 15 "FosterSons$Text" "length" "I", Cond.fieldLink RX3 9 "FosterSons$Text" "codes" "[I", Cond.methodLink RX4 55 yX3_takesDigit, Cond.methodLink RX4 43 yX4_readsGains, Cond.instanceMethod yX4_readsGains, Cond.selects RX4 yX4_readsGains yX4_readsGains, Cond.code yX4_readsGains cX4_readsGains 4 (some .boolean)]
def wsX4_readsAll_r2 : List Cond := [Cond.fieldLink RX4 23 "FosterSons$Treaty" "gains" "[[I", Cond.methodLink RX4 46 yX4_readsSons, Cond.instanceMethod yX4_readsSons, Cond.selects RX4 yX4_readsSons yX4_readsSons, Cond.code yX4_readsSons cX4_readsSons 3 (some .boolean), Cond.fieldLink RX4 18 "FosterSons$Treaty" "sons" "I", Cond.methodLink RX4 59 yX4_readsSon, Cond.instanceMethod yX4_readsSon, Cond.selects RX4 yX4_readsSon yX4_readsSon, Cond.code yX4_readsSon cX4_readsSon 3 (some .boolean), Cond.fieldLink RX4 26 "FosterSons$Treaty" "kind" "[I", Cond.fieldLink RX4 30 "FosterSons$Treaty" "father" "[I", Cond.fieldLink RX4 33 "FosterSons$Treaty" "worth" "[I", Cond.fieldLink RX4 36 "FosterSons$Treaty" "fond" "[I", Cond.methodLink RX4 67 yX3_takesKind, Cond.instanceMethod yX3_takesKind, Cond.selects RX3 yX3_takesKind yX3_takesKind, Cond.code yX3_takesKind cX3_takesKind 1 (some .int), Cond.methodLink RX3 40 yX3_takes, Cond.methodLink RX4 63 yX3_isAtEnd, Cond.instanceMethod yX3_isAtEnd, Cond.selects RX3 yX3_isAtEnd yX3_isAtEnd, Cond.code yX3_isAtEnd cX3_isAtEnd 1 (some .boolean)]
def wsX4_readsAll : List Cond := .code yX4_readsAll cX4_readsAll 2 (some .boolean) :: ((wsX4_readsAll_r1 ++ wsX4_readsAll_r2) ++ wsX40 ++ wsX30)
def wsX4_firstToBreak_r1 : List Cond := [Cond.fieldLink RX4 9 "FosterSons$Treaty" "courts" "I", Cond.methodLink RX4 88 yX4_wouldBreak, Cond.instanceMethod yX4_wouldBreak, Cond.selects RX4 yX4_wouldBreak yX4_wouldBreak, Cond.initialized RX4, Cond.code yX4_wouldBreak cX4_wouldBreak 5 (some .boolean), Cond.fieldLink RX4 23 "FosterSons$Treaty" "gains" "[[I", Cond.methodLink RX4 84 yX4_costsOf, Cond.instanceMethod yX4_costsOf, Cond.selects RX4 yX4_costsOf yX4_costsOf, Cond.code yX4_costsOf cX4_costsOf 8 (some .int), Cond.fieldLink RX4 18 "FosterSons$Treaty" "sons" "I", Cond.fieldLink RX4 30 "FosterSons$Treaty" "father" "[I", Cond.fieldLink RX4 26 "FosterSons$Treaty" "kind" "[I", Cond.fieldLink RX4 77 "FosterSons$Sending" "from" "[I", Cond.methodLink RX4 71 yX1_isAway, Cond.instanceMethod yX1_isAway, Cond.selects RX1 yX1_isAway yX1_isAway, Cond.initialized RX1, Cond.code yX1_isAway cX1_isAway 3 (some .boolean), Cond.fieldLink RX1 15 "FosterSons$Sending" "from" "[I", Cond.methodLink RX4 80 yX4_costOf, Cond.instanceMethod yX4_costOf, Cond.selects RX4 yX4_costOf yX4_costOf]
def wsX4_firstToBreak_r2 : List Cond := [Cond.code yX4_costOf cX4_costOf 6 (some .int), Cond.fieldLink RX4 33 "FosterSons$Treaty" "worth" "[I", Cond.fieldLink RX4 36 "FosterSons$Treaty" "fond" "[I"]
def wsX4_firstToBreak : List Cond := .code yX4_firstToBreak cX4_firstToBreak 5 (some .int) :: ((wsX4_firstToBreak_r1 ++ wsX4_firstToBreak_r2) ++ wsX40 ++ wsX10)
def wsX4_breakYear_r1 : List Cond := [Cond.fieldLink RX4 15 "FosterSons$Treaty" "years" "I", Cond.methodLink RX4 92 yX4_firstToBreak, Cond.instanceMethod yX4_firstToBreak, Cond.selects RX4 yX4_firstToBreak yX4_firstToBreak, Cond.initialized RX4, Cond.code yX4_firstToBreak cX4_firstToBreak 5 (some .int), Cond.fieldLink RX4 9 "FosterSons$Treaty" "courts" "I", Cond.methodLink RX4 88 yX4_wouldBreak, Cond.instanceMethod yX4_wouldBreak, Cond.selects RX4 yX4_wouldBreak yX4_wouldBreak, Cond.code yX4_wouldBreak cX4_wouldBreak 5 (some .boolean), Cond.fieldLink RX4 23 "FosterSons$Treaty" "gains" "[[I", Cond.methodLink RX4 84 yX4_costsOf, Cond.instanceMethod yX4_costsOf, Cond.selects RX4 yX4_costsOf yX4_costsOf, Cond.code yX4_costsOf cX4_costsOf 8 (some .int), Cond.fieldLink RX4 18 "FosterSons$Treaty" "sons" "I", Cond.fieldLink RX4 30 "FosterSons$Treaty" "father" "[I", Cond.fieldLink RX4 26 "FosterSons$Treaty" "kind" "[I", Cond.fieldLink RX4 77 "FosterSons$Sending" "from" "[I", Cond.methodLink RX4 71 yX1_isAway, Cond.instanceMethod yX1_isAway, Cond.selects RX1 yX1_isAway yX1_isAway, Cond.initialized RX1]
def wsX4_breakYear_r2 : List Cond := [Cond.code yX1_isAway cX1_isAway 3 (some .boolean), Cond.fieldLink RX1 15 "FosterSons$Sending" "from" "[I", Cond.methodLink RX4 80 yX4_costOf, Cond.instanceMethod yX4_costOf, Cond.selects RX4 yX4_costOf yX4_costOf, Cond.code yX4_costOf cX4_costOf 6 (some .int), Cond.fieldLink RX4 33 "FosterSons$Treaty" "worth" "[I", Cond.fieldLink RX4 36 "FosterSons$Treaty" "fond" "[I"]
def wsX4_breakYear : List Cond := .code yX4_breakYear cX4_breakYear 4 (some .int) :: ((wsX4_breakYear_r1 ++ wsX4_breakYear_r2) ++ wsX40 ++ wsX10)
def wsX4_breakYearOf_r1 : List Cond := [Cond.fieldLink RX4 15 "FosterSons$Treaty" "years" "I", Cond.methodLink RX4 88 yX4_wouldBreak, Cond.instanceMethod yX4_wouldBreak, Cond.selects RX4 yX4_wouldBreak yX4_wouldBreak, Cond.initialized RX4, Cond.code yX4_wouldBreak cX4_wouldBreak 5 (some .boolean), Cond.fieldLink RX4 23 "FosterSons$Treaty" "gains" "[[I", Cond.methodLink RX4 84 yX4_costsOf, Cond.instanceMethod yX4_costsOf, Cond.selects RX4 yX4_costsOf yX4_costsOf, Cond.code yX4_costsOf cX4_costsOf 8 (some .int), Cond.fieldLink RX4 18 "FosterSons$Treaty" "sons" "I", Cond.fieldLink RX4 30 "FosterSons$Treaty" "father" "[I", Cond.fieldLink RX4 26 "FosterSons$Treaty" "kind" "[I", Cond.fieldLink RX4 77 "FosterSons$Sending" "from" "[I", Cond.methodLink RX4 71 yX1_isAway, Cond.instanceMethod yX1_isAway, Cond.selects RX1 yX1_isAway yX1_isAway, Cond.initialized RX1, Cond.code yX1_isAway cX1_isAway 3 (some .boolean), Cond.fieldLink RX1 15 "FosterSons$Sending" "from" "[I", Cond.methodLink RX4 80 yX4_costOf, Cond.instanceMethod yX4_costOf, Cond.selects RX4 yX4_costOf yX4_costOf]
def wsX4_breakYearOf_r2 : List Cond := [Cond.code yX4_costOf cX4_costOf 6 (some .int), Cond.fieldLink RX4 33 "FosterSons$Treaty" "worth" "[I", Cond.fieldLink RX4 36 "FosterSons$Treaty" "fond" "[I"]
def wsX4_breakYearOf : List Cond := .code yX4_breakYearOf cX4_breakYearOf 4 (some .int) :: ((wsX4_breakYearOf_r1 ++ wsX4_breakYearOf_r2) ++ wsX40 ++ wsX10)
def wsX5_init_r1 : List Cond := [Cond.methodLink RX5 3 objectInit, Cond.instanceMethod objectInit, Cond.code objectInit ⟨#[0xb1]⟩ 1 none, Cond.classLink RX5 11 RX2, Cond.fieldLink RX5 13 "FosterSons" "sheets" "[LFosterSons$Sheet;", Cond.classLink RX5 17 RX3, Cond.instantiable RX3 3, Cond.initialized RX3, Cond.fieldLink RX5 20 "FosterSons" "text" "LFosterSons$Text;", Cond.classLink RX5 24 RX4, Cond.instantiable RX4 8, Cond.initialized RX4, Cond.fieldLink RX5 27 "FosterSons" "pact" "LFosterSons$Treaty;", Cond.fieldLink RX5 31 "FosterSons" "draft" "LFosterSons$Treaty;", Cond.classLink RX5 34 RX1, Cond.instantiable RX1 2, Cond.initialized RX1, Cond.fieldLink RX5 37 "FosterSons" "sent" "LFosterSons$Sending;", Cond.fieldLink RX5 41 "FosterSons" "trial" "LFosterSons$Sending;", Cond.classLink RX5 44 RX0, Cond.instantiable RX0 4, Cond.initialized RX0, Cond.fieldLink RX5 47 "FosterSons" "readings" "LFosterSons$Readings;", Cond.fieldLink RX5 51 "FosterSons" "traced" "I"]
def wsX5_init_r2 : List Cond := [Cond.fieldLink RX5 55 "FosterSons" "latestFault" "I", Cond.instantiable RX2 4, Cond.initialized RX2, Cond.instanceMethod yX3_init, Cond.code yX3_init cX3_init 1 none, Cond.methodLink RX3 3 objectInit, Cond.arrayClass .int, Cond.fieldLink RX3 9 "FosterSons$Text" "codes" "[I", Cond.fieldLink RX3 15 "FosterSons$Text" "length" "I", Cond.fieldLink RX3 19 "FosterSons$Text" "place" "I", Cond.instanceMethod yX4_init, Cond.code yX4_init cX4_init 1 none, Cond.methodLink RX4 3 objectInit, Cond.fieldLink RX4 9 "FosterSons$Treaty" "courts" "I", Cond.fieldLink RX4 15 "FosterSons$Treaty" "years" "I", Cond.fieldLink RX4 18 "FosterSons$Treaty" "sons" "I", Cond.classLink RX4 21 "[[I", Cond.fieldLink RX4 23 "FosterSons$Treaty" "gains" "[[I", Cond.fieldLink RX4 26 "FosterSons$Treaty" "kind" "[I", Cond.fieldLink RX4 30 "FosterSons$Treaty" "father" "[I", Cond.fieldLink RX4 33 "FosterSons$Treaty" "worth" "[I", Cond.fieldLink RX4 36 "FosterSons$Treaty" "fond" "[I", Cond.methodLink RX5 36 yX1_init, Cond.instanceMethod yX1_init]
def wsX5_init_r3 : List Cond := [Cond.code yX1_init cX1_init 1 none, Cond.methodLink RX1 3 objectInit, Cond.fieldLink RX1 9 "FosterSons$Sending" "to" "[I", Cond.fieldLink RX1 15 "FosterSons$Sending" "from" "[I", Cond.methodLink RX1 18 yX1_fromTheStart, Cond.instanceMethod yX1_fromTheStart, Cond.selects RX1 yX1_fromTheStart yX1_fromTheStart, Cond.code yX1_fromTheStart cX1_fromTheStart 3 none, Cond.instanceMethod yX0_init, Cond.code yX0_init cX0_init 1 none, Cond.methodLink RX0 3 objectInit, Cond.fieldLink RX0 9 "FosterSons$Readings" "court" "[I", Cond.fieldLink RX0 15 "FosterSons$Readings" "year" "[I", Cond.arrayClass .boolean, Cond.fieldLink RX0 18 "FosterSons$Readings" "was" "[Z", Cond.fieldLink RX0 22 "FosterSons$Readings" "count" "I", Cond.instanceMethod yX2_init, Cond.code yX2_init cX2_init 1 none, Cond.methodLink RX2 3 objectInit, Cond.fieldLink RX2 9 "FosterSons$Sheet" "cells" "[I", Cond.fieldLink RX2 15 "FosterSons$Sheet" "hasRow" "Z", Cond.fieldLink RX2 19 "FosterSons$Sheet" "lane" "I", Cond.fieldLink RX2 23 "FosterSons$Sheet" "length" "I"]
def wsX5_init : List Cond := .code yX5_init cX5_init 2 none :: ((wsX5_init_r1 ++ (wsX5_init_r2 ++ wsX5_init_r3)) ++ wsX50 ++ wsX30 ++ wsX40 ++ wsX10 ++ wsX00 ++ wsX20)
def wsX5_isSheet : List Cond := .code yX5_isSheet cX5_isSheet 1 (some .boolean) :: ([])
def wsX5_isLane : List Cond := .code yX5_isLane cX5_isLane 1 (some .boolean) :: ([])
def wsX5_laneFault : List Cond := .code yX5_laneFault cX5_laneFault 2 (some .int) :: ([.fieldLink RX5 226 "FosterSons$Sheet" "hasRow" "Z", .fieldLink RX5 240 "FosterSons$Sheet" "lane" "I"] ++ wsX20)
def wsX5_rowFault : List Cond := .code yX5_rowFault cX5_rowFault 5 (some .int) :: ([.methodLink RX5 236 yX5_laneFault, .static yX5_laneFault, .initialized RX5, .code yX5_laneFault cX5_laneFault 2 (some .int), .fieldLink RX5 226 "FosterSons$Sheet" "hasRow" "Z", .fieldLink RX5 240 "FosterSons$Sheet" "lane" "I", .methodLink RX5 243 yX2_hasCells, .instanceMethod yX2_hasCells, .selects RX2 yX2_hasCells yX2_hasCells, .initialized RX2, .code yX2_hasCells cX2_hasCells 3 (some .boolean), .fieldLink RX2 23 "FosterSons$Sheet" "length" "I"] ++ wsX20)
def wsX5_faulted : List Cond := .code yX5_faulted cX5_faulted 2 (some .int) :: ([.fieldLink RX5 55 "FosterSons" "latestFault" "I"] ++ wsX50)
def wsX5_beginAnew : List Cond := .code yX5_beginAnew cX5_beginAnew 2 none :: ([.fieldLink RX5 27 "FosterSons" "pact" "LFosterSons$Treaty;", .fieldLink RX5 31 "FosterSons" "draft" "LFosterSons$Treaty;", .fieldLink RX5 37 "FosterSons" "sent" "LFosterSons$Sending;", .fieldLink RX5 47 "FosterSons" "readings" "LFosterSons$Readings;", .fieldLink RX5 94 "FosterSons$Readings" "count" "I", .methodLink RX5 91 yX1_nobody, .instanceMethod yX1_nobody, .selects RX1 yX1_nobody yX1_nobody, .initialized RX1, .code yX1_nobody cX1_nobody 1 none, .methodLink RX1 18 yX1_fromTheStart, .instanceMethod yX1_fromTheStart, .selects RX1 yX1_fromTheStart yX1_fromTheStart, .code yX1_fromTheStart cX1_fromTheStart 3 none, .fieldLink RX1 15 "FosterSons$Sending" "from" "[I"] ++ wsX50 ++ wsX00 ++ wsX10)
def wsX5_treaty_r1 : List Cond := [Cond.fieldLink RX5 55 "FosterSons" "latestFault" "I", Cond.fieldLink RX5 13 "FosterSons" "sheets" "[LFosterSons$Sheet;", Cond.fieldLink RX5 20 "FosterSons" "text" "LFosterSons$Text;", Cond.fieldLink RX5 31 "FosterSons" "draft" "LFosterSons$Treaty;", Cond.fieldLink RX5 82 "FosterSons$Text" "place" "I", Cond.fieldLink RX5 27 "FosterSons" "pact" "LFosterSons$Treaty;", Cond.fieldLink RX5 88 "FosterSons$Treaty" "sons" "I", Cond.methodLink RX5 59 yX5_isSheet, Cond.static yX5_isSheet, Cond.initialized RX5, Cond.code yX5_isSheet cX5_isSheet 1 (some .boolean), Cond.methodLink RX5 63 yX5_isLane, Cond.static yX5_isLane, Cond.code yX5_isLane cX5_isLane 1 (some .boolean), Cond.methodLink RX5 66 yX5_rowFault, Cond.static yX5_rowFault, Cond.code yX5_rowFault cX5_rowFault 5 (some .int), Cond.methodLink RX5 236 yX5_laneFault, Cond.static yX5_laneFault, Cond.code yX5_laneFault cX5_laneFault 2 (some .int), Cond.fieldLink RX5 226 "FosterSons$Sheet" "hasRow" "Z", Cond.fieldLink RX5 240 "FosterSons$Sheet" "lane" "I", Cond.methodLink RX5 243 yX2_hasCells, Cond.instanceMethod yX2_hasCells]
def wsX5_treaty_r2 : List Cond := [Cond.selects RX2 yX2_hasCells yX2_hasCells, Cond.initialized RX2, Cond.code yX2_hasCells cX2_hasCells 3 (some .boolean), Cond.fieldLink RX2 23 "FosterSons$Sheet" "length" "I", Cond.methodLink RX5 70 yX5_faulted, Cond.instanceMethod yX5_faulted, Cond.selects RX5 yX5_faulted yX5_faulted, Cond.code yX5_faulted cX5_faulted 2 (some .int), Cond.methodLink RX5 74 yX3_open, Cond.instanceMethod yX3_open, Cond.selects RX3 yX3_open yX3_open, Cond.initialized RX3, Cond.code yX3_open cX3_open 5 none, Cond.methodLink RX3 22 Lib.Math.min.name, Cond.static Lib.Math.min.name, Cond.initialized "java/lang/Math", Cond.code Lib.Math.min.name Lib.Math.min.code 2 (some .int), Cond.methodLink RX3 28 Lib.Math.max.name, Cond.static Lib.Math.max.name, Cond.code Lib.Math.max.name Lib.Math.max.code 2 (some .int), Cond.fieldLink RX3 15 "FosterSons$Text" "length" "I", Cond.fieldLink RX3 19 "FosterSons$Text" "place" "I", Cond.fieldLink RX3 9 "FosterSons$Text" "codes" "[I", Cond.methodLink RX3 31 yX2_at]
def wsX5_treaty_r3 : List Cond := [Cond.instanceMethod yX2_at, Cond.selects RX2 yX2_at yX2_at, Cond.code yX2_at cX2_at 2 (some .int), Cond.fieldLink RX2 9 "FosterSons$Sheet" "cells" "[I", Cond.methodLink RX2 35 yX2_hasCell, Cond.instanceMethod yX2_hasCell, Cond.selects RX2 yX2_hasCell yX2_hasCell, Cond.code yX2_hasCell cX2_hasCell 2 (some .boolean), Cond.methodLink RX5 78 yX4_readsAll, Cond.instanceMethod yX4_readsAll, Cond.selects RX4 yX4_readsAll yX4_readsAll, Cond.initialized RX4, Cond.code yX4_readsAll cX4_readsAll 2 (some .boolean), Cond.methodLink RX4 39 yX4_readsHead, Cond.instanceMethod yX4_readsHead, Cond.selects RX4 yX4_readsHead yX4_readsHead, Cond.code yX4_readsHead cX4_readsHead 4 (some .boolean), Cond.fieldLink RX4 9 "FosterSons$Treaty" "courts" "I", Cond.fieldLink RX4 15 "FosterSons$Treaty" "years" "I", Cond.methodLink RX4 49 yX3_takes, Cond.instanceMethod yX3_takes, Cond.selects RX3 yX3_takes yX3_takes, Cond.code yX3_takes cX3_takes 2 (some .boolean), Cond.methodLink RX3 37 yX3_takesDigit]
def wsX5_treaty_r4 : List Cond := [Cond.instanceMethod yX3_takesDigit, Cond.selects RX3 yX3_takesDigit yX3_takesDigit, Cond.code yX3_takesDigit cX3_takesDigit 4 (some .int), Cond.methodLink RX4 55 yX3_takesDigit, Cond.methodLink RX4 43 yX4_readsGains, Cond.instanceMethod yX4_readsGains, Cond.selects RX4 yX4_readsGains yX4_readsGains, Cond.code yX4_readsGains cX4_readsGains 4 (some .boolean), Cond.fieldLink RX4 23 "FosterSons$Treaty" "gains" "[[I", Cond.methodLink RX4 46 yX4_readsSons, Cond.instanceMethod yX4_readsSons, Cond.selects RX4 yX4_readsSons yX4_readsSons, Cond.code yX4_readsSons cX4_readsSons 3 (some .boolean), Cond.fieldLink RX4 18 "FosterSons$Treaty" "sons" "I", Cond.methodLink RX4 59 yX4_readsSon, Cond.instanceMethod yX4_readsSon, Cond.selects RX4 yX4_readsSon yX4_readsSon, Cond.code yX4_readsSon cX4_readsSon 3 (some .boolean), Cond.fieldLink RX4 26 "FosterSons$Treaty" "kind" "[I", Cond.fieldLink RX4 30 "FosterSons$Treaty" "father" "[I", Cond.fieldLink RX4 33 "FosterSons$Treaty" "worth" "[I", Cond.fieldLink RX4 36 "FosterSons$Treaty" "fond" "[I", Cond.methodLink RX4 67 yX3_takesKind, Cond.instanceMethod yX3_takesKind]
def wsX5_treaty_r5 : List Cond := [Cond.selects RX3 yX3_takesKind yX3_takesKind, Cond.code yX3_takesKind cX3_takesKind 1 (some .int), Cond.methodLink RX3 40 yX3_takes, Cond.methodLink RX4 63 yX3_isAtEnd, Cond.instanceMethod yX3_isAtEnd, Cond.selects RX3 yX3_isAtEnd yX3_isAtEnd, Cond.code yX3_isAtEnd cX3_isAtEnd 1 (some .boolean), Cond.methodLink RX5 85 yX5_beginAnew, Cond.instanceMethod yX5_beginAnew, Cond.selects RX5 yX5_beginAnew yX5_beginAnew, Cond.code yX5_beginAnew cX5_beginAnew 2 none, Cond.fieldLink RX5 37 "FosterSons" "sent" "LFosterSons$Sending;", Cond.fieldLink RX5 47 "FosterSons" "readings" "LFosterSons$Readings;", Cond.fieldLink RX5 94 "FosterSons$Readings" "count" "I", Cond.methodLink RX5 91 yX1_nobody, Cond.instanceMethod yX1_nobody, Cond.selects RX1 yX1_nobody yX1_nobody, Cond.initialized RX1, Cond.code yX1_nobody cX1_nobody 1 none, Cond.methodLink RX1 18 yX1_fromTheStart, Cond.instanceMethod yX1_fromTheStart, Cond.selects RX1 yX1_fromTheStart yX1_fromTheStart, Cond.code yX1_fromTheStart cX1_fromTheStart 3 none, Cond.fieldLink RX1 15 "FosterSons$Sending" "from" "[I"]
def wsX5_treaty : List Cond := .code yX5_treaty cX5_treaty 6 (some .int) :: ((wsX5_treaty_r1 ++ (wsX5_treaty_r2 ++ (wsX5_treaty_r3 ++ (wsX5_treaty_r4 ++ wsX5_treaty_r5)))) ++ wsX50 ++ wsX30 ++ wsX40 ++ wsX20 ++ wsX00 ++ wsX10)
def wsX5_isSon : List Cond := .code yX5_isSon cX5_isSon 2 (some .boolean) :: ([.fieldLink RX5 27 "FosterSons" "pact" "LFosterSons$Treaty;", .fieldLink RX5 88 "FosterSons$Treaty" "sons" "I"] ++ wsX50 ++ wsX40)
def wsX5_ofSon : List Cond := .code yX5_ofSon cX5_ofSon 3 (some .int) :: ([.fieldLink RX5 27 "FosterSons" "pact" "LFosterSons$Treaty;", .fieldLink RX5 100 "FosterSons$Treaty" "kind" "[I", .fieldLink RX5 104 "FosterSons$Treaty" "father" "[I", .fieldLink RX5 107 "FosterSons$Treaty" "worth" "[I", .fieldLink RX5 110 "FosterSons$Treaty" "fond" "[I", .fieldLink RX5 37 "FosterSons" "sent" "LFosterSons$Sending;", .fieldLink RX5 116 "FosterSons$Sending" "to" "[I", .fieldLink RX5 119 "FosterSons$Sending" "from" "[I", .methodLink RX5 97 yX5_isSon, .instanceMethod yX5_isSon, .selects RX5 yX5_isSon yX5_isSon, .initialized RX5, .code yX5_isSon cX5_isSon 2 (some .boolean), .fieldLink RX5 88 "FosterSons$Treaty" "sons" "I", .methodLink RX5 113 yX1_ever, .instanceMethod yX1_ever, .selects RX1 yX1_ever yX1_ever, .initialized RX1, .code yX1_ever cX1_ever 2 (some .boolean), .fieldLink RX1 15 "FosterSons$Sending" "from" "[I"] ++ wsX50 ++ wsX40 ++ wsX10)
def wsX5_isCourt : List Cond := .code yX5_isCourt cX5_isCourt 2 (some .boolean) :: ([.fieldLink RX5 27 "FosterSons" "pact" "LFosterSons$Treaty;", .fieldLink RX5 148 "FosterSons$Treaty" "courts" "I"] ++ wsX50 ++ wsX40)
def wsX5_isYear : List Cond := .code yX5_isYear cX5_isYear 2 (some .boolean) :: ([.fieldLink RX5 27 "FosterSons" "pact" "LFosterSons$Treaty;", .fieldLink RX5 179 "FosterSons$Treaty" "years" "I"] ++ wsX50 ++ wsX40)
def wsX5_gain : List Cond := .code yX5_gain cX5_gain 3 (some .int) :: ([.fieldLink RX5 27 "FosterSons" "pact" "LFosterSons$Treaty;", .fieldLink RX5 128 "FosterSons$Treaty" "gains" "[[I", .methodLink RX5 122 yX5_isCourt, .instanceMethod yX5_isCourt, .selects RX5 yX5_isCourt yX5_isCourt, .initialized RX5, .code yX5_isCourt cX5_isCourt 2 (some .boolean), .fieldLink RX5 148 "FosterSons$Treaty" "courts" "I", .methodLink RX5 125 yX5_isYear, .instanceMethod yX5_isYear, .selects RX5 yX5_isYear yX5_isYear, .code yX5_isYear cX5_isYear 2 (some .boolean), .fieldLink RX5 179 "FosterSons$Treaty" "years" "I"] ++ wsX50 ++ wsX40)
def wsX5_tempt : List Cond := .code yX5_tempt cX5_tempt 5 (some .int) :: ([.fieldLink RX5 27 "FosterSons" "pact" "LFosterSons$Treaty;", .fieldLink RX5 128 "FosterSons$Treaty" "gains" "[[I", .methodLink RX5 122 yX5_isCourt, .instanceMethod yX5_isCourt, .selects RX5 yX5_isCourt yX5_isCourt, .initialized RX5, .code yX5_isCourt cX5_isCourt 2 (some .boolean), .fieldLink RX5 148 "FosterSons$Treaty" "courts" "I", .methodLink RX5 125 yX5_isYear, .instanceMethod yX5_isYear, .selects RX5 yX5_isYear yX5_isYear, .code yX5_isYear cX5_isYear 2 (some .boolean), .fieldLink RX5 179 "FosterSons$Treaty" "years" "I"] ++ wsX50 ++ wsX40)
def wsX5_send_r1 : List Cond := [Cond.fieldLink RX5 27 "FosterSons" "pact" "LFosterSons$Treaty;", Cond.fieldLink RX5 104 "FosterSons$Treaty" "father" "[I", Cond.fieldLink RX5 37 "FosterSons" "sent" "LFosterSons$Sending;", Cond.fieldLink RX5 116 "FosterSons$Sending" "to" "[I", Cond.fieldLink RX5 119 "FosterSons$Sending" "from" "[I", Cond.methodLink RX5 97 yX5_isSon, Cond.instanceMethod yX5_isSon, Cond.selects RX5 yX5_isSon yX5_isSon, Cond.initialized RX5, Cond.code yX5_isSon cX5_isSon 2 (some .boolean), Cond.fieldLink RX5 88 "FosterSons$Treaty" "sons" "I", Cond.methodLink RX5 122 yX5_isCourt, Cond.instanceMethod yX5_isCourt, Cond.selects RX5 yX5_isCourt yX5_isCourt, Cond.code yX5_isCourt cX5_isCourt 2 (some .boolean), Cond.fieldLink RX5 148 "FosterSons$Treaty" "courts" "I", Cond.methodLink RX5 125 yX5_isYear, Cond.instanceMethod yX5_isYear, Cond.selects RX5 yX5_isYear yX5_isYear, Cond.code yX5_isYear cX5_isYear 2 (some .boolean), Cond.fieldLink RX5 179 "FosterSons$Treaty" "years" "I", Cond.methodLink RX5 113 yX1_ever, Cond.instanceMethod yX1_ever, Cond.selects RX1 yX1_ever yX1_ever]
def wsX5_send_r2 : List Cond := [Cond.initialized RX1, Cond.code yX1_ever cX1_ever 2 (some .boolean), Cond.fieldLink RX1 15 "FosterSons$Sending" "from" "[I"]
def wsX5_send : List Cond := .code yX5_send cX5_send 5 (some .int) :: ((wsX5_send_r1 ++ wsX5_send_r2) ++ wsX50 ++ wsX40 ++ wsX10)
def wsX5_home : List Cond := .code yX5_home cX5_home 2 (some .int) :: ([.fieldLink RX5 37 "FosterSons" "sent" "LFosterSons$Sending;", .fieldLink RX5 119 "FosterSons$Sending" "from" "[I", .methodLink RX5 97 yX5_isSon, .instanceMethod yX5_isSon, .selects RX5 yX5_isSon yX5_isSon, .initialized RX5, .code yX5_isSon cX5_isSon 2 (some .boolean), .fieldLink RX5 27 "FosterSons" "pact" "LFosterSons$Treaty;", .fieldLink RX5 88 "FosterSons$Treaty" "sons" "I", .methodLink RX5 113 yX1_ever, .instanceMethod yX1_ever, .selects RX1 yX1_ever yX1_ever, .initialized RX1, .code yX1_ever cX1_ever 2 (some .boolean), .fieldLink RX1 15 "FosterSons$Sending" "from" "[I"] ++ wsX50 ++ wsX10 ++ wsX40)
def wsX5_stake_r1 : List Cond := [Cond.fieldLink RX5 37 "FosterSons" "sent" "LFosterSons$Sending;", Cond.fieldLink RX5 27 "FosterSons" "pact" "LFosterSons$Treaty;", Cond.fieldLink RX5 100 "FosterSons$Treaty" "kind" "[I", Cond.fieldLink RX5 119 "FosterSons$Sending" "from" "[I", Cond.methodLink RX5 97 yX5_isSon, Cond.instanceMethod yX5_isSon, Cond.selects RX5 yX5_isSon yX5_isSon, Cond.initialized RX5, Cond.code yX5_isSon cX5_isSon 2 (some .boolean), Cond.fieldLink RX5 88 "FosterSons$Treaty" "sons" "I", Cond.methodLink RX5 125 yX5_isYear, Cond.instanceMethod yX5_isYear, Cond.selects RX5 yX5_isYear yX5_isYear, Cond.code yX5_isYear cX5_isYear 2 (some .boolean), Cond.fieldLink RX5 179 "FosterSons$Treaty" "years" "I", Cond.methodLink RX5 132 yX1_isAway, Cond.instanceMethod yX1_isAway, Cond.selects RX1 yX1_isAway yX1_isAway, Cond.initialized RX1, Cond.code yX1_isAway cX1_isAway 3 (some .boolean), Cond.fieldLink RX1 15 "FosterSons$Sending" "from" "[I", Cond.methodLink RX5 136 yX4_costOf, Cond.instanceMethod yX4_costOf, Cond.selects RX4 yX4_costOf yX4_costOf]
def wsX5_stake_r2 : List Cond := [Cond.initialized RX4, Cond.code yX4_costOf cX4_costOf 6 (some .int), Cond.fieldLink RX4 33 "FosterSons$Treaty" "worth" "[I", Cond.fieldLink RX4 36 "FosterSons$Treaty" "fond" "[I"]
def wsX5_stake : List Cond := .code yX5_stake cX5_stake 3 (some .int) :: ((wsX5_stake_r1 ++ wsX5_stake_r2) ++ wsX50 ++ wsX40 ++ wsX10)
def wsX5_stakes_r1 : List Cond := [Cond.fieldLink RX5 27 "FosterSons" "pact" "LFosterSons$Treaty;", Cond.fieldLink RX5 37 "FosterSons" "sent" "LFosterSons$Sending;", Cond.methodLink RX5 122 yX5_isCourt, Cond.instanceMethod yX5_isCourt, Cond.selects RX5 yX5_isCourt yX5_isCourt, Cond.initialized RX5, Cond.code yX5_isCourt cX5_isCourt 2 (some .boolean), Cond.fieldLink RX5 148 "FosterSons$Treaty" "courts" "I", Cond.methodLink RX5 125 yX5_isYear, Cond.instanceMethod yX5_isYear, Cond.selects RX5 yX5_isYear yX5_isYear, Cond.code yX5_isYear cX5_isYear 2 (some .boolean), Cond.fieldLink RX5 179 "FosterSons$Treaty" "years" "I", Cond.methodLink RX5 140 yX4_costsOf, Cond.instanceMethod yX4_costsOf, Cond.selects RX4 yX4_costsOf yX4_costsOf, Cond.initialized RX4, Cond.code yX4_costsOf cX4_costsOf 8 (some .int), Cond.fieldLink RX4 18 "FosterSons$Treaty" "sons" "I", Cond.fieldLink RX4 30 "FosterSons$Treaty" "father" "[I", Cond.fieldLink RX4 26 "FosterSons$Treaty" "kind" "[I", Cond.fieldLink RX4 77 "FosterSons$Sending" "from" "[I", Cond.methodLink RX4 71 yX1_isAway, Cond.instanceMethod yX1_isAway]
def wsX5_stakes_r2 : List Cond := [Cond.selects RX1 yX1_isAway yX1_isAway, Cond.initialized RX1, Cond.code yX1_isAway cX1_isAway 3 (some .boolean), Cond.fieldLink RX1 15 "FosterSons$Sending" "from" "[I", Cond.methodLink RX4 80 yX4_costOf, Cond.instanceMethod yX4_costOf, Cond.selects RX4 yX4_costOf yX4_costOf, Cond.code yX4_costOf cX4_costOf 6 (some .int), Cond.fieldLink RX4 33 "FosterSons$Treaty" "worth" "[I", Cond.fieldLink RX4 36 "FosterSons$Treaty" "fond" "[I"]
def wsX5_stakes : List Cond := .code yX5_stakes cX5_stakes 3 (some .int) :: ((wsX5_stakes_r1 ++ wsX5_stakes_r2) ++ wsX50 ++ wsX40 ++ wsX10)
def wsX5_hasTreaty : List Cond := .code yX5_hasTreaty cX5_hasTreaty 1 (some .boolean) :: ([.fieldLink RX5 27 "FosterSons" "pact" "LFosterSons$Treaty;", .fieldLink RX5 88 "FosterSons$Treaty" "sons" "I"] ++ wsX50 ++ wsX40)
def wsX5_tempted_r1 : List Cond := [Cond.fieldLink RX5 27 "FosterSons" "pact" "LFosterSons$Treaty;", Cond.fieldLink RX5 148 "FosterSons$Treaty" "courts" "I", Cond.fieldLink RX5 37 "FosterSons" "sent" "LFosterSons$Sending;", Cond.methodLink RX5 144 yX5_hasTreaty, Cond.instanceMethod yX5_hasTreaty, Cond.selects RX5 yX5_hasTreaty yX5_hasTreaty, Cond.initialized RX5, Cond.code yX5_hasTreaty cX5_hasTreaty 1 (some .boolean), Cond.fieldLink RX5 88 "FosterSons$Treaty" "sons" "I", Cond.methodLink RX5 125 yX5_isYear, Cond.instanceMethod yX5_isYear, Cond.selects RX5 yX5_isYear yX5_isYear, Cond.code yX5_isYear cX5_isYear 2 (some .boolean), Cond.fieldLink RX5 179 "FosterSons$Treaty" "years" "I", Cond.methodLink RX5 151 yX4_wouldBreak, Cond.instanceMethod yX4_wouldBreak, Cond.selects RX4 yX4_wouldBreak yX4_wouldBreak, Cond.initialized RX4, Cond.code yX4_wouldBreak cX4_wouldBreak 5 (some .boolean), Cond.fieldLink RX4 23 "FosterSons$Treaty" "gains" "[[I", Cond.methodLink RX4 84 yX4_costsOf, Cond.instanceMethod yX4_costsOf, Cond.selects RX4 yX4_costsOf yX4_costsOf, Cond.code yX4_costsOf cX4_costsOf 8 (some .int)]
def wsX5_tempted_r2 : List Cond := [Cond.fieldLink RX4 18 "FosterSons$Treaty" "sons" "I", Cond.fieldLink RX4 30 "FosterSons$Treaty" "father" "[I", Cond.fieldLink RX4 26 "FosterSons$Treaty" "kind" "[I", Cond.fieldLink RX4 77 "FosterSons$Sending" "from" "[I", Cond.methodLink RX4 71 yX1_isAway, Cond.instanceMethod yX1_isAway, Cond.selects RX1 yX1_isAway yX1_isAway, Cond.initialized RX1, Cond.code yX1_isAway cX1_isAway 3 (some .boolean), Cond.fieldLink RX1 15 "FosterSons$Sending" "from" "[I", Cond.methodLink RX4 80 yX4_costOf, Cond.instanceMethod yX4_costOf, Cond.selects RX4 yX4_costOf yX4_costOf, Cond.code yX4_costOf cX4_costOf 6 (some .int), Cond.fieldLink RX4 33 "FosterSons$Treaty" "worth" "[I", Cond.fieldLink RX4 36 "FosterSons$Treaty" "fond" "[I"]
def wsX5_tempted : List Cond := .code yX5_tempted cX5_tempted 4 (some .int) :: ((wsX5_tempted_r1 ++ wsX5_tempted_r2) ++ wsX50 ++ wsX40 ++ wsX10)
def wsX5_ofBreak_r1 : List Cond := [Cond.fieldLink RX5 27 "FosterSons" "pact" "LFosterSons$Treaty;", Cond.methodLink RX5 159 yX4_breakYear, Cond.instanceMethod yX4_breakYear, Cond.selects RX4 yX4_breakYear yX4_breakYear, Cond.initialized RX4, Cond.code yX4_breakYear cX4_breakYear 4 (some .int), Cond.fieldLink RX4 15 "FosterSons$Treaty" "years" "I", Cond.methodLink RX4 92 yX4_firstToBreak, Cond.instanceMethod yX4_firstToBreak, Cond.selects RX4 yX4_firstToBreak yX4_firstToBreak, Cond.code yX4_firstToBreak cX4_firstToBreak 5 (some .int), Cond.fieldLink RX4 9 "FosterSons$Treaty" "courts" "I", Cond.methodLink RX4 88 yX4_wouldBreak, Cond.instanceMethod yX4_wouldBreak, Cond.selects RX4 yX4_wouldBreak yX4_wouldBreak, Cond.code yX4_wouldBreak cX4_wouldBreak 5 (some .boolean), Cond.fieldLink RX4 23 "FosterSons$Treaty" "gains" "[[I", Cond.methodLink RX4 84 yX4_costsOf, Cond.instanceMethod yX4_costsOf, Cond.selects RX4 yX4_costsOf yX4_costsOf, Cond.code yX4_costsOf cX4_costsOf 8 (some .int), Cond.fieldLink RX4 18 "FosterSons$Treaty" "sons" "I", Cond.fieldLink RX4 30 "FosterSons$Treaty" "father" "[I", Cond.fieldLink RX4 26 "FosterSons$Treaty" "kind" "[I"]
def wsX5_ofBreak_r2 : List Cond := [Cond.fieldLink RX4 77 "FosterSons$Sending" "from" "[I", Cond.methodLink RX4 71 yX1_isAway, Cond.instanceMethod yX1_isAway, Cond.selects RX1 yX1_isAway yX1_isAway, Cond.initialized RX1, Cond.code yX1_isAway cX1_isAway 3 (some .boolean), Cond.fieldLink RX1 15 "FosterSons$Sending" "from" "[I", Cond.methodLink RX4 80 yX4_costOf, Cond.instanceMethod yX4_costOf, Cond.selects RX4 yX4_costOf yX4_costOf, Cond.code yX4_costOf cX4_costOf 6 (some .int), Cond.fieldLink RX4 33 "FosterSons$Treaty" "worth" "[I", Cond.fieldLink RX4 36 "FosterSons$Treaty" "fond" "[I", Cond.methodLink RX5 162 yX4_firstToBreak]
def wsX5_ofBreak : List Cond := .code yX5_ofBreak cX5_ofBreak 4 (some .int) :: ((wsX5_ofBreak_r1 ++ wsX5_ofBreak_r2) ++ wsX50 ++ wsX40 ++ wsX10)
def wsX5_broken_r1 : List Cond := [Cond.fieldLink RX5 37 "FosterSons" "sent" "LFosterSons$Sending;", Cond.methodLink RX5 144 yX5_hasTreaty, Cond.instanceMethod yX5_hasTreaty, Cond.selects RX5 yX5_hasTreaty yX5_hasTreaty, Cond.initialized RX5, Cond.code yX5_hasTreaty cX5_hasTreaty 1 (some .boolean), Cond.fieldLink RX5 27 "FosterSons" "pact" "LFosterSons$Treaty;", Cond.fieldLink RX5 88 "FosterSons$Treaty" "sons" "I", Cond.methodLink RX5 155 yX5_ofBreak, Cond.instanceMethod yX5_ofBreak, Cond.selects RX5 yX5_ofBreak yX5_ofBreak, Cond.code yX5_ofBreak cX5_ofBreak 4 (some .int), Cond.methodLink RX5 159 yX4_breakYear, Cond.instanceMethod yX4_breakYear, Cond.selects RX4 yX4_breakYear yX4_breakYear, Cond.initialized RX4, Cond.code yX4_breakYear cX4_breakYear 4 (some .int), Cond.fieldLink RX4 15 "FosterSons$Treaty" "years" "I", Cond.methodLink RX4 92 yX4_firstToBreak, Cond.instanceMethod yX4_firstToBreak, Cond.selects RX4 yX4_firstToBreak yX4_firstToBreak, Cond.code yX4_firstToBreak cX4_firstToBreak 5 (some .int), Cond.fieldLink RX4 9 "FosterSons$Treaty" "courts" "I", Cond.methodLink RX4 88 yX4_wouldBreak]
def wsX5_broken_r2 : List Cond := [Cond.instanceMethod yX4_wouldBreak, Cond.selects RX4 yX4_wouldBreak yX4_wouldBreak, Cond.code yX4_wouldBreak cX4_wouldBreak 5 (some .boolean), Cond.fieldLink RX4 23 "FosterSons$Treaty" "gains" "[[I", Cond.methodLink RX4 84 yX4_costsOf, Cond.instanceMethod yX4_costsOf, Cond.selects RX4 yX4_costsOf yX4_costsOf, Cond.code yX4_costsOf cX4_costsOf 8 (some .int), Cond.fieldLink RX4 18 "FosterSons$Treaty" "sons" "I", Cond.fieldLink RX4 30 "FosterSons$Treaty" "father" "[I", Cond.fieldLink RX4 26 "FosterSons$Treaty" "kind" "[I", Cond.fieldLink RX4 77 "FosterSons$Sending" "from" "[I", Cond.methodLink RX4 71 yX1_isAway, Cond.instanceMethod yX1_isAway, Cond.selects RX1 yX1_isAway yX1_isAway, Cond.initialized RX1, Cond.code yX1_isAway cX1_isAway 3 (some .boolean), Cond.fieldLink RX1 15 "FosterSons$Sending" "from" "[I", Cond.methodLink RX4 80 yX4_costOf, Cond.instanceMethod yX4_costOf, Cond.selects RX4 yX4_costOf yX4_costOf, Cond.code yX4_costOf cX4_costOf 6 (some .int), Cond.fieldLink RX4 33 "FosterSons$Treaty" "worth" "[I", Cond.fieldLink RX4 36 "FosterSons$Treaty" "fond" "[I"]
def wsX5_broken_r3 : List Cond := [Cond.methodLink RX5 162 yX4_firstToBreak]
def wsX5_broken : List Cond := .code yX5_broken cX5_broken 2 (some .int) :: ((wsX5_broken_r1 ++ (wsX5_broken_r2 ++ wsX5_broken_r3)) ++ wsX50 ++ wsX40 ++ wsX10)
def wsX5_isOfPlan : List Cond := .code yX5_isOfPlan cX5_isOfPlan 1 (some .boolean) :: ([])
def wsX5_tryPlan_r1 : List Cond := [Cond.fieldLink RX5 41 "FosterSons" "trial" "LFosterSons$Sending;", Cond.fieldLink RX5 27 "FosterSons" "pact" "LFosterSons$Treaty;", Cond.fieldLink RX5 88 "FosterSons$Treaty" "sons" "I", Cond.fieldLink RX5 179 "FosterSons$Treaty" "years" "I", Cond.fieldLink RX5 119 "FosterSons$Sending" "from" "[I", Cond.methodLink RX5 91 yX1_nobody, Cond.instanceMethod yX1_nobody, Cond.selects RX1 yX1_nobody yX1_nobody, Cond.initialized RX1, Cond.code yX1_nobody cX1_nobody 1 none, Cond.methodLink RX1 18 yX1_fromTheStart, Cond.instanceMethod yX1_fromTheStart, Cond.selects RX1 yX1_fromTheStart yX1_fromTheStart, Cond.code yX1_fromTheStart cX1_fromTheStart 3 none, Cond.fieldLink RX1 15 "FosterSons$Sending" "from" "[I", Cond.methodLink RX5 176 yX2_at, Cond.instanceMethod yX2_at, Cond.selects RX2 yX2_at yX2_at, Cond.initialized RX2, Cond.code yX2_at cX2_at 2 (some .int), Cond.fieldLink RX2 9 "FosterSons$Sheet" "cells" "[I", Cond.methodLink RX2 35 yX2_hasCell, Cond.instanceMethod yX2_hasCell, Cond.selects RX2 yX2_hasCell yX2_hasCell]
def wsX5_tryPlan_r2 : List Cond := [Cond.code yX2_hasCell cX2_hasCell 2 (some .boolean), Cond.fieldLink RX2 23 "FosterSons$Sheet" "length" "I"]
def wsX5_tryPlan : List Cond := .code yX5_tryPlan cX5_tryPlan 5 (some .boolean) :: ((wsX5_tryPlan_r1 ++ wsX5_tryPlan_r2) ++ wsX50 ++ wsX40 ++ wsX10 ++ wsX20)
def wsX5_ofTrial_r1 : List Cond := [Cond.fieldLink RX5 27 "FosterSons" "pact" "LFosterSons$Treaty;", Cond.fieldLink RX5 179 "FosterSons$Treaty" "years" "I", Cond.fieldLink RX5 41 "FosterSons" "trial" "LFosterSons$Sending;", Cond.methodLink RX5 155 yX5_ofBreak, Cond.instanceMethod yX5_ofBreak, Cond.selects RX5 yX5_ofBreak yX5_ofBreak, Cond.initialized RX5, Cond.code yX5_ofBreak cX5_ofBreak 4 (some .int), Cond.methodLink RX5 159 yX4_breakYear, Cond.instanceMethod yX4_breakYear, Cond.selects RX4 yX4_breakYear yX4_breakYear, Cond.initialized RX4, Cond.code yX4_breakYear cX4_breakYear 4 (some .int), Cond.fieldLink RX4 15 "FosterSons$Treaty" "years" "I", Cond.methodLink RX4 92 yX4_firstToBreak, Cond.instanceMethod yX4_firstToBreak, Cond.selects RX4 yX4_firstToBreak yX4_firstToBreak, Cond.code yX4_firstToBreak cX4_firstToBreak 5 (some .int), Cond.fieldLink RX4 9 "FosterSons$Treaty" "courts" "I", Cond.methodLink RX4 88 yX4_wouldBreak, Cond.instanceMethod yX4_wouldBreak, Cond.selects RX4 yX4_wouldBreak yX4_wouldBreak, Cond.code yX4_wouldBreak cX4_wouldBreak 5 (some .boolean), Cond.fieldLink RX4 23 "FosterSons$Treaty" "gains" "[[I"]
def wsX5_ofTrial_r2 : List Cond := [Cond.methodLink RX4 84 yX4_costsOf, Cond.instanceMethod yX4_costsOf, Cond.selects RX4 yX4_costsOf yX4_costsOf, Cond.code yX4_costsOf cX4_costsOf 8 (some .int), Cond.fieldLink RX4 18 "FosterSons$Treaty" "sons" "I", Cond.fieldLink RX4 30 "FosterSons$Treaty" "father" "[I", Cond.fieldLink RX4 26 "FosterSons$Treaty" "kind" "[I", Cond.fieldLink RX4 77 "FosterSons$Sending" "from" "[I", Cond.methodLink RX4 71 yX1_isAway, Cond.instanceMethod yX1_isAway, Cond.selects RX1 yX1_isAway yX1_isAway, Cond.initialized RX1, Cond.code yX1_isAway cX1_isAway 3 (some .boolean), Cond.fieldLink RX1 15 "FosterSons$Sending" "from" "[I", Cond.methodLink RX4 80 yX4_costOf, Cond.instanceMethod yX4_costOf, Cond.selects RX4 yX4_costOf yX4_costOf, Cond.code yX4_costOf cX4_costOf 6 (some .int), Cond.fieldLink RX4 33 "FosterSons$Treaty" "worth" "[I", Cond.fieldLink RX4 36 "FosterSons$Treaty" "fond" "[I", Cond.methodLink RX5 162 yX4_firstToBreak, Cond.methodLink RX5 182 yX1_howManyBy, Cond.instanceMethod yX1_howManyBy, Cond.selects RX1 yX1_howManyBy yX1_howManyBy]
def wsX5_ofTrial_r3 : List Cond := [Cond.code yX1_howManyBy cX1_howManyBy 4 (some .int), Cond.methodLink RX1 22 yX1_isAway, Cond.methodLink RX5 122 yX5_isCourt, Cond.instanceMethod yX5_isCourt, Cond.selects RX5 yX5_isCourt yX5_isCourt, Cond.code yX5_isCourt cX5_isCourt 2 (some .boolean), Cond.fieldLink RX5 148 "FosterSons$Treaty" "courts" "I", Cond.methodLink RX5 140 yX4_costsOf]
def wsX5_ofTrial : List Cond := .code yX5_ofTrial cX5_ofTrial 3 (some .int) :: ((wsX5_ofTrial_r1 ++ (wsX5_ofTrial_r2 ++ wsX5_ofTrial_r3)) ++ wsX50 ++ wsX40 ++ wsX10)
def wsX5_plan_r1 : List Cond := [Cond.fieldLink RX5 55 "FosterSons" "latestFault" "I", Cond.fieldLink RX5 13 "FosterSons" "sheets" "[LFosterSons$Sheet;", Cond.fieldLink RX5 27 "FosterSons" "pact" "LFosterSons$Treaty;", Cond.fieldLink RX5 88 "FosterSons$Treaty" "sons" "I", Cond.methodLink RX5 59 yX5_isSheet, Cond.static yX5_isSheet, Cond.initialized RX5, Cond.code yX5_isSheet cX5_isSheet 1 (some .boolean), Cond.methodLink RX5 63 yX5_isLane, Cond.static yX5_isLane, Cond.code yX5_isLane cX5_isLane 1 (some .boolean), Cond.methodLink RX5 166 yX5_isOfPlan, Cond.static yX5_isOfPlan, Cond.code yX5_isOfPlan cX5_isOfPlan 1 (some .boolean), Cond.methodLink RX5 66 yX5_rowFault, Cond.static yX5_rowFault, Cond.code yX5_rowFault cX5_rowFault 5 (some .int), Cond.methodLink RX5 236 yX5_laneFault, Cond.static yX5_laneFault, Cond.code yX5_laneFault cX5_laneFault 2 (some .int), Cond.fieldLink RX5 226 "FosterSons$Sheet" "hasRow" "Z", Cond.fieldLink RX5 240 "FosterSons$Sheet" "lane" "I", Cond.methodLink RX5 243 yX2_hasCells, Cond.instanceMethod yX2_hasCells]
def wsX5_plan_r2 : List Cond := [Cond.selects RX2 yX2_hasCells yX2_hasCells, Cond.initialized RX2, Cond.code yX2_hasCells cX2_hasCells 3 (some .boolean), Cond.fieldLink RX2 23 "FosterSons$Sheet" "length" "I", Cond.methodLink RX5 70 yX5_faulted, Cond.instanceMethod yX5_faulted, Cond.selects RX5 yX5_faulted yX5_faulted, Cond.code yX5_faulted cX5_faulted 2 (some .int), Cond.methodLink RX5 144 yX5_hasTreaty, Cond.instanceMethod yX5_hasTreaty, Cond.selects RX5 yX5_hasTreaty yX5_hasTreaty, Cond.code yX5_hasTreaty cX5_hasTreaty 1 (some .boolean), Cond.methodLink RX5 169 yX5_tryPlan, Cond.instanceMethod yX5_tryPlan, Cond.selects RX5 yX5_tryPlan yX5_tryPlan, Cond.code yX5_tryPlan cX5_tryPlan 5 (some .boolean), Cond.fieldLink RX5 41 "FosterSons" "trial" "LFosterSons$Sending;", Cond.fieldLink RX5 179 "FosterSons$Treaty" "years" "I", Cond.fieldLink RX5 119 "FosterSons$Sending" "from" "[I", Cond.methodLink RX5 91 yX1_nobody, Cond.instanceMethod yX1_nobody, Cond.selects RX1 yX1_nobody yX1_nobody, Cond.initialized RX1, Cond.code yX1_nobody cX1_nobody 1 none]
def wsX5_plan_r3 : List Cond := [Cond.methodLink RX1 18 yX1_fromTheStart, Cond.instanceMethod yX1_fromTheStart, Cond.selects RX1 yX1_fromTheStart yX1_fromTheStart, Cond.code yX1_fromTheStart cX1_fromTheStart 3 none, Cond.fieldLink RX1 15 "FosterSons$Sending" "from" "[I", Cond.methodLink RX5 176 yX2_at, Cond.instanceMethod yX2_at, Cond.selects RX2 yX2_at yX2_at, Cond.code yX2_at cX2_at 2 (some .int), Cond.fieldLink RX2 9 "FosterSons$Sheet" "cells" "[I", Cond.methodLink RX2 35 yX2_hasCell, Cond.instanceMethod yX2_hasCell, Cond.selects RX2 yX2_hasCell yX2_hasCell, Cond.code yX2_hasCell cX2_hasCell 2 (some .boolean), Cond.methodLink RX5 173 yX5_ofTrial, Cond.instanceMethod yX5_ofTrial, Cond.selects RX5 yX5_ofTrial yX5_ofTrial, Cond.code yX5_ofTrial cX5_ofTrial 3 (some .int), Cond.methodLink RX5 155 yX5_ofBreak, Cond.instanceMethod yX5_ofBreak, Cond.selects RX5 yX5_ofBreak yX5_ofBreak, Cond.code yX5_ofBreak cX5_ofBreak 4 (some .int), Cond.methodLink RX5 159 yX4_breakYear, Cond.instanceMethod yX4_breakYear]
def wsX5_plan_r4 : List Cond := [Cond.selects RX4 yX4_breakYear yX4_breakYear, Cond.initialized RX4, Cond.code yX4_breakYear cX4_breakYear 4 (some .int), Cond.fieldLink RX4 15 "FosterSons$Treaty" "years" "I", Cond.methodLink RX4 92 yX4_firstToBreak, Cond.instanceMethod yX4_firstToBreak, Cond.selects RX4 yX4_firstToBreak yX4_firstToBreak, Cond.code yX4_firstToBreak cX4_firstToBreak 5 (some .int), Cond.fieldLink RX4 9 "FosterSons$Treaty" "courts" "I", Cond.methodLink RX4 88 yX4_wouldBreak, Cond.instanceMethod yX4_wouldBreak, Cond.selects RX4 yX4_wouldBreak yX4_wouldBreak, Cond.code yX4_wouldBreak cX4_wouldBreak 5 (some .boolean), Cond.fieldLink RX4 23 "FosterSons$Treaty" "gains" "[[I", Cond.methodLink RX4 84 yX4_costsOf, Cond.instanceMethod yX4_costsOf, Cond.selects RX4 yX4_costsOf yX4_costsOf, Cond.code yX4_costsOf cX4_costsOf 8 (some .int), Cond.fieldLink RX4 18 "FosterSons$Treaty" "sons" "I", Cond.fieldLink RX4 30 "FosterSons$Treaty" "father" "[I", Cond.fieldLink RX4 26 "FosterSons$Treaty" "kind" "[I", Cond.fieldLink RX4 77 "FosterSons$Sending" "from" "[I", Cond.methodLink RX4 71 yX1_isAway, Cond.instanceMethod yX1_isAway]
def wsX5_plan_r5 : List Cond := [Cond.selects RX1 yX1_isAway yX1_isAway, Cond.code yX1_isAway cX1_isAway 3 (some .boolean), Cond.methodLink RX4 80 yX4_costOf, Cond.instanceMethod yX4_costOf, Cond.selects RX4 yX4_costOf yX4_costOf, Cond.code yX4_costOf cX4_costOf 6 (some .int), Cond.fieldLink RX4 33 "FosterSons$Treaty" "worth" "[I", Cond.fieldLink RX4 36 "FosterSons$Treaty" "fond" "[I", Cond.methodLink RX5 162 yX4_firstToBreak, Cond.methodLink RX5 182 yX1_howManyBy, Cond.instanceMethod yX1_howManyBy, Cond.selects RX1 yX1_howManyBy yX1_howManyBy, Cond.code yX1_howManyBy cX1_howManyBy 4 (some .int), Cond.methodLink RX1 22 yX1_isAway, Cond.methodLink RX5 122 yX5_isCourt, Cond.instanceMethod yX5_isCourt, Cond.selects RX5 yX5_isCourt yX5_isCourt, Cond.code yX5_isCourt cX5_isCourt 2 (some .boolean), Cond.fieldLink RX5 148 "FosterSons$Treaty" "courts" "I", Cond.methodLink RX5 140 yX4_costsOf]
def wsX5_plan : List Cond := .code yX5_plan cX5_plan 7 (some .int) :: ((wsX5_plan_r1 ++ (wsX5_plan_r2 ++ (wsX5_plan_r3 ++ (wsX5_plan_r4 ++ wsX5_plan_r5)))) ++ wsX50 ++ wsX40 ++ wsX20 ++ wsX10)
def wsJ6_bitCount_0f7a4 : List Cond := .code yJ6_bitCount_0f7a4 cJ6_bitCount_0f7a4 1 (some .int) :: ([.constant RJ6 265 (1431655765), .constant RJ6 266 (858993459), .constant RJ6 267 (252645135)])
def wsX5_least_r1 : List Cond := [Cond.fieldLink RX5 27 "FosterSons" "pact" "LFosterSons$Treaty;", Cond.fieldLink RX5 88 "FosterSons$Treaty" "sons" "I", Cond.fieldLink RX5 41 "FosterSons" "trial" "LFosterSons$Sending;", Cond.methodLink RX5 144 yX5_hasTreaty, Cond.instanceMethod yX5_hasTreaty, Cond.selects RX5 yX5_hasTreaty yX5_hasTreaty, Cond.initialized RX5, Cond.code yX5_hasTreaty cX5_hasTreaty 1 (some .boolean), Cond.methodLink RX5 185 yJ6_bitCount_0f7a4, Cond.static yJ6_bitCount_0f7a4, Cond.initialized RJ6, Cond.code yJ6_bitCount_0f7a4 cJ6_bitCount_0f7a4 1 (some .int), Cond.constant RJ6 265 (1431655765), Cond.constant RJ6 266 (858993459), Cond.constant RJ6 267 (252645135), Cond.methodLink RX5 190 yX1_fromTheStart, Cond.instanceMethod yX1_fromTheStart, Cond.selects RX1 yX1_fromTheStart yX1_fromTheStart, Cond.initialized RX1, Cond.code yX1_fromTheStart cX1_fromTheStart 3 none, Cond.fieldLink RX1 15 "FosterSons$Sending" "from" "[I", Cond.methodLink RX5 159 yX4_breakYear, Cond.instanceMethod yX4_breakYear, Cond.selects RX4 yX4_breakYear yX4_breakYear]
def wsX5_least_r2 : List Cond := [Cond.initialized RX4, Cond.code yX4_breakYear cX4_breakYear 4 (some .int), Cond.fieldLink RX4 15 "FosterSons$Treaty" "years" "I", Cond.methodLink RX4 92 yX4_firstToBreak, Cond.instanceMethod yX4_firstToBreak, Cond.selects RX4 yX4_firstToBreak yX4_firstToBreak, Cond.code yX4_firstToBreak cX4_firstToBreak 5 (some .int), Cond.fieldLink RX4 9 "FosterSons$Treaty" "courts" "I", Cond.methodLink RX4 88 yX4_wouldBreak, Cond.instanceMethod yX4_wouldBreak, Cond.selects RX4 yX4_wouldBreak yX4_wouldBreak, Cond.code yX4_wouldBreak cX4_wouldBreak 5 (some .boolean), Cond.fieldLink RX4 23 "FosterSons$Treaty" "gains" "[[I", Cond.methodLink RX4 84 yX4_costsOf, Cond.instanceMethod yX4_costsOf, Cond.selects RX4 yX4_costsOf yX4_costsOf, Cond.code yX4_costsOf cX4_costsOf 8 (some .int), Cond.fieldLink RX4 18 "FosterSons$Treaty" "sons" "I", Cond.fieldLink RX4 30 "FosterSons$Treaty" "father" "[I", Cond.fieldLink RX4 26 "FosterSons$Treaty" "kind" "[I", Cond.fieldLink RX4 77 "FosterSons$Sending" "from" "[I", Cond.methodLink RX4 71 yX1_isAway, Cond.instanceMethod yX1_isAway, Cond.selects RX1 yX1_isAway yX1_isAway]
def wsX5_least_r3 : List Cond := [Cond.code yX1_isAway cX1_isAway 3 (some .boolean), Cond.methodLink RX4 80 yX4_costOf, Cond.instanceMethod yX4_costOf, Cond.selects RX4 yX4_costOf yX4_costOf, Cond.code yX4_costOf cX4_costOf 6 (some .int), Cond.fieldLink RX4 33 "FosterSons$Treaty" "worth" "[I", Cond.fieldLink RX4 36 "FosterSons$Treaty" "fond" "[I"]
def wsX5_least : List Cond := .code yX5_least cX5_least 4 (some .int) :: ((wsX5_least_r1 ++ (wsX5_least_r2 ++ wsX5_least_r3)) ++ wsX50 ++ wsX40 ++ wsX10)
def wsX5_everySon : List Cond := .code yX5_everySon cX5_everySon 1 (some .int) :: ([.fieldLink RX5 27 "FosterSons" "pact" "LFosterSons$Treaty;", .fieldLink RX5 88 "FosterSons$Treaty" "sons" "I"] ++ wsX50 ++ wsX40)
def wsX5_hole_r1 : List Cond := [Cond.fieldLink RX5 41 "FosterSons" "trial" "LFosterSons$Sending;", Cond.fieldLink RX5 27 "FosterSons" "pact" "LFosterSons$Treaty;", Cond.methodLink RX5 122 yX5_isCourt, Cond.instanceMethod yX5_isCourt, Cond.selects RX5 yX5_isCourt yX5_isCourt, Cond.initialized RX5, Cond.code yX5_isCourt cX5_isCourt 2 (some .boolean), Cond.fieldLink RX5 148 "FosterSons$Treaty" "courts" "I", Cond.methodLink RX5 194 yX5_everySon, Cond.instanceMethod yX5_everySon, Cond.selects RX5 yX5_everySon yX5_everySon, Cond.code yX5_everySon cX5_everySon 1 (some .int), Cond.fieldLink RX5 88 "FosterSons$Treaty" "sons" "I", Cond.methodLink RX5 190 yX1_fromTheStart, Cond.instanceMethod yX1_fromTheStart, Cond.selects RX1 yX1_fromTheStart yX1_fromTheStart, Cond.initialized RX1, Cond.code yX1_fromTheStart cX1_fromTheStart 3 none, Cond.fieldLink RX1 15 "FosterSons$Sending" "from" "[I", Cond.methodLink RX5 198 yX4_breakYearOf, Cond.instanceMethod yX4_breakYearOf, Cond.selects RX4 yX4_breakYearOf yX4_breakYearOf, Cond.initialized RX4, Cond.code yX4_breakYearOf cX4_breakYearOf 4 (some .int)]
def wsX5_hole_r2 : List Cond := [Cond.fieldLink RX4 15 "FosterSons$Treaty" "years" "I", Cond.methodLink RX4 88 yX4_wouldBreak, Cond.instanceMethod yX4_wouldBreak, Cond.selects RX4 yX4_wouldBreak yX4_wouldBreak, Cond.code yX4_wouldBreak cX4_wouldBreak 5 (some .boolean), Cond.fieldLink RX4 23 "FosterSons$Treaty" "gains" "[[I", Cond.methodLink RX4 84 yX4_costsOf, Cond.instanceMethod yX4_costsOf, Cond.selects RX4 yX4_costsOf yX4_costsOf, Cond.code yX4_costsOf cX4_costsOf 8 (some .int), Cond.fieldLink RX4 18 "FosterSons$Treaty" "sons" "I", Cond.fieldLink RX4 30 "FosterSons$Treaty" "father" "[I", Cond.fieldLink RX4 26 "FosterSons$Treaty" "kind" "[I", Cond.fieldLink RX4 77 "FosterSons$Sending" "from" "[I", Cond.methodLink RX4 71 yX1_isAway, Cond.instanceMethod yX1_isAway, Cond.selects RX1 yX1_isAway yX1_isAway, Cond.code yX1_isAway cX1_isAway 3 (some .boolean), Cond.methodLink RX4 80 yX4_costOf, Cond.instanceMethod yX4_costOf, Cond.selects RX4 yX4_costOf yX4_costOf, Cond.code yX4_costOf cX4_costOf 6 (some .int), Cond.fieldLink RX4 33 "FosterSons$Treaty" "worth" "[I", Cond.fieldLink RX4 36 "FosterSons$Treaty" "fond" "[I"]
def wsX5_hole : List Cond := .code yX5_hole cX5_hole 2 (some .int) :: ((wsX5_hole_r1 ++ wsX5_hole_r2) ++ wsX50 ++ wsX40 ++ wsX10)
def wsX5_when_r1 : List Cond := [Cond.fieldLink RX5 41 "FosterSons" "trial" "LFosterSons$Sending;", Cond.fieldLink RX5 27 "FosterSons" "pact" "LFosterSons$Treaty;", Cond.fieldLink RX5 179 "FosterSons$Treaty" "years" "I", Cond.fieldLink RX5 119 "FosterSons$Sending" "from" "[I", Cond.fieldLink RX5 104 "FosterSons$Treaty" "father" "[I", Cond.methodLink RX5 97 yX5_isSon, Cond.instanceMethod yX5_isSon, Cond.selects RX5 yX5_isSon yX5_isSon, Cond.initialized RX5, Cond.code yX5_isSon cX5_isSon 2 (some .boolean), Cond.fieldLink RX5 88 "FosterSons$Treaty" "sons" "I", Cond.methodLink RX5 194 yX5_everySon, Cond.instanceMethod yX5_everySon, Cond.selects RX5 yX5_everySon yX5_everySon, Cond.code yX5_everySon cX5_everySon 1 (some .int), Cond.methodLink RX5 190 yX1_fromTheStart, Cond.instanceMethod yX1_fromTheStart, Cond.selects RX1 yX1_fromTheStart yX1_fromTheStart, Cond.initialized RX1, Cond.code yX1_fromTheStart cX1_fromTheStart 3 none, Cond.fieldLink RX1 15 "FosterSons$Sending" "from" "[I", Cond.methodLink RX5 198 yX4_breakYearOf, Cond.instanceMethod yX4_breakYearOf, Cond.selects RX4 yX4_breakYearOf yX4_breakYearOf]
def wsX5_when_r2 : List Cond := [Cond.initialized RX4, Cond.code yX4_breakYearOf cX4_breakYearOf 4 (some .int), Cond.fieldLink RX4 15 "FosterSons$Treaty" "years" "I", Cond.methodLink RX4 88 yX4_wouldBreak, Cond.instanceMethod yX4_wouldBreak, Cond.selects RX4 yX4_wouldBreak yX4_wouldBreak, Cond.code yX4_wouldBreak cX4_wouldBreak 5 (some .boolean), Cond.fieldLink RX4 23 "FosterSons$Treaty" "gains" "[[I", Cond.methodLink RX4 84 yX4_costsOf, Cond.instanceMethod yX4_costsOf, Cond.selects RX4 yX4_costsOf yX4_costsOf, Cond.code yX4_costsOf cX4_costsOf 8 (some .int), Cond.fieldLink RX4 18 "FosterSons$Treaty" "sons" "I", Cond.fieldLink RX4 30 "FosterSons$Treaty" "father" "[I", Cond.fieldLink RX4 26 "FosterSons$Treaty" "kind" "[I", Cond.fieldLink RX4 77 "FosterSons$Sending" "from" "[I", Cond.methodLink RX4 71 yX1_isAway, Cond.instanceMethod yX1_isAway, Cond.selects RX1 yX1_isAway yX1_isAway, Cond.code yX1_isAway cX1_isAway 3 (some .boolean), Cond.methodLink RX4 80 yX4_costOf, Cond.instanceMethod yX4_costOf, Cond.selects RX4 yX4_costOf yX4_costOf, Cond.code yX4_costOf cX4_costOf 6 (some .int)]
def wsX5_when_r3 : List Cond := [Cond.fieldLink RX4 33 "FosterSons$Treaty" "worth" "[I", Cond.fieldLink RX4 36 "FosterSons$Treaty" "fond" "[I"]
def wsX5_when : List Cond := .code yX5_when cX5_when 3 (some .int) :: ((wsX5_when_r1 ++ (wsX5_when_r2 ++ wsX5_when_r3)) ++ wsX50 ++ wsX40 ++ wsX10)
def wsX5_reading : List Cond := .code yX5_reading cX5_reading 4 (some .int) :: ([.fieldLink RX5 47 "FosterSons" "readings" "LFosterSons$Readings;", .methodLink RX5 122 yX5_isCourt, .instanceMethod yX5_isCourt, .selects RX5 yX5_isCourt yX5_isCourt, .initialized RX5, .code yX5_isCourt cX5_isCourt 2 (some .boolean), .fieldLink RX5 27 "FosterSons" "pact" "LFosterSons$Treaty;", .fieldLink RX5 148 "FosterSons$Treaty" "courts" "I", .methodLink RX5 125 yX5_isYear, .instanceMethod yX5_isYear, .selects RX5 yX5_isYear yX5_isYear, .code yX5_isYear cX5_isYear 2 (some .boolean), .fieldLink RX5 179 "FosterSons$Treaty" "years" "I", .methodLink RX5 202 yX0_note, .instanceMethod yX0_note, .selects RX0 yX0_note yX0_note, .initialized RX0, .code yX0_note cX0_note 5 (some .int), .fieldLink RX0 22 "FosterSons$Readings" "count" "I", .fieldLink RX0 9 "FosterSons$Readings" "court" "[I", .fieldLink RX0 15 "FosterSons$Readings" "year" "[I", .fieldLink RX0 18 "FosterSons$Readings" "was" "[Z"] ++ wsX50 ++ wsX40 ++ wsX00)
def wsX5_back : List Cond := .code yX5_back cX5_back 2 (some .int) :: ([.fieldLink RX5 47 "FosterSons" "readings" "LFosterSons$Readings;", .fieldLink RX5 94 "FosterSons$Readings" "count" "I"] ++ wsX50 ++ wsX00)
def wsX5_fitting_r1 : List Cond := [Cond.fieldLink RX5 47 "FosterSons" "readings" "LFosterSons$Readings;", Cond.fieldLink RX5 27 "FosterSons" "pact" "LFosterSons$Treaty;", Cond.fieldLink RX5 37 "FosterSons" "sent" "LFosterSons$Sending;", Cond.methodLink RX5 210 yX0_allSo, Cond.instanceMethod yX0_allSo, Cond.selects RX0 yX0_allSo yX0_allSo, Cond.initialized RX0, Cond.code yX0_allSo cX0_allSo 4 (some .boolean), Cond.fieldLink RX0 22 "FosterSons$Readings" "count" "I", Cond.fieldLink RX0 9 "FosterSons$Readings" "court" "[I", Cond.fieldLink RX0 15 "FosterSons$Readings" "year" "[I", Cond.fieldLink RX0 18 "FosterSons$Readings" "was" "[Z", Cond.methodLink RX0 26 yX4_wouldBreak, Cond.instanceMethod yX4_wouldBreak, Cond.selects RX4 yX4_wouldBreak yX4_wouldBreak, Cond.initialized RX4, Cond.code yX4_wouldBreak cX4_wouldBreak 5 (some .boolean), Cond.fieldLink RX4 23 "FosterSons$Treaty" "gains" "[[I", Cond.methodLink RX4 84 yX4_costsOf, Cond.instanceMethod yX4_costsOf, Cond.selects RX4 yX4_costsOf yX4_costsOf, Cond.code yX4_costsOf cX4_costsOf 8 (some .int), Cond.fieldLink RX4 18 "FosterSons$Treaty" "sons" "I", Cond.fieldLink RX4 30 "FosterSons$Treaty" "father" "[I"]
def wsX5_fitting_r2 : List Cond := [Cond.fieldLink RX4 26 "FosterSons$Treaty" "kind" "[I", Cond.fieldLink RX4 77 "FosterSons$Sending" "from" "[I", Cond.methodLink RX4 71 yX1_isAway, Cond.instanceMethod yX1_isAway, Cond.selects RX1 yX1_isAway yX1_isAway, Cond.initialized RX1, Cond.code yX1_isAway cX1_isAway 3 (some .boolean), Cond.fieldLink RX1 15 "FosterSons$Sending" "from" "[I", Cond.methodLink RX4 80 yX4_costOf, Cond.instanceMethod yX4_costOf, Cond.selects RX4 yX4_costOf yX4_costOf, Cond.code yX4_costOf cX4_costOf 6 (some .int), Cond.fieldLink RX4 33 "FosterSons$Treaty" "worth" "[I", Cond.fieldLink RX4 36 "FosterSons$Treaty" "fond" "[I"]
def wsX5_fitting : List Cond := .code yX5_fitting cX5_fitting 7 (some .int) :: ((wsX5_fitting_r1 ++ wsX5_fitting_r2) ++ wsX50 ++ wsX00 ++ wsX40 ++ wsX10)
def wsX5_worths_r1 : List Cond := [Cond.fieldLink RX5 27 "FosterSons" "pact" "LFosterSons$Treaty;", Cond.fieldLink RX5 107 "FosterSons$Treaty" "worth" "[I", Cond.methodLink RX5 97 yX5_isSon, Cond.instanceMethod yX5_isSon, Cond.selects RX5 yX5_isSon yX5_isSon, Cond.initialized RX5, Cond.code yX5_isSon cX5_isSon 2 (some .boolean), Cond.fieldLink RX5 88 "FosterSons$Treaty" "sons" "I", Cond.methodLink RX5 206 yX5_fitting, Cond.instanceMethod yX5_fitting, Cond.selects RX5 yX5_fitting yX5_fitting, Cond.code yX5_fitting cX5_fitting 7 (some .int), Cond.fieldLink RX5 47 "FosterSons" "readings" "LFosterSons$Readings;", Cond.fieldLink RX5 37 "FosterSons" "sent" "LFosterSons$Sending;", Cond.methodLink RX5 210 yX0_allSo, Cond.instanceMethod yX0_allSo, Cond.selects RX0 yX0_allSo yX0_allSo, Cond.initialized RX0, Cond.code yX0_allSo cX0_allSo 4 (some .boolean), Cond.fieldLink RX0 22 "FosterSons$Readings" "count" "I", Cond.fieldLink RX0 9 "FosterSons$Readings" "court" "[I", Cond.fieldLink RX0 15 "FosterSons$Readings" "year" "[I", Cond.fieldLink RX0 18 "FosterSons$Readings" "was" "[Z", Cond.methodLink RX0 26 yX4_wouldBreak]
def wsX5_worths_r2 : List Cond := [Cond.instanceMethod yX4_wouldBreak, Cond.selects RX4 yX4_wouldBreak yX4_wouldBreak, Cond.initialized RX4, Cond.code yX4_wouldBreak cX4_wouldBreak 5 (some .boolean), Cond.fieldLink RX4 23 "FosterSons$Treaty" "gains" "[[I", Cond.methodLink RX4 84 yX4_costsOf, Cond.instanceMethod yX4_costsOf, Cond.selects RX4 yX4_costsOf yX4_costsOf, Cond.code yX4_costsOf cX4_costsOf 8 (some .int), Cond.fieldLink RX4 18 "FosterSons$Treaty" "sons" "I", Cond.fieldLink RX4 30 "FosterSons$Treaty" "father" "[I", Cond.fieldLink RX4 26 "FosterSons$Treaty" "kind" "[I", Cond.fieldLink RX4 77 "FosterSons$Sending" "from" "[I", Cond.methodLink RX4 71 yX1_isAway, Cond.instanceMethod yX1_isAway, Cond.selects RX1 yX1_isAway yX1_isAway, Cond.initialized RX1, Cond.code yX1_isAway cX1_isAway 3 (some .boolean), Cond.fieldLink RX1 15 "FosterSons$Sending" "from" "[I", Cond.methodLink RX4 80 yX4_costOf, Cond.instanceMethod yX4_costOf, Cond.selects RX4 yX4_costOf yX4_costOf, Cond.code yX4_costOf cX4_costOf 6 (some .int), Cond.fieldLink RX4 33 "FosterSons$Treaty" "worth" "[I"]
def wsX5_worths_r3 : List Cond := [Cond.fieldLink RX4 36 "FosterSons$Treaty" "fond" "[I"]
def wsX5_worths : List Cond := .code yX5_worths cX5_worths 2 (some .int) :: ((wsX5_worths_r1 ++ (wsX5_worths_r2 ++ wsX5_worths_r3)) ++ wsX50 ++ wsX40 ++ wsX00 ++ wsX10)
def wsX5_kinds_r1 : List Cond := [Cond.fieldLink RX5 27 "FosterSons" "pact" "LFosterSons$Treaty;", Cond.fieldLink RX5 100 "FosterSons$Treaty" "kind" "[I", Cond.methodLink RX5 97 yX5_isSon, Cond.instanceMethod yX5_isSon, Cond.selects RX5 yX5_isSon yX5_isSon, Cond.initialized RX5, Cond.code yX5_isSon cX5_isSon 2 (some .boolean), Cond.fieldLink RX5 88 "FosterSons$Treaty" "sons" "I", Cond.methodLink RX5 206 yX5_fitting, Cond.instanceMethod yX5_fitting, Cond.selects RX5 yX5_fitting yX5_fitting, Cond.code yX5_fitting cX5_fitting 7 (some .int), Cond.fieldLink RX5 47 "FosterSons" "readings" "LFosterSons$Readings;", Cond.fieldLink RX5 37 "FosterSons" "sent" "LFosterSons$Sending;", Cond.methodLink RX5 210 yX0_allSo, Cond.instanceMethod yX0_allSo, Cond.selects RX0 yX0_allSo yX0_allSo, Cond.initialized RX0, Cond.code yX0_allSo cX0_allSo 4 (some .boolean), Cond.fieldLink RX0 22 "FosterSons$Readings" "count" "I", Cond.fieldLink RX0 9 "FosterSons$Readings" "court" "[I", Cond.fieldLink RX0 15 "FosterSons$Readings" "year" "[I", Cond.fieldLink RX0 18 "FosterSons$Readings" "was" "[Z", Cond.methodLink RX0 26 yX4_wouldBreak]
def wsX5_kinds_r2 : List Cond := [Cond.instanceMethod yX4_wouldBreak, Cond.selects RX4 yX4_wouldBreak yX4_wouldBreak, Cond.initialized RX4, Cond.code yX4_wouldBreak cX4_wouldBreak 5 (some .boolean), Cond.fieldLink RX4 23 "FosterSons$Treaty" "gains" "[[I", Cond.methodLink RX4 84 yX4_costsOf, Cond.instanceMethod yX4_costsOf, Cond.selects RX4 yX4_costsOf yX4_costsOf, Cond.code yX4_costsOf cX4_costsOf 8 (some .int), Cond.fieldLink RX4 18 "FosterSons$Treaty" "sons" "I", Cond.fieldLink RX4 30 "FosterSons$Treaty" "father" "[I", Cond.fieldLink RX4 26 "FosterSons$Treaty" "kind" "[I", Cond.fieldLink RX4 77 "FosterSons$Sending" "from" "[I", Cond.methodLink RX4 71 yX1_isAway, Cond.instanceMethod yX1_isAway, Cond.selects RX1 yX1_isAway yX1_isAway, Cond.initialized RX1, Cond.code yX1_isAway cX1_isAway 3 (some .boolean), Cond.fieldLink RX1 15 "FosterSons$Sending" "from" "[I", Cond.methodLink RX4 80 yX4_costOf, Cond.instanceMethod yX4_costOf, Cond.selects RX4 yX4_costOf yX4_costOf, Cond.code yX4_costOf cX4_costOf 6 (some .int), Cond.fieldLink RX4 33 "FosterSons$Treaty" "worth" "[I"]
def wsX5_kinds_r3 : List Cond := [Cond.fieldLink RX4 36 "FosterSons$Treaty" "fond" "[I"]
def wsX5_kinds : List Cond := .code yX5_kinds cX5_kinds 2 (some .int) :: ((wsX5_kinds_r1 ++ (wsX5_kinds_r2 ++ wsX5_kinds_r3)) ++ wsX50 ++ wsX40 ++ wsX00 ++ wsX10)
def wsX5_fondness_r1 : List Cond := [Cond.fieldLink RX5 27 "FosterSons" "pact" "LFosterSons$Treaty;", Cond.fieldLink RX5 110 "FosterSons$Treaty" "fond" "[I", Cond.methodLink RX5 97 yX5_isSon, Cond.instanceMethod yX5_isSon, Cond.selects RX5 yX5_isSon yX5_isSon, Cond.initialized RX5, Cond.code yX5_isSon cX5_isSon 2 (some .boolean), Cond.fieldLink RX5 88 "FosterSons$Treaty" "sons" "I", Cond.methodLink RX5 206 yX5_fitting, Cond.instanceMethod yX5_fitting, Cond.selects RX5 yX5_fitting yX5_fitting, Cond.code yX5_fitting cX5_fitting 7 (some .int), Cond.fieldLink RX5 47 "FosterSons" "readings" "LFosterSons$Readings;", Cond.fieldLink RX5 37 "FosterSons" "sent" "LFosterSons$Sending;", Cond.methodLink RX5 210 yX0_allSo, Cond.instanceMethod yX0_allSo, Cond.selects RX0 yX0_allSo yX0_allSo, Cond.initialized RX0, Cond.code yX0_allSo cX0_allSo 4 (some .boolean), Cond.fieldLink RX0 22 "FosterSons$Readings" "count" "I", Cond.fieldLink RX0 9 "FosterSons$Readings" "court" "[I", Cond.fieldLink RX0 15 "FosterSons$Readings" "year" "[I", Cond.fieldLink RX0 18 "FosterSons$Readings" "was" "[Z", Cond.methodLink RX0 26 yX4_wouldBreak]
def wsX5_fondness_r2 : List Cond := [Cond.instanceMethod yX4_wouldBreak, Cond.selects RX4 yX4_wouldBreak yX4_wouldBreak, Cond.initialized RX4, Cond.code yX4_wouldBreak cX4_wouldBreak 5 (some .boolean), Cond.fieldLink RX4 23 "FosterSons$Treaty" "gains" "[[I", Cond.methodLink RX4 84 yX4_costsOf, Cond.instanceMethod yX4_costsOf, Cond.selects RX4 yX4_costsOf yX4_costsOf, Cond.code yX4_costsOf cX4_costsOf 8 (some .int), Cond.fieldLink RX4 18 "FosterSons$Treaty" "sons" "I", Cond.fieldLink RX4 30 "FosterSons$Treaty" "father" "[I", Cond.fieldLink RX4 26 "FosterSons$Treaty" "kind" "[I", Cond.fieldLink RX4 77 "FosterSons$Sending" "from" "[I", Cond.methodLink RX4 71 yX1_isAway, Cond.instanceMethod yX1_isAway, Cond.selects RX1 yX1_isAway yX1_isAway, Cond.initialized RX1, Cond.code yX1_isAway cX1_isAway 3 (some .boolean), Cond.fieldLink RX1 15 "FosterSons$Sending" "from" "[I", Cond.methodLink RX4 80 yX4_costOf, Cond.instanceMethod yX4_costOf, Cond.selects RX4 yX4_costOf yX4_costOf, Cond.code yX4_costOf cX4_costOf 6 (some .int), Cond.fieldLink RX4 33 "FosterSons$Treaty" "worth" "[I"]
def wsX5_fondness_r3 : List Cond := [Cond.fieldLink RX4 36 "FosterSons$Treaty" "fond" "[I"]
def wsX5_fondness : List Cond := .code yX5_fondness cX5_fondness 2 (some .int) :: ((wsX5_fondness_r1 ++ (wsX5_fondness_r2 ++ wsX5_fondness_r3)) ++ wsX50 ++ wsX40 ++ wsX00 ++ wsX10)
def wsX5_breaksBy_r1 : List Cond := [Cond.fieldLink RX5 27 "FosterSons" "pact" "LFosterSons$Treaty;", Cond.fieldLink RX5 37 "FosterSons" "sent" "LFosterSons$Sending;", Cond.methodLink RX5 159 yX4_breakYear, Cond.instanceMethod yX4_breakYear, Cond.selects RX4 yX4_breakYear yX4_breakYear, Cond.initialized RX4, Cond.code yX4_breakYear cX4_breakYear 4 (some .int), Cond.fieldLink RX4 15 "FosterSons$Treaty" "years" "I", Cond.methodLink RX4 92 yX4_firstToBreak, Cond.instanceMethod yX4_firstToBreak, Cond.selects RX4 yX4_firstToBreak yX4_firstToBreak, Cond.code yX4_firstToBreak cX4_firstToBreak 5 (some .int), Cond.fieldLink RX4 9 "FosterSons$Treaty" "courts" "I", Cond.methodLink RX4 88 yX4_wouldBreak, Cond.instanceMethod yX4_wouldBreak, Cond.selects RX4 yX4_wouldBreak yX4_wouldBreak, Cond.code yX4_wouldBreak cX4_wouldBreak 5 (some .boolean), Cond.fieldLink RX4 23 "FosterSons$Treaty" "gains" "[[I", Cond.methodLink RX4 84 yX4_costsOf, Cond.instanceMethod yX4_costsOf, Cond.selects RX4 yX4_costsOf yX4_costsOf, Cond.code yX4_costsOf cX4_costsOf 8 (some .int), Cond.fieldLink RX4 18 "FosterSons$Treaty" "sons" "I", Cond.fieldLink RX4 30 "FosterSons$Treaty" "father" "[I"]
def wsX5_breaksBy_r2 : List Cond := [Cond.fieldLink RX4 26 "FosterSons$Treaty" "kind" "[I", Cond.fieldLink RX4 77 "FosterSons$Sending" "from" "[I", Cond.methodLink RX4 71 yX1_isAway, Cond.instanceMethod yX1_isAway, Cond.selects RX1 yX1_isAway yX1_isAway, Cond.initialized RX1, Cond.code yX1_isAway cX1_isAway 3 (some .boolean), Cond.fieldLink RX1 15 "FosterSons$Sending" "from" "[I", Cond.methodLink RX4 80 yX4_costOf, Cond.instanceMethod yX4_costOf, Cond.selects RX4 yX4_costOf yX4_costOf, Cond.code yX4_costOf cX4_costOf 6 (some .int), Cond.fieldLink RX4 33 "FosterSons$Treaty" "worth" "[I", Cond.fieldLink RX4 36 "FosterSons$Treaty" "fond" "[I"]
def wsX5_breaksBy : List Cond := .code yX5_breaksBy cX5_breaksBy 4 (some .boolean) :: ((wsX5_breaksBy_r1 ++ wsX5_breaksBy_r2) ++ wsX50 ++ wsX40 ++ wsX10)
def wsX5_odds_r1 : List Cond := [Cond.constantLong RX5 214 (-9223372036854775808), Cond.fieldLink RX5 37 "FosterSons" "sent" "LFosterSons$Sending;", Cond.fieldLink RX5 27 "FosterSons" "pact" "LFosterSons$Treaty;", Cond.fieldLink RX5 88 "FosterSons$Treaty" "sons" "I", Cond.methodLink RX5 144 yX5_hasTreaty, Cond.instanceMethod yX5_hasTreaty, Cond.selects RX5 yX5_hasTreaty yX5_hasTreaty, Cond.initialized RX5, Cond.code yX5_hasTreaty cX5_hasTreaty 1 (some .boolean), Cond.methodLink RX5 125 yX5_isYear, Cond.instanceMethod yX5_isYear, Cond.selects RX5 yX5_isYear yX5_isYear, Cond.code yX5_isYear cX5_isYear 2 (some .boolean), Cond.fieldLink RX5 179 "FosterSons$Treaty" "years" "I", Cond.methodLink RX5 216 yX1_setOf, Cond.instanceMethod yX1_setOf, Cond.selects RX1 yX1_setOf yX1_setOf, Cond.initialized RX1, Cond.code yX1_setOf cX1_setOf 3 (some .int), Cond.methodLink RX1 26 yX1_ever, Cond.instanceMethod yX1_ever, Cond.selects RX1 yX1_ever yX1_ever, Cond.code yX1_ever cX1_ever 2 (some .boolean), Cond.fieldLink RX1 15 "FosterSons$Sending" "from" "[I"]
def wsX5_odds_r2 : List Cond := [Cond.methodLink RX5 219 yX5_breaksBy, Cond.instanceMethod yX5_breaksBy, Cond.selects RX5 yX5_breaksBy yX5_breaksBy, Cond.code yX5_breaksBy cX5_breaksBy 4 (some .boolean), Cond.methodLink RX5 159 yX4_breakYear, Cond.instanceMethod yX4_breakYear, Cond.selects RX4 yX4_breakYear yX4_breakYear, Cond.initialized RX4, Cond.code yX4_breakYear cX4_breakYear 4 (some .int), Cond.fieldLink RX4 15 "FosterSons$Treaty" "years" "I", Cond.methodLink RX4 92 yX4_firstToBreak, Cond.instanceMethod yX4_firstToBreak, Cond.selects RX4 yX4_firstToBreak yX4_firstToBreak, Cond.code yX4_firstToBreak cX4_firstToBreak 5 (some .int), Cond.fieldLink RX4 9 "FosterSons$Treaty" "courts" "I", Cond.methodLink RX4 88 yX4_wouldBreak, Cond.instanceMethod yX4_wouldBreak, Cond.selects RX4 yX4_wouldBreak yX4_wouldBreak, Cond.code yX4_wouldBreak cX4_wouldBreak 5 (some .boolean), Cond.fieldLink RX4 23 "FosterSons$Treaty" "gains" "[[I", Cond.methodLink RX4 84 yX4_costsOf, Cond.instanceMethod yX4_costsOf, Cond.selects RX4 yX4_costsOf yX4_costsOf, Cond.code yX4_costsOf cX4_costsOf 8 (some .int)]
def wsX5_odds_r3 : List Cond := [Cond.fieldLink RX4 18 "FosterSons$Treaty" "sons" "I", Cond.fieldLink RX4 30 "FosterSons$Treaty" "father" "[I", Cond.fieldLink RX4 26 "FosterSons$Treaty" "kind" "[I", Cond.fieldLink RX4 77 "FosterSons$Sending" "from" "[I", Cond.methodLink RX4 71 yX1_isAway, Cond.instanceMethod yX1_isAway, Cond.selects RX1 yX1_isAway yX1_isAway, Cond.code yX1_isAway cX1_isAway 3 (some .boolean), Cond.methodLink RX4 80 yX4_costOf, Cond.instanceMethod yX4_costOf, Cond.selects RX4 yX4_costOf yX4_costOf, Cond.code yX4_costOf cX4_costOf 6 (some .int), Cond.fieldLink RX4 33 "FosterSons$Treaty" "worth" "[I", Cond.fieldLink RX4 36 "FosterSons$Treaty" "fond" "[I"]
def wsX5_odds : List Cond := .code yX5_odds cX5_odds 7 (some .long) :: ((wsX5_odds_r1 ++ (wsX5_odds_r2 ++ wsX5_odds_r3)) ++ wsX50 ++ wsX40 ++ wsX10)
def wsX5_sheet_r1 : List Cond := [Cond.fieldLink RX5 55 "FosterSons" "latestFault" "I", Cond.fieldLink RX5 13 "FosterSons" "sheets" "[LFosterSons$Sheet;", Cond.methodLink RX5 59 yX5_isSheet, Cond.static yX5_isSheet, Cond.initialized RX5, Cond.code yX5_isSheet cX5_isSheet 1 (some .boolean), Cond.methodLink RX5 63 yX5_isLane, Cond.static yX5_isLane, Cond.code yX5_isLane cX5_isLane 1 (some .boolean), Cond.methodLink RX5 70 yX5_faulted, Cond.instanceMethod yX5_faulted, Cond.selects RX5 yX5_faulted yX5_faulted, Cond.code yX5_faulted cX5_faulted 2 (some .int), Cond.methodLink RX5 222 yX2_begin, Cond.instanceMethod yX2_begin, Cond.selects RX2 yX2_begin yX2_begin, Cond.initialized RX2, Cond.code yX2_begin cX2_begin 4 none, Cond.fieldLink RX2 15 "FosterSons$Sheet" "hasRow" "Z", Cond.fieldLink RX2 19 "FosterSons$Sheet" "lane" "I", Cond.methodLink RX2 26 Lib.Math.min.name, Cond.static Lib.Math.min.name, Cond.initialized "java/lang/Math", Cond.code Lib.Math.min.name Lib.Math.min.code 2 (some .int)]
def wsX5_sheet_r2 : List Cond := [Cond.methodLink RX2 32 Lib.Math.max.name, Cond.static Lib.Math.max.name, Cond.code Lib.Math.max.name Lib.Math.max.code 2 (some .int), Cond.fieldLink RX2 23 "FosterSons$Sheet" "length" "I", Cond.fieldLink RX2 9 "FosterSons$Sheet" "cells" "[I"]
def wsX5_sheet : List Cond := .code yX5_sheet cX5_sheet 4 (some .int) :: ((wsX5_sheet_r1 ++ wsX5_sheet_r2) ++ wsX50 ++ wsX20)
def wsX5_lose : List Cond := .code yX5_lose cX5_lose 3 (some .int) :: ([.fieldLink RX5 13 "FosterSons" "sheets" "[LFosterSons$Sheet;", .fieldLink RX5 226 "FosterSons$Sheet" "hasRow" "Z", .methodLink RX5 59 yX5_isSheet, .static yX5_isSheet, .initialized RX5, .code yX5_isSheet cX5_isSheet 1 (some .boolean)] ++ wsX50 ++ wsX20)
def wsX5_put_r1 : List Cond := [Cond.fieldLink RX5 55 "FosterSons" "latestFault" "I", Cond.fieldLink RX5 13 "FosterSons" "sheets" "[LFosterSons$Sheet;", Cond.fieldLink RX5 226 "FosterSons$Sheet" "hasRow" "Z", Cond.methodLink RX5 59 yX5_isSheet, Cond.static yX5_isSheet, Cond.initialized RX5, Cond.code yX5_isSheet cX5_isSheet 1 (some .boolean), Cond.methodLink RX5 70 yX5_faulted, Cond.instanceMethod yX5_faulted, Cond.selects RX5 yX5_faulted yX5_faulted, Cond.code yX5_faulted cX5_faulted 2 (some .int), Cond.methodLink RX5 230 yX2_hasCell, Cond.instanceMethod yX2_hasCell, Cond.selects RX2 yX2_hasCell yX2_hasCell, Cond.initialized RX2, Cond.code yX2_hasCell cX2_hasCell 2 (some .boolean), Cond.fieldLink RX2 23 "FosterSons$Sheet" "length" "I", Cond.methodLink RX5 233 yX2_write, Cond.instanceMethod yX2_write, Cond.selects RX2 yX2_write yX2_write, Cond.code yX2_write cX2_write 3 none, Cond.fieldLink RX2 9 "FosterSons$Sheet" "cells" "[I", Cond.methodLink RX2 35 yX2_hasCell, Cond.methodLink RX2 39 yX2_cut]
def wsX5_put_r2 : List Cond := [Cond.instanceMethod yX2_cut, Cond.selects RX2 yX2_cut yX2_cut, Cond.code yX2_cut cX2_cut 2 (some .int), Cond.fieldLink RX2 19 "FosterSons$Sheet" "lane" "I"]
def wsX5_put : List Cond := .code yX5_put cX5_put 4 (some .int) :: ((wsX5_put_r1 ++ wsX5_put_r2) ++ wsX50 ++ wsX20)
def wsX5_cell_r1 : List Cond := [Cond.fieldLink RX5 55 "FosterSons" "latestFault" "I", Cond.constantLong RX5 214 (-9223372036854775808), Cond.fieldLink RX5 13 "FosterSons" "sheets" "[LFosterSons$Sheet;", Cond.methodLink RX5 59 yX5_isSheet, Cond.static yX5_isSheet, Cond.initialized RX5, Cond.code yX5_isSheet cX5_isSheet 1 (some .boolean), Cond.methodLink RX5 63 yX5_isLane, Cond.static yX5_isLane, Cond.code yX5_isLane cX5_isLane 1 (some .boolean), Cond.methodLink RX5 236 yX5_laneFault, Cond.static yX5_laneFault, Cond.code yX5_laneFault cX5_laneFault 2 (some .int), Cond.fieldLink RX5 226 "FosterSons$Sheet" "hasRow" "Z", Cond.fieldLink RX5 240 "FosterSons$Sheet" "lane" "I", Cond.methodLink RX5 230 yX2_hasCell, Cond.instanceMethod yX2_hasCell, Cond.selects RX2 yX2_hasCell yX2_hasCell, Cond.initialized RX2, Cond.code yX2_hasCell cX2_hasCell 2 (some .boolean), Cond.fieldLink RX2 23 "FosterSons$Sheet" "length" "I", Cond.methodLink RX5 176 yX2_at, Cond.instanceMethod yX2_at, Cond.selects RX2 yX2_at yX2_at]
def wsX5_cell_r2 : List Cond := [Cond.code yX2_at cX2_at 2 (some .int), Cond.fieldLink RX2 9 "FosterSons$Sheet" "cells" "[I", Cond.methodLink RX2 35 yX2_hasCell]
def wsX5_cell : List Cond := .code yX5_cell cX5_cell 5 (some .long) :: ((wsX5_cell_r1 ++ wsX5_cell_r2) ++ wsX50 ++ wsX20)
def wsX5_copy : List Cond := .code yX5_copy cX5_copy 8 (some .int) :: ([.fieldLink RX5 55 "FosterSons" "latestFault" "I", .fieldLink RX5 13 "FosterSons" "sheets" "[LFosterSons$Sheet;", .fieldLink RX5 226 "FosterSons$Sheet" "hasRow" "Z", .fieldLink RX5 240 "FosterSons$Sheet" "lane" "I", .fieldLink RX5 246 "FosterSons$Sheet" "cells" "[I", .methodLink RX5 249 arraycopyName, .native arraycopyName, .static arraycopyName, .initialized "java/lang/System", .methodLink RX5 59 yX5_isSheet, .static yX5_isSheet, .initialized RX5, .code yX5_isSheet cX5_isSheet 1 (some .boolean), .methodLink RX5 70 yX5_faulted, .instanceMethod yX5_faulted, .selects RX5 yX5_faulted yX5_faulted, .code yX5_faulted cX5_faulted 2 (some .int), .methodLink RX5 243 yX2_hasCells, .instanceMethod yX2_hasCells, .selects RX2 yX2_hasCells yX2_hasCells, .initialized RX2, .code yX2_hasCells cX2_hasCells 3 (some .boolean), .fieldLink RX2 23 "FosterSons$Sheet" "length" "I"] ++ wsX50 ++ wsX20)
def wsX5_leaveTrace : List Cond := .code yX5_leaveTrace cX5_leaveTrace 2 none :: ([.fieldLink RX5 51 "FosterSons" "traced" "I"] ++ wsX50)
def wsX5_sonTells : List Cond := .code yX5_sonTells cX5_sonTells 2 (some .int) :: ([.fieldLink RX5 27 "FosterSons" "pact" "LFosterSons$Treaty;", .fieldLink RX5 107 "FosterSons$Treaty" "worth" "[I", .methodLink RX5 264 yX5_leaveTrace, .instanceMethod yX5_leaveTrace, .selects RX5 yX5_leaveTrace yX5_leaveTrace, .initialized RX5, .code yX5_leaveTrace cX5_leaveTrace 2 none, .fieldLink RX5 51 "FosterSons" "traced" "I"] ++ wsX50 ++ wsX40)
def wsX5_heirTells : List Cond := .code yX5_heirTells cX5_heirTells 2 (some .int) :: ([.methodLink RX5 264 yX5_leaveTrace, .instanceMethod yX5_leaveTrace, .selects RX5 yX5_leaveTrace yX5_leaveTrace, .initialized RX5, .code yX5_leaveTrace cX5_leaveTrace 2 none, .fieldLink RX5 51 "FosterSons" "traced" "I", .methodLink RX5 261 yX5_sonTells, .instanceMethod yX5_sonTells, .selects RX5 yX5_sonTells yX5_sonTells, .code yX5_sonTells cX5_sonTells 2 (some .int), .fieldLink RX5 27 "FosterSons" "pact" "LFosterSons$Treaty;", .fieldLink RX5 107 "FosterSons$Treaty" "worth" "[I"] ++ wsX50 ++ wsX40)
def wsX5_pageTells : List Cond := .code yX5_pageTells cX5_pageTells 3 (some .int) :: ([.methodLink RX5 264 yX5_leaveTrace, .instanceMethod yX5_leaveTrace, .selects RX5 yX5_leaveTrace yX5_leaveTrace, .initialized RX5, .code yX5_leaveTrace cX5_leaveTrace 2 none, .fieldLink RX5 51 "FosterSons" "traced" "I", .methodLink RX5 258 yX5_heirTells, .instanceMethod yX5_heirTells, .selects RX5 yX5_heirTells yX5_heirTells, .code yX5_heirTells cX5_heirTells 2 (some .int), .methodLink RX5 261 yX5_sonTells, .instanceMethod yX5_sonTells, .selects RX5 yX5_sonTells yX5_sonTells, .code yX5_sonTells cX5_sonTells 2 (some .int), .fieldLink RX5 27 "FosterSons" "pact" "LFosterSons$Treaty;", .fieldLink RX5 107 "FosterSons$Treaty" "worth" "[I"] ++ wsX50 ++ wsX40)
def wsX5_tell_r1 : List Cond := [Cond.fieldLink RX5 27 "FosterSons" "pact" "LFosterSons$Treaty;", Cond.fieldLink RX5 100 "FosterSons$Treaty" "kind" "[I", Cond.methodLink RX5 97 yX5_isSon, Cond.instanceMethod yX5_isSon, Cond.selects RX5 yX5_isSon yX5_isSon, Cond.initialized RX5, Cond.code yX5_isSon cX5_isSon 2 (some .boolean), Cond.fieldLink RX5 88 "FosterSons$Treaty" "sons" "I", Cond.methodLink RX5 255 yX5_pageTells, Cond.instanceMethod yX5_pageTells, Cond.selects RX5 yX5_pageTells yX5_pageTells, Cond.code yX5_pageTells cX5_pageTells 3 (some .int), Cond.methodLink RX5 264 yX5_leaveTrace, Cond.instanceMethod yX5_leaveTrace, Cond.selects RX5 yX5_leaveTrace yX5_leaveTrace, Cond.code yX5_leaveTrace cX5_leaveTrace 2 none, Cond.fieldLink RX5 51 "FosterSons" "traced" "I", Cond.methodLink RX5 258 yX5_heirTells, Cond.instanceMethod yX5_heirTells, Cond.selects RX5 yX5_heirTells yX5_heirTells, Cond.code yX5_heirTells cX5_heirTells 2 (some .int), Cond.methodLink RX5 261 yX5_sonTells, Cond.instanceMethod yX5_sonTells, Cond.selects RX5 yX5_sonTells yX5_sonTells]
def wsX5_tell_r2 : List Cond := [Cond.code yX5_sonTells cX5_sonTells 2 (some .int), Cond.fieldLink RX5 107 "FosterSons$Treaty" "worth" "[I"]
def wsX5_tell : List Cond := .code yX5_tell cX5_tell 2 (some .int) :: ((wsX5_tell_r1 ++ wsX5_tell_r2) ++ wsX50 ++ wsX40)
def wsX5_teach : List Cond := .code yX5_teach cX5_teach 2 (some .int) :: ([.fieldLink RX5 27 "FosterSons" "pact" "LFosterSons$Treaty;", .fieldLink RX5 100 "FosterSons$Treaty" "kind" "[I", .methodLink RX5 97 yX5_isSon, .instanceMethod yX5_isSon, .selects RX5 yX5_isSon yX5_isSon, .initialized RX5, .code yX5_isSon cX5_isSon 2 (some .boolean), .fieldLink RX5 88 "FosterSons$Treaty" "sons" "I", .methodLink RX5 264 yX5_leaveTrace, .instanceMethod yX5_leaveTrace, .selects RX5 yX5_leaveTrace yX5_leaveTrace, .code yX5_leaveTrace cX5_leaveTrace 2 none, .fieldLink RX5 51 "FosterSons" "traced" "I"] ++ wsX50 ++ wsX40)
def wsX5_as : List Cond := .code yX5_as cX5_as 3 (some .int) :: ([.fieldLink RX5 55 "FosterSons" "latestFault" "I", .fieldLink RX5 27 "FosterSons" "pact" "LFosterSons$Treaty;", .fieldLink RX5 100 "FosterSons$Treaty" "kind" "[I", .methodLink RX5 97 yX5_isSon, .instanceMethod yX5_isSon, .selects RX5 yX5_isSon yX5_isSon, .initialized RX5, .code yX5_isSon cX5_isSon 2 (some .boolean), .fieldLink RX5 88 "FosterSons$Treaty" "sons" "I", .methodLink RX5 70 yX5_faulted, .instanceMethod yX5_faulted, .selects RX5 yX5_faulted yX5_faulted, .code yX5_faulted cX5_faulted 2 (some .int)] ++ wsX50 ++ wsX40)
def wsX5_trace : List Cond := .code yX5_trace cX5_trace 1 (some .int) :: ([.fieldLink RX5 51 "FosterSons" "traced" "I"] ++ wsX50)
def wsX5_fault : List Cond := .code yX5_fault cX5_fault 1 (some .int) :: ([.fieldLink RX5 55 "FosterSons" "latestFault" "I"] ++ wsX50)
def wsX5_many : List Cond := .code yX5_many cX5_many 2 (some .int) :: ([.fieldLink RX5 27 "FosterSons" "pact" "LFosterSons$Treaty;", .fieldLink RX5 88 "FosterSons$Treaty" "sons" "I", .fieldLink RX5 148 "FosterSons$Treaty" "courts" "I", .fieldLink RX5 179 "FosterSons$Treaty" "years" "I", .fieldLink RX5 37 "FosterSons" "sent" "LFosterSons$Sending;", .fieldLink RX5 47 "FosterSons" "readings" "LFosterSons$Readings;", .fieldLink RX5 94 "FosterSons$Readings" "count" "I", .methodLink RX5 216 yX1_setOf, .instanceMethod yX1_setOf, .selects RX1 yX1_setOf yX1_setOf, .initialized RX1, .code yX1_setOf cX1_setOf 3 (some .int), .methodLink RX1 26 yX1_ever, .instanceMethod yX1_ever, .selects RX1 yX1_ever yX1_ever, .code yX1_ever cX1_ever 2 (some .boolean), .fieldLink RX1 15 "FosterSons$Sending" "from" "[I", .methodLink RX5 185 yJ6_bitCount_0f7a4, .static yJ6_bitCount_0f7a4, .initialized RJ6, .code yJ6_bitCount_0f7a4 cJ6_bitCount_0f7a4 1 (some .int), .constant RJ6 265 (1431655765), .constant RJ6 266 (858993459), .constant RJ6 267 (252645135)] ++ wsX50 ++ wsX40 ++ wsX00 ++ wsX10)
def wsX6_init : List Cond := .code yX6_init cX6_init 1 none :: ([.methodLink RX6 1 objectInit, .instanceMethod objectInit, .code objectInit ⟨#[0xb1]⟩ 1 none, .arrayClass .int, .fieldLink RX6 9 "FosterSonsModel" "sorts" "[I", .fieldLink RX6 13 "FosterSonsModel" "sheetLong" "[I", .fieldLink RX6 16 "FosterSonsModel" "cells" "[I", .fieldLink RX6 19 "FosterSonsModel" "gains" "[I", .fieldLink RX6 22 "FosterSonsModel" "kind" "[I", .fieldLink RX6 25 "FosterSonsModel" "father" "[I", .fieldLink RX6 28 "FosterSonsModel" "worth" "[I", .fieldLink RX6 31 "FosterSonsModel" "fond" "[I", .fieldLink RX6 34 "FosterSonsModel" "sentTo" "[I", .fieldLink RX6 37 "FosterSonsModel" "sentFrom" "[I", .fieldLink RX6 40 "FosterSonsModel" "readGains" "[I", .fieldLink RX6 43 "FosterSonsModel" "read" "[I", .fieldLink RX6 46 "FosterSonsModel" "asked" "[I", .fieldLink RX6 49 "FosterSonsModel" "readCourtOf" "[I", .fieldLink RX6 52 "FosterSonsModel" "readYear" "[I", .arrayClass .boolean, .fieldLink RX6 55 "FosterSonsModel" "readWas" "[Z", .fieldLink RX6 59 "FosterSonsModel" "kept" "[I"] ++ wsX60)
def wsX6_fails : List Cond := .code yX6_fails cX6_fails 2 (some .int) :: ([.fieldLink RX6 62 "FosterSonsModel" "fault" "I"] ++ wsX60)
def wsX6_lost : List Cond := .code yX6_lost cX6_lost 2 (some .long) :: ([.fieldLink RX6 62 "FosterSonsModel" "fault" "I", .constantLong RX6 66 (-9223372036854775808)] ++ wsX60)
def wsX6_within : List Cond := .code yX6_within cX6_within 3 (some .boolean) :: ([])
def wsX6_isSheet : List Cond := .code yX6_isSheet cX6_isSheet 1 (some .boolean) :: ([.methodLink RX6 68 yX6_within, .static yX6_within, .initialized RX6, .code yX6_within cX6_within 3 (some .boolean)])
def wsX6_isSort : List Cond := .code yX6_isSort cX6_isSort 1 (some .boolean) :: ([.methodLink RX6 68 yX6_within, .static yX6_within, .initialized RX6, .code yX6_within cX6_within 3 (some .boolean)])
def wsX6_against : List Cond := .code yX6_against cX6_against 5 (some .int) :: ([.fieldLink RX6 9 "FosterSonsModel" "sorts" "[I", .fieldLink RX6 13 "FosterSonsModel" "sheetLong" "[I"] ++ wsX60)
def wsX6_isCourt : List Cond := .code yX6_isCourt cX6_isCourt 2 (some .boolean) :: ([.fieldLink RX6 72 "FosterSonsModel" "courts" "I"] ++ wsX60)
def wsX6_isYear : List Cond := .code yX6_isYear cX6_isYear 2 (some .boolean) :: ([.fieldLink RX6 75 "FosterSonsModel" "years" "I"] ++ wsX60)
def wsX6_isSon : List Cond := .code yX6_isSon cX6_isSon 2 (some .boolean) :: ([.fieldLink RX6 78 "FosterSonsModel" "sons" "I"] ++ wsX60)
def wsX6_digit : List Cond := .code yX6_digit cX6_digit 4 (some .int) :: ([.fieldLink RX6 81 "FosterSonsModel" "at" "I", .fieldLink RX6 16 "FosterSonsModel" "cells" "[I", .methodLink RX6 68 yX6_within, .static yX6_within, .initialized RX6, .code yX6_within cX6_within 3 (some .boolean)] ++ wsX60)
def wsX6_isSign : List Cond := .code yX6_isSign cX6_isSign 3 (some .boolean) :: ([.fieldLink RX6 81 "FosterSonsModel" "at" "I", .fieldLink RX6 16 "FosterSonsModel" "cells" "[I"] ++ wsX60)
def wsX6_readCourt : List Cond := .code yX6_readCourt cX6_readCourt 4 (some .boolean) :: ([.fieldLink RX6 108 "FosterSonsModel" "readYears" "I", .fieldLink RX6 40 "FosterSonsModel" "readGains" "[I", .methodLink RX6 121 yX6_digit, .instanceMethod yX6_digit, .selects RX6 yX6_digit yX6_digit, .initialized RX6, .code yX6_digit cX6_digit 4 (some .int), .fieldLink RX6 81 "FosterSonsModel" "at" "I", .fieldLink RX6 16 "FosterSonsModel" "cells" "[I", .methodLink RX6 68 yX6_within, .static yX6_within, .code yX6_within cX6_within 3 (some .boolean)] ++ wsX60)
def wsX6_readSon : List Cond := .code yX6_readSon cX6_readSon 5 (some .boolean) :: ([.fieldLink RX6 111 "FosterSonsModel" "readMany" "I", .fieldLink RX6 81 "FosterSonsModel" "at" "I", .fieldLink RX6 16 "FosterSonsModel" "cells" "[I", .fieldLink RX6 43 "FosterSonsModel" "read" "[I", .fieldLink RX6 105 "FosterSonsModel" "readCourts" "I", .methodLink RX6 121 yX6_digit, .instanceMethod yX6_digit, .selects RX6 yX6_digit yX6_digit, .initialized RX6, .code yX6_digit cX6_digit 4 (some .int), .methodLink RX6 68 yX6_within, .static yX6_within, .code yX6_within cX6_within 3 (some .boolean)] ++ wsX60)
def wsX6_readTreaty_r1 : List Cond := [Cond.fieldLink RX6 111 "FosterSonsModel" "readMany" "I", Cond.fieldLink RX6 105 "FosterSonsModel" "readCourts" "I", Cond.fieldLink RX6 108 "FosterSonsModel" "readYears" "I", Cond.fieldLink RX6 81 "FosterSonsModel" "at" "I", Cond.methodLink RX6 117 yX6_isSign, Cond.instanceMethod yX6_isSign, Cond.selects RX6 yX6_isSign yX6_isSign, Cond.initialized RX6, Cond.code yX6_isSign cX6_isSign 3 (some .boolean), Cond.fieldLink RX6 16 "FosterSonsModel" "cells" "[I", Cond.methodLink RX6 121 yX6_digit, Cond.instanceMethod yX6_digit, Cond.selects RX6 yX6_digit yX6_digit, Cond.code yX6_digit cX6_digit 4 (some .int), Cond.methodLink RX6 68 yX6_within, Cond.static yX6_within, Cond.code yX6_within cX6_within 3 (some .boolean), Cond.methodLink RX6 125 yX6_readCourt, Cond.instanceMethod yX6_readCourt, Cond.selects RX6 yX6_readCourt yX6_readCourt, Cond.code yX6_readCourt cX6_readCourt 4 (some .boolean), Cond.fieldLink RX6 40 "FosterSonsModel" "readGains" "[I", Cond.methodLink RX6 128 yX6_readSon, Cond.instanceMethod yX6_readSon]
def wsX6_readTreaty_r2 : List Cond := [Cond.selects RX6 yX6_readSon yX6_readSon, Cond.code yX6_readSon cX6_readSon 5 (some .boolean), Cond.fieldLink RX6 43 "FosterSonsModel" "read" "[I"]
def wsX6_readTreaty : List Cond := .code yX6_readTreaty cX6_readTreaty 3 (some .boolean) :: ((wsX6_readTreaty_r1 ++ wsX6_readTreaty_r2) ++ wsX60)
def wsX6_takeTreaty : List Cond := .code yX6_takeTreaty cX6_takeTreaty 2 none :: ([.fieldLink RX6 105 "FosterSonsModel" "readCourts" "I", .fieldLink RX6 72 "FosterSonsModel" "courts" "I", .fieldLink RX6 108 "FosterSonsModel" "readYears" "I", .fieldLink RX6 75 "FosterSonsModel" "years" "I", .fieldLink RX6 19 "FosterSonsModel" "gains" "[I", .fieldLink RX6 40 "FosterSonsModel" "readGains" "[I", .fieldLink RX6 111 "FosterSonsModel" "readMany" "I", .fieldLink RX6 78 "FosterSonsModel" "sons" "I", .fieldLink RX6 22 "FosterSonsModel" "kind" "[I", .fieldLink RX6 43 "FosterSonsModel" "read" "[I", .fieldLink RX6 25 "FosterSonsModel" "father" "[I", .fieldLink RX6 28 "FosterSonsModel" "worth" "[I", .fieldLink RX6 31 "FosterSonsModel" "fond" "[I", .fieldLink RX6 34 "FosterSonsModel" "sentTo" "[I", .fieldLink RX6 37 "FosterSonsModel" "sentFrom" "[I", .fieldLink RX6 114 "FosterSonsModel" "readings" "I"] ++ wsX60)
def wsX6_treaty_r1 : List Cond := [Cond.fieldLink RX6 62 "FosterSonsModel" "fault" "I", Cond.fieldLink RX6 81 "FosterSonsModel" "at" "I", Cond.fieldLink RX6 78 "FosterSonsModel" "sons" "I", Cond.methodLink RX6 84 yX6_isSheet, Cond.static yX6_isSheet, Cond.initialized RX6, Cond.code yX6_isSheet cX6_isSheet 1 (some .boolean), Cond.methodLink RX6 68 yX6_within, Cond.static yX6_within, Cond.code yX6_within cX6_within 3 (some .boolean), Cond.methodLink RX6 88 yX6_isSort, Cond.static yX6_isSort, Cond.code yX6_isSort cX6_isSort 1 (some .boolean), Cond.methodLink RX6 91 yX6_against, Cond.instanceMethod yX6_against, Cond.selects RX6 yX6_against yX6_against, Cond.code yX6_against cX6_against 5 (some .int), Cond.fieldLink RX6 9 "FosterSonsModel" "sorts" "[I", Cond.fieldLink RX6 13 "FosterSonsModel" "sheetLong" "[I", Cond.methodLink RX6 95 yX6_fails, Cond.instanceMethod yX6_fails, Cond.selects RX6 yX6_fails yX6_fails, Cond.code yX6_fails cX6_fails 2 (some .int), Cond.methodLink RX6 99 yX6_readTreaty]
def wsX6_treaty_r2 : List Cond := [Cond.instanceMethod yX6_readTreaty, Cond.selects RX6 yX6_readTreaty yX6_readTreaty, Cond.code yX6_readTreaty cX6_readTreaty 3 (some .boolean), Cond.fieldLink RX6 111 "FosterSonsModel" "readMany" "I", Cond.fieldLink RX6 105 "FosterSonsModel" "readCourts" "I", Cond.fieldLink RX6 108 "FosterSonsModel" "readYears" "I", Cond.methodLink RX6 117 yX6_isSign, Cond.instanceMethod yX6_isSign, Cond.selects RX6 yX6_isSign yX6_isSign, Cond.code yX6_isSign cX6_isSign 3 (some .boolean), Cond.fieldLink RX6 16 "FosterSonsModel" "cells" "[I", Cond.methodLink RX6 121 yX6_digit, Cond.instanceMethod yX6_digit, Cond.selects RX6 yX6_digit yX6_digit, Cond.code yX6_digit cX6_digit 4 (some .int), Cond.methodLink RX6 125 yX6_readCourt, Cond.instanceMethod yX6_readCourt, Cond.selects RX6 yX6_readCourt yX6_readCourt, Cond.code yX6_readCourt cX6_readCourt 4 (some .boolean), Cond.fieldLink RX6 40 "FosterSonsModel" "readGains" "[I", Cond.methodLink RX6 128 yX6_readSon, Cond.instanceMethod yX6_readSon, Cond.selects RX6 yX6_readSon yX6_readSon, Cond.code yX6_readSon cX6_readSon 5 (some .boolean)]
def wsX6_treaty_r3 : List Cond := [Cond.fieldLink RX6 43 "FosterSonsModel" "read" "[I", Cond.methodLink RX6 102 yX6_takeTreaty, Cond.instanceMethod yX6_takeTreaty, Cond.selects RX6 yX6_takeTreaty yX6_takeTreaty, Cond.code yX6_takeTreaty cX6_takeTreaty 2 none, Cond.fieldLink RX6 72 "FosterSonsModel" "courts" "I", Cond.fieldLink RX6 75 "FosterSonsModel" "years" "I", Cond.fieldLink RX6 19 "FosterSonsModel" "gains" "[I", Cond.fieldLink RX6 22 "FosterSonsModel" "kind" "[I", Cond.fieldLink RX6 25 "FosterSonsModel" "father" "[I", Cond.fieldLink RX6 28 "FosterSonsModel" "worth" "[I", Cond.fieldLink RX6 31 "FosterSonsModel" "fond" "[I", Cond.fieldLink RX6 34 "FosterSonsModel" "sentTo" "[I", Cond.fieldLink RX6 37 "FosterSonsModel" "sentFrom" "[I", Cond.fieldLink RX6 114 "FosterSonsModel" "readings" "I"]
def wsX6_treaty : List Cond := .code yX6_treaty cX6_treaty 7 (some .int) :: ((wsX6_treaty_r1 ++ (wsX6_treaty_r2 ++ wsX6_treaty_r3)) ++ wsX60)
def wsX6_ofSon : List Cond := .code yX6_ofSon cX6_ofSon 3 (some .int) :: ([.fieldLink RX6 22 "FosterSonsModel" "kind" "[I", .fieldLink RX6 25 "FosterSonsModel" "father" "[I", .fieldLink RX6 28 "FosterSonsModel" "worth" "[I", .fieldLink RX6 31 "FosterSonsModel" "fond" "[I", .fieldLink RX6 34 "FosterSonsModel" "sentTo" "[I", .fieldLink RX6 37 "FosterSonsModel" "sentFrom" "[I", .methodLink RX6 131 yX6_isSon, .instanceMethod yX6_isSon, .selects RX6 yX6_isSon yX6_isSon, .initialized RX6, .code yX6_isSon cX6_isSon 2 (some .boolean), .fieldLink RX6 78 "FosterSonsModel" "sons" "I"] ++ wsX60)
def wsX6_gain : List Cond := .code yX6_gain cX6_gain 3 (some .int) :: ([.fieldLink RX6 19 "FosterSonsModel" "gains" "[I", .methodLink RX6 134 yX6_isCourt, .instanceMethod yX6_isCourt, .selects RX6 yX6_isCourt yX6_isCourt, .initialized RX6, .code yX6_isCourt cX6_isCourt 2 (some .boolean), .fieldLink RX6 72 "FosterSonsModel" "courts" "I", .methodLink RX6 137 yX6_isYear, .instanceMethod yX6_isYear, .selects RX6 yX6_isYear yX6_isYear, .code yX6_isYear cX6_isYear 2 (some .boolean), .fieldLink RX6 75 "FosterSonsModel" "years" "I"] ++ wsX60)
def wsX6_tempt : List Cond := .code yX6_tempt cX6_tempt 5 (some .int) :: ([.fieldLink RX6 19 "FosterSonsModel" "gains" "[I", .methodLink RX6 134 yX6_isCourt, .instanceMethod yX6_isCourt, .selects RX6 yX6_isCourt yX6_isCourt, .initialized RX6, .code yX6_isCourt cX6_isCourt 2 (some .boolean), .fieldLink RX6 72 "FosterSonsModel" "courts" "I", .methodLink RX6 137 yX6_isYear, .instanceMethod yX6_isYear, .selects RX6 yX6_isYear yX6_isYear, .code yX6_isYear cX6_isYear 2 (some .boolean), .fieldLink RX6 75 "FosterSonsModel" "years" "I", .methodLink RX6 68 yX6_within, .static yX6_within, .code yX6_within cX6_within 3 (some .boolean)] ++ wsX60)
def wsX6_send : List Cond := .code yX6_send cX6_send 5 (some .int) :: ([.fieldLink RX6 25 "FosterSonsModel" "father" "[I", .fieldLink RX6 34 "FosterSonsModel" "sentTo" "[I", .fieldLink RX6 37 "FosterSonsModel" "sentFrom" "[I", .methodLink RX6 131 yX6_isSon, .instanceMethod yX6_isSon, .selects RX6 yX6_isSon yX6_isSon, .initialized RX6, .code yX6_isSon cX6_isSon 2 (some .boolean), .fieldLink RX6 78 "FosterSonsModel" "sons" "I", .methodLink RX6 134 yX6_isCourt, .instanceMethod yX6_isCourt, .selects RX6 yX6_isCourt yX6_isCourt, .code yX6_isCourt cX6_isCourt 2 (some .boolean), .fieldLink RX6 72 "FosterSonsModel" "courts" "I", .methodLink RX6 137 yX6_isYear, .instanceMethod yX6_isYear, .selects RX6 yX6_isYear yX6_isYear, .code yX6_isYear cX6_isYear 2 (some .boolean), .fieldLink RX6 75 "FosterSonsModel" "years" "I"] ++ wsX60)
def wsX6_home : List Cond := .code yX6_home cX6_home 3 (some .int) :: ([.fieldLink RX6 34 "FosterSonsModel" "sentTo" "[I", .fieldLink RX6 37 "FosterSonsModel" "sentFrom" "[I", .methodLink RX6 131 yX6_isSon, .instanceMethod yX6_isSon, .selects RX6 yX6_isSon yX6_isSon, .initialized RX6, .code yX6_isSon cX6_isSon 2 (some .boolean), .fieldLink RX6 78 "FosterSonsModel" "sons" "I"] ++ wsX60)
def wsX6_stakeBy : List Cond := .code yX6_stakeBy cX6_stakeBy 5 (some .int) :: ([.fieldLink RX6 28 "FosterSonsModel" "worth" "[I", .fieldLink RX6 31 "FosterSonsModel" "fond" "[I", .fieldLink RX6 22 "FosterSonsModel" "kind" "[I"] ++ wsX60)
def wsX6_stake : List Cond := .code yX6_stake cX6_stake 3 (some .int) :: ([.fieldLink RX6 37 "FosterSonsModel" "sentFrom" "[I", .methodLink RX6 131 yX6_isSon, .instanceMethod yX6_isSon, .selects RX6 yX6_isSon yX6_isSon, .initialized RX6, .code yX6_isSon cX6_isSon 2 (some .boolean), .fieldLink RX6 78 "FosterSonsModel" "sons" "I", .methodLink RX6 137 yX6_isYear, .instanceMethod yX6_isYear, .selects RX6 yX6_isYear yX6_isYear, .code yX6_isYear cX6_isYear 2 (some .boolean), .fieldLink RX6 75 "FosterSonsModel" "years" "I", .methodLink RX6 140 yX6_stakeBy, .instanceMethod yX6_stakeBy, .selects RX6 yX6_stakeBy yX6_stakeBy, .code yX6_stakeBy cX6_stakeBy 5 (some .int), .fieldLink RX6 28 "FosterSonsModel" "worth" "[I", .fieldLink RX6 31 "FosterSonsModel" "fond" "[I", .fieldLink RX6 22 "FosterSonsModel" "kind" "[I"] ++ wsX60)
def wsX6_askNow : List Cond := .code yX6_askNow cX6_askNow 2 none :: ([.fieldLink RX6 78 "FosterSonsModel" "sons" "I", .fieldLink RX6 46 "FosterSonsModel" "asked" "[I", .fieldLink RX6 37 "FosterSonsModel" "sentFrom" "[I", .fieldLink RX6 75 "FosterSonsModel" "years" "I"] ++ wsX60)
def wsX6_stakesBy : List Cond := .code yX6_stakesBy cX6_stakesBy 5 (some .int) :: ([.fieldLink RX6 78 "FosterSonsModel" "sons" "I", .fieldLink RX6 25 "FosterSonsModel" "father" "[I", .fieldLink RX6 46 "FosterSonsModel" "asked" "[I", .methodLink RX6 140 yX6_stakeBy, .instanceMethod yX6_stakeBy, .selects RX6 yX6_stakeBy yX6_stakeBy, .initialized RX6, .code yX6_stakeBy cX6_stakeBy 5 (some .int), .fieldLink RX6 28 "FosterSonsModel" "worth" "[I", .fieldLink RX6 31 "FosterSonsModel" "fond" "[I", .fieldLink RX6 22 "FosterSonsModel" "kind" "[I"] ++ wsX60)
def wsX6_isTempted : List Cond := .code yX6_isTempted cX6_isTempted 3 (some .boolean) :: ([.fieldLink RX6 19 "FosterSonsModel" "gains" "[I", .methodLink RX6 143 yX6_stakesBy, .instanceMethod yX6_stakesBy, .selects RX6 yX6_stakesBy yX6_stakesBy, .initialized RX6, .code yX6_stakesBy cX6_stakesBy 5 (some .int), .fieldLink RX6 78 "FosterSonsModel" "sons" "I", .fieldLink RX6 25 "FosterSonsModel" "father" "[I", .fieldLink RX6 46 "FosterSonsModel" "asked" "[I", .methodLink RX6 140 yX6_stakeBy, .instanceMethod yX6_stakeBy, .selects RX6 yX6_stakeBy yX6_stakeBy, .code yX6_stakeBy cX6_stakeBy 5 (some .int), .fieldLink RX6 28 "FosterSonsModel" "worth" "[I", .fieldLink RX6 31 "FosterSonsModel" "fond" "[I", .fieldLink RX6 22 "FosterSonsModel" "kind" "[I"] ++ wsX60)
def wsX6_stakes_r1 : List Cond := [Cond.methodLink RX6 134 yX6_isCourt, Cond.instanceMethod yX6_isCourt, Cond.selects RX6 yX6_isCourt yX6_isCourt, Cond.initialized RX6, Cond.code yX6_isCourt cX6_isCourt 2 (some .boolean), Cond.fieldLink RX6 72 "FosterSonsModel" "courts" "I", Cond.methodLink RX6 137 yX6_isYear, Cond.instanceMethod yX6_isYear, Cond.selects RX6 yX6_isYear yX6_isYear, Cond.code yX6_isYear cX6_isYear 2 (some .boolean), Cond.fieldLink RX6 75 "FosterSonsModel" "years" "I", Cond.methodLink RX6 147 yX6_askNow, Cond.instanceMethod yX6_askNow, Cond.selects RX6 yX6_askNow yX6_askNow, Cond.code yX6_askNow cX6_askNow 2 none, Cond.fieldLink RX6 78 "FosterSonsModel" "sons" "I", Cond.fieldLink RX6 46 "FosterSonsModel" "asked" "[I", Cond.fieldLink RX6 37 "FosterSonsModel" "sentFrom" "[I", Cond.methodLink RX6 143 yX6_stakesBy, Cond.instanceMethod yX6_stakesBy, Cond.selects RX6 yX6_stakesBy yX6_stakesBy, Cond.code yX6_stakesBy cX6_stakesBy 5 (some .int), Cond.fieldLink RX6 25 "FosterSonsModel" "father" "[I", Cond.methodLink RX6 140 yX6_stakeBy]
def wsX6_stakes_r2 : List Cond := [Cond.instanceMethod yX6_stakeBy, Cond.selects RX6 yX6_stakeBy yX6_stakeBy, Cond.code yX6_stakeBy cX6_stakeBy 5 (some .int), Cond.fieldLink RX6 28 "FosterSonsModel" "worth" "[I", Cond.fieldLink RX6 31 "FosterSonsModel" "fond" "[I", Cond.fieldLink RX6 22 "FosterSonsModel" "kind" "[I"]
def wsX6_stakes : List Cond := .code yX6_stakes cX6_stakes 3 (some .int) :: ((wsX6_stakes_r1 ++ wsX6_stakes_r2) ++ wsX60)
def wsX6_temptedSet : List Cond := .code yX6_temptedSet cX6_temptedSet 4 (some .int) :: ([.fieldLink RX6 72 "FosterSonsModel" "courts" "I", .methodLink RX6 150 yX6_isTempted, .instanceMethod yX6_isTempted, .selects RX6 yX6_isTempted yX6_isTempted, .initialized RX6, .code yX6_isTempted cX6_isTempted 3 (some .boolean), .fieldLink RX6 19 "FosterSonsModel" "gains" "[I", .methodLink RX6 143 yX6_stakesBy, .instanceMethod yX6_stakesBy, .selects RX6 yX6_stakesBy yX6_stakesBy, .code yX6_stakesBy cX6_stakesBy 5 (some .int), .fieldLink RX6 78 "FosterSonsModel" "sons" "I", .fieldLink RX6 25 "FosterSonsModel" "father" "[I", .fieldLink RX6 46 "FosterSonsModel" "asked" "[I", .methodLink RX6 140 yX6_stakeBy, .instanceMethod yX6_stakeBy, .selects RX6 yX6_stakeBy yX6_stakeBy, .code yX6_stakeBy cX6_stakeBy 5 (some .int), .fieldLink RX6 28 "FosterSonsModel" "worth" "[I", .fieldLink RX6 31 "FosterSonsModel" "fond" "[I", .fieldLink RX6 22 "FosterSonsModel" "kind" "[I"] ++ wsX60)
def wsX6_tempted_r1 : List Cond := [Cond.fieldLink RX6 72 "FosterSonsModel" "courts" "I", Cond.methodLink RX6 137 yX6_isYear, Cond.instanceMethod yX6_isYear, Cond.selects RX6 yX6_isYear yX6_isYear, Cond.initialized RX6, Cond.code yX6_isYear cX6_isYear 2 (some .boolean), Cond.fieldLink RX6 75 "FosterSonsModel" "years" "I", Cond.methodLink RX6 147 yX6_askNow, Cond.instanceMethod yX6_askNow, Cond.selects RX6 yX6_askNow yX6_askNow, Cond.code yX6_askNow cX6_askNow 2 none, Cond.fieldLink RX6 78 "FosterSonsModel" "sons" "I", Cond.fieldLink RX6 46 "FosterSonsModel" "asked" "[I", Cond.fieldLink RX6 37 "FosterSonsModel" "sentFrom" "[I", Cond.methodLink RX6 153 yX6_temptedSet, Cond.instanceMethod yX6_temptedSet, Cond.selects RX6 yX6_temptedSet yX6_temptedSet, Cond.code yX6_temptedSet cX6_temptedSet 4 (some .int), Cond.methodLink RX6 150 yX6_isTempted, Cond.instanceMethod yX6_isTempted, Cond.selects RX6 yX6_isTempted yX6_isTempted, Cond.code yX6_isTempted cX6_isTempted 3 (some .boolean), Cond.fieldLink RX6 19 "FosterSonsModel" "gains" "[I", Cond.methodLink RX6 143 yX6_stakesBy]
def wsX6_tempted_r2 : List Cond := [Cond.instanceMethod yX6_stakesBy, Cond.selects RX6 yX6_stakesBy yX6_stakesBy, Cond.code yX6_stakesBy cX6_stakesBy 5 (some .int), Cond.fieldLink RX6 25 "FosterSonsModel" "father" "[I", Cond.methodLink RX6 140 yX6_stakeBy, Cond.instanceMethod yX6_stakeBy, Cond.selects RX6 yX6_stakeBy yX6_stakeBy, Cond.code yX6_stakeBy cX6_stakeBy 5 (some .int), Cond.fieldLink RX6 28 "FosterSonsModel" "worth" "[I", Cond.fieldLink RX6 31 "FosterSonsModel" "fond" "[I", Cond.fieldLink RX6 22 "FosterSonsModel" "kind" "[I"]
def wsX6_tempted : List Cond := .code yX6_tempted cX6_tempted 2 (some .int) :: ((wsX6_tempted_r1 ++ wsX6_tempted_r2) ++ wsX60)
def wsX6_breakYear_r1 : List Cond := [Cond.fieldLink RX6 75 "FosterSonsModel" "years" "I", Cond.methodLink RX6 153 yX6_temptedSet, Cond.instanceMethod yX6_temptedSet, Cond.selects RX6 yX6_temptedSet yX6_temptedSet, Cond.initialized RX6, Cond.code yX6_temptedSet cX6_temptedSet 4 (some .int), Cond.fieldLink RX6 72 "FosterSonsModel" "courts" "I", Cond.methodLink RX6 150 yX6_isTempted, Cond.instanceMethod yX6_isTempted, Cond.selects RX6 yX6_isTempted yX6_isTempted, Cond.code yX6_isTempted cX6_isTempted 3 (some .boolean), Cond.fieldLink RX6 19 "FosterSonsModel" "gains" "[I", Cond.methodLink RX6 143 yX6_stakesBy, Cond.instanceMethod yX6_stakesBy, Cond.selects RX6 yX6_stakesBy yX6_stakesBy, Cond.code yX6_stakesBy cX6_stakesBy 5 (some .int), Cond.fieldLink RX6 78 "FosterSonsModel" "sons" "I", Cond.fieldLink RX6 25 "FosterSonsModel" "father" "[I", Cond.fieldLink RX6 46 "FosterSonsModel" "asked" "[I", Cond.methodLink RX6 140 yX6_stakeBy, Cond.instanceMethod yX6_stakeBy, Cond.selects RX6 yX6_stakeBy yX6_stakeBy, Cond.code yX6_stakeBy cX6_stakeBy 5 (some .int), Cond.fieldLink RX6 28 "FosterSonsModel" "worth" "[I"]
def wsX6_breakYear_r2 : List Cond := [Cond.fieldLink RX6 31 "FosterSonsModel" "fond" "[I", Cond.fieldLink RX6 22 "FosterSonsModel" "kind" "[I"]
def wsX6_breakYear : List Cond := .code yX6_breakYear cX6_breakYear 2 (some .int) :: ((wsX6_breakYear_r1 ++ wsX6_breakYear_r2) ++ wsX60)
def wsX6_breakCourt_r1 : List Cond := [Cond.fieldLink RX6 72 "FosterSonsModel" "courts" "I", Cond.methodLink RX6 156 yX6_breakYear, Cond.instanceMethod yX6_breakYear, Cond.selects RX6 yX6_breakYear yX6_breakYear, Cond.initialized RX6, Cond.code yX6_breakYear cX6_breakYear 2 (some .int), Cond.fieldLink RX6 75 "FosterSonsModel" "years" "I", Cond.methodLink RX6 153 yX6_temptedSet, Cond.instanceMethod yX6_temptedSet, Cond.selects RX6 yX6_temptedSet yX6_temptedSet, Cond.code yX6_temptedSet cX6_temptedSet 4 (some .int), Cond.methodLink RX6 150 yX6_isTempted, Cond.instanceMethod yX6_isTempted, Cond.selects RX6 yX6_isTempted yX6_isTempted, Cond.code yX6_isTempted cX6_isTempted 3 (some .boolean), Cond.fieldLink RX6 19 "FosterSonsModel" "gains" "[I", Cond.methodLink RX6 143 yX6_stakesBy, Cond.instanceMethod yX6_stakesBy, Cond.selects RX6 yX6_stakesBy yX6_stakesBy, Cond.code yX6_stakesBy cX6_stakesBy 5 (some .int), Cond.fieldLink RX6 78 "FosterSonsModel" "sons" "I", Cond.fieldLink RX6 25 "FosterSonsModel" "father" "[I", Cond.fieldLink RX6 46 "FosterSonsModel" "asked" "[I", Cond.methodLink RX6 140 yX6_stakeBy]
def wsX6_breakCourt_r2 : List Cond := [Cond.instanceMethod yX6_stakeBy, Cond.selects RX6 yX6_stakeBy yX6_stakeBy, Cond.code yX6_stakeBy cX6_stakeBy 5 (some .int), Cond.fieldLink RX6 28 "FosterSonsModel" "worth" "[I", Cond.fieldLink RX6 31 "FosterSonsModel" "fond" "[I", Cond.fieldLink RX6 22 "FosterSonsModel" "kind" "[I"]
def wsX6_breakCourt : List Cond := .code yX6_breakCourt cX6_breakCourt 3 (some .int) :: ((wsX6_breakCourt_r1 ++ wsX6_breakCourt_r2) ++ wsX60)
def wsX6_broken_r1 : List Cond := [Cond.fieldLink RX6 72 "FosterSonsModel" "courts" "I", Cond.methodLink RX6 68 yX6_within, Cond.static yX6_within, Cond.initialized RX6, Cond.code yX6_within cX6_within 3 (some .boolean), Cond.methodLink RX6 147 yX6_askNow, Cond.instanceMethod yX6_askNow, Cond.selects RX6 yX6_askNow yX6_askNow, Cond.code yX6_askNow cX6_askNow 2 none, Cond.fieldLink RX6 78 "FosterSonsModel" "sons" "I", Cond.fieldLink RX6 46 "FosterSonsModel" "asked" "[I", Cond.fieldLink RX6 37 "FosterSonsModel" "sentFrom" "[I", Cond.fieldLink RX6 75 "FosterSonsModel" "years" "I", Cond.methodLink RX6 156 yX6_breakYear, Cond.instanceMethod yX6_breakYear, Cond.selects RX6 yX6_breakYear yX6_breakYear, Cond.code yX6_breakYear cX6_breakYear 2 (some .int), Cond.methodLink RX6 153 yX6_temptedSet, Cond.instanceMethod yX6_temptedSet, Cond.selects RX6 yX6_temptedSet yX6_temptedSet, Cond.code yX6_temptedSet cX6_temptedSet 4 (some .int), Cond.methodLink RX6 150 yX6_isTempted, Cond.instanceMethod yX6_isTempted, Cond.selects RX6 yX6_isTempted yX6_isTempted]
def wsX6_broken_r2 : List Cond := [Cond.code yX6_isTempted cX6_isTempted 3 (some .boolean), Cond.fieldLink RX6 19 "FosterSonsModel" "gains" "[I", Cond.methodLink RX6 143 yX6_stakesBy, Cond.instanceMethod yX6_stakesBy, Cond.selects RX6 yX6_stakesBy yX6_stakesBy, Cond.code yX6_stakesBy cX6_stakesBy 5 (some .int), Cond.fieldLink RX6 25 "FosterSonsModel" "father" "[I", Cond.methodLink RX6 140 yX6_stakeBy, Cond.instanceMethod yX6_stakeBy, Cond.selects RX6 yX6_stakeBy yX6_stakeBy, Cond.code yX6_stakeBy cX6_stakeBy 5 (some .int), Cond.fieldLink RX6 28 "FosterSonsModel" "worth" "[I", Cond.fieldLink RX6 31 "FosterSonsModel" "fond" "[I", Cond.fieldLink RX6 22 "FosterSonsModel" "kind" "[I", Cond.methodLink RX6 160 yX6_breakCourt, Cond.instanceMethod yX6_breakCourt, Cond.selects RX6 yX6_breakCourt yX6_breakCourt, Cond.code yX6_breakCourt cX6_breakCourt 3 (some .int)]
def wsX6_broken : List Cond := .code yX6_broken cX6_broken 2 (some .int) :: ((wsX6_broken_r1 ++ wsX6_broken_r2) ++ wsX60)
def wsX6_tellPlan_r1 : List Cond := [Cond.fieldLink RX6 78 "FosterSonsModel" "sons" "I", Cond.fieldLink RX6 46 "FosterSonsModel" "asked" "[I", Cond.fieldLink RX6 75 "FosterSonsModel" "years" "I", Cond.methodLink RX6 156 yX6_breakYear, Cond.instanceMethod yX6_breakYear, Cond.selects RX6 yX6_breakYear yX6_breakYear, Cond.initialized RX6, Cond.code yX6_breakYear cX6_breakYear 2 (some .int), Cond.methodLink RX6 153 yX6_temptedSet, Cond.instanceMethod yX6_temptedSet, Cond.selects RX6 yX6_temptedSet yX6_temptedSet, Cond.code yX6_temptedSet cX6_temptedSet 4 (some .int), Cond.fieldLink RX6 72 "FosterSonsModel" "courts" "I", Cond.methodLink RX6 150 yX6_isTempted, Cond.instanceMethod yX6_isTempted, Cond.selects RX6 yX6_isTempted yX6_isTempted, Cond.code yX6_isTempted cX6_isTempted 3 (some .boolean), Cond.fieldLink RX6 19 "FosterSonsModel" "gains" "[I", Cond.methodLink RX6 143 yX6_stakesBy, Cond.instanceMethod yX6_stakesBy, Cond.selects RX6 yX6_stakesBy yX6_stakesBy, Cond.code yX6_stakesBy cX6_stakesBy 5 (some .int), Cond.fieldLink RX6 25 "FosterSonsModel" "father" "[I", Cond.methodLink RX6 140 yX6_stakeBy]
def wsX6_tellPlan_r2 : List Cond := [Cond.instanceMethod yX6_stakeBy, Cond.selects RX6 yX6_stakeBy yX6_stakeBy, Cond.code yX6_stakeBy cX6_stakeBy 5 (some .int), Cond.fieldLink RX6 28 "FosterSonsModel" "worth" "[I", Cond.fieldLink RX6 31 "FosterSonsModel" "fond" "[I", Cond.fieldLink RX6 22 "FosterSonsModel" "kind" "[I", Cond.methodLink RX6 160 yX6_breakCourt, Cond.instanceMethod yX6_breakCourt, Cond.selects RX6 yX6_breakCourt yX6_breakCourt, Cond.code yX6_breakCourt cX6_breakCourt 3 (some .int), Cond.methodLink RX6 134 yX6_isCourt, Cond.instanceMethod yX6_isCourt, Cond.selects RX6 yX6_isCourt yX6_isCourt, Cond.code yX6_isCourt cX6_isCourt 2 (some .boolean)]
def wsX6_tellPlan : List Cond := .code yX6_tellPlan cX6_tellPlan 4 (some .int) :: ((wsX6_tellPlan_r1 ++ wsX6_tellPlan_r2) ++ wsX60)
def wsX6_plan_r1 : List Cond := [Cond.fieldLink RX6 62 "FosterSonsModel" "fault" "I", Cond.fieldLink RX6 72 "FosterSonsModel" "courts" "I", Cond.fieldLink RX6 78 "FosterSonsModel" "sons" "I", Cond.fieldLink RX6 46 "FosterSonsModel" "asked" "[I", Cond.fieldLink RX6 16 "FosterSonsModel" "cells" "[I", Cond.fieldLink RX6 75 "FosterSonsModel" "years" "I", Cond.methodLink RX6 84 yX6_isSheet, Cond.static yX6_isSheet, Cond.initialized RX6, Cond.code yX6_isSheet cX6_isSheet 1 (some .boolean), Cond.methodLink RX6 68 yX6_within, Cond.static yX6_within, Cond.code yX6_within cX6_within 3 (some .boolean), Cond.methodLink RX6 88 yX6_isSort, Cond.static yX6_isSort, Cond.code yX6_isSort cX6_isSort 1 (some .boolean), Cond.methodLink RX6 91 yX6_against, Cond.instanceMethod yX6_against, Cond.selects RX6 yX6_against yX6_against, Cond.code yX6_against cX6_against 5 (some .int), Cond.fieldLink RX6 9 "FosterSonsModel" "sorts" "[I", Cond.fieldLink RX6 13 "FosterSonsModel" "sheetLong" "[I", Cond.methodLink RX6 95 yX6_fails, Cond.instanceMethod yX6_fails]
def wsX6_plan_r2 : List Cond := [Cond.selects RX6 yX6_fails yX6_fails, Cond.code yX6_fails cX6_fails 2 (some .int), Cond.methodLink RX6 163 yX6_tellPlan, Cond.instanceMethod yX6_tellPlan, Cond.selects RX6 yX6_tellPlan yX6_tellPlan, Cond.code yX6_tellPlan cX6_tellPlan 4 (some .int), Cond.methodLink RX6 156 yX6_breakYear, Cond.instanceMethod yX6_breakYear, Cond.selects RX6 yX6_breakYear yX6_breakYear, Cond.code yX6_breakYear cX6_breakYear 2 (some .int), Cond.methodLink RX6 153 yX6_temptedSet, Cond.instanceMethod yX6_temptedSet, Cond.selects RX6 yX6_temptedSet yX6_temptedSet, Cond.code yX6_temptedSet cX6_temptedSet 4 (some .int), Cond.methodLink RX6 150 yX6_isTempted, Cond.instanceMethod yX6_isTempted, Cond.selects RX6 yX6_isTempted yX6_isTempted, Cond.code yX6_isTempted cX6_isTempted 3 (some .boolean), Cond.fieldLink RX6 19 "FosterSonsModel" "gains" "[I", Cond.methodLink RX6 143 yX6_stakesBy, Cond.instanceMethod yX6_stakesBy, Cond.selects RX6 yX6_stakesBy yX6_stakesBy, Cond.code yX6_stakesBy cX6_stakesBy 5 (some .int), Cond.fieldLink RX6 25 "FosterSonsModel" "father" "[I"]
def wsX6_plan_r3 : List Cond := [Cond.methodLink RX6 140 yX6_stakeBy, Cond.instanceMethod yX6_stakeBy, Cond.selects RX6 yX6_stakeBy yX6_stakeBy, Cond.code yX6_stakeBy cX6_stakeBy 5 (some .int), Cond.fieldLink RX6 28 "FosterSonsModel" "worth" "[I", Cond.fieldLink RX6 31 "FosterSonsModel" "fond" "[I", Cond.fieldLink RX6 22 "FosterSonsModel" "kind" "[I", Cond.methodLink RX6 160 yX6_breakCourt, Cond.instanceMethod yX6_breakCourt, Cond.selects RX6 yX6_breakCourt yX6_breakCourt, Cond.code yX6_breakCourt cX6_breakCourt 3 (some .int), Cond.methodLink RX6 134 yX6_isCourt, Cond.instanceMethod yX6_isCourt, Cond.selects RX6 yX6_isCourt yX6_isCourt, Cond.code yX6_isCourt cX6_isCourt 2 (some .boolean)]
def wsX6_plan : List Cond := .code yX6_plan cX6_plan 8 (some .int) :: ((wsX6_plan_r1 ++ (wsX6_plan_r2 ++ wsX6_plan_r3)) ++ wsX60)
def wsX6_size : List Cond := .code yX6_size cX6_size 3 (some .int) :: ([])
def wsX6_askSet : List Cond := .code yX6_askSet cX6_askSet 3 none :: ([.fieldLink RX6 78 "FosterSonsModel" "sons" "I", .fieldLink RX6 46 "FosterSonsModel" "asked" "[I", .fieldLink RX6 75 "FosterSonsModel" "years" "I"] ++ wsX60)
def wsX6_least_r1 : List Cond := [Cond.fieldLink RX6 72 "FosterSonsModel" "courts" "I", Cond.fieldLink RX6 78 "FosterSonsModel" "sons" "I", Cond.methodLink RX6 166 yX6_size, Cond.static yX6_size, Cond.initialized RX6, Cond.code yX6_size cX6_size 3 (some .int), Cond.methodLink RX6 169 yX6_askSet, Cond.instanceMethod yX6_askSet, Cond.selects RX6 yX6_askSet yX6_askSet, Cond.code yX6_askSet cX6_askSet 3 none, Cond.fieldLink RX6 46 "FosterSonsModel" "asked" "[I", Cond.fieldLink RX6 75 "FosterSonsModel" "years" "I", Cond.methodLink RX6 156 yX6_breakYear, Cond.instanceMethod yX6_breakYear, Cond.selects RX6 yX6_breakYear yX6_breakYear, Cond.code yX6_breakYear cX6_breakYear 2 (some .int), Cond.methodLink RX6 153 yX6_temptedSet, Cond.instanceMethod yX6_temptedSet, Cond.selects RX6 yX6_temptedSet yX6_temptedSet, Cond.code yX6_temptedSet cX6_temptedSet 4 (some .int), Cond.methodLink RX6 150 yX6_isTempted, Cond.instanceMethod yX6_isTempted, Cond.selects RX6 yX6_isTempted yX6_isTempted, Cond.code yX6_isTempted cX6_isTempted 3 (some .boolean)]
def wsX6_least_r2 : List Cond := [Cond.fieldLink RX6 19 "FosterSonsModel" "gains" "[I", Cond.methodLink RX6 143 yX6_stakesBy, Cond.instanceMethod yX6_stakesBy, Cond.selects RX6 yX6_stakesBy yX6_stakesBy, Cond.code yX6_stakesBy cX6_stakesBy 5 (some .int), Cond.fieldLink RX6 25 "FosterSonsModel" "father" "[I", Cond.methodLink RX6 140 yX6_stakeBy, Cond.instanceMethod yX6_stakeBy, Cond.selects RX6 yX6_stakeBy yX6_stakeBy, Cond.code yX6_stakeBy cX6_stakeBy 5 (some .int), Cond.fieldLink RX6 28 "FosterSonsModel" "worth" "[I", Cond.fieldLink RX6 31 "FosterSonsModel" "fond" "[I", Cond.fieldLink RX6 22 "FosterSonsModel" "kind" "[I"]
def wsX6_least : List Cond := .code yX6_least cX6_least 3 (some .int) :: ((wsX6_least_r1 ++ wsX6_least_r2) ++ wsX60)
def wsX6_holeOf : List Cond := .code yX6_holeOf cX6_holeOf 3 (some .int) :: ([.fieldLink RX6 75 "FosterSonsModel" "years" "I", .methodLink RX6 150 yX6_isTempted, .instanceMethod yX6_isTempted, .selects RX6 yX6_isTempted yX6_isTempted, .initialized RX6, .code yX6_isTempted cX6_isTempted 3 (some .boolean), .fieldLink RX6 19 "FosterSonsModel" "gains" "[I", .methodLink RX6 143 yX6_stakesBy, .instanceMethod yX6_stakesBy, .selects RX6 yX6_stakesBy yX6_stakesBy, .code yX6_stakesBy cX6_stakesBy 5 (some .int), .fieldLink RX6 78 "FosterSonsModel" "sons" "I", .fieldLink RX6 25 "FosterSonsModel" "father" "[I", .fieldLink RX6 46 "FosterSonsModel" "asked" "[I", .methodLink RX6 140 yX6_stakeBy, .instanceMethod yX6_stakeBy, .selects RX6 yX6_stakeBy yX6_stakeBy, .code yX6_stakeBy cX6_stakeBy 5 (some .int), .fieldLink RX6 28 "FosterSonsModel" "worth" "[I", .fieldLink RX6 31 "FosterSonsModel" "fond" "[I", .fieldLink RX6 22 "FosterSonsModel" "kind" "[I"] ++ wsX60)
def wsX6_hole_r1 : List Cond := [Cond.fieldLink RX6 78 "FosterSonsModel" "sons" "I", Cond.methodLink RX6 134 yX6_isCourt, Cond.instanceMethod yX6_isCourt, Cond.selects RX6 yX6_isCourt yX6_isCourt, Cond.initialized RX6, Cond.code yX6_isCourt cX6_isCourt 2 (some .boolean), Cond.fieldLink RX6 72 "FosterSonsModel" "courts" "I", Cond.methodLink RX6 169 yX6_askSet, Cond.instanceMethod yX6_askSet, Cond.selects RX6 yX6_askSet yX6_askSet, Cond.code yX6_askSet cX6_askSet 3 none, Cond.fieldLink RX6 46 "FosterSonsModel" "asked" "[I", Cond.fieldLink RX6 75 "FosterSonsModel" "years" "I", Cond.methodLink RX6 173 yX6_holeOf, Cond.instanceMethod yX6_holeOf, Cond.selects RX6 yX6_holeOf yX6_holeOf, Cond.code yX6_holeOf cX6_holeOf 3 (some .int), Cond.methodLink RX6 150 yX6_isTempted, Cond.instanceMethod yX6_isTempted, Cond.selects RX6 yX6_isTempted yX6_isTempted, Cond.code yX6_isTempted cX6_isTempted 3 (some .boolean), Cond.fieldLink RX6 19 "FosterSonsModel" "gains" "[I", Cond.methodLink RX6 143 yX6_stakesBy, Cond.instanceMethod yX6_stakesBy]
def wsX6_hole_r2 : List Cond := [Cond.selects RX6 yX6_stakesBy yX6_stakesBy, Cond.code yX6_stakesBy cX6_stakesBy 5 (some .int), Cond.fieldLink RX6 25 "FosterSonsModel" "father" "[I", Cond.methodLink RX6 140 yX6_stakeBy, Cond.instanceMethod yX6_stakeBy, Cond.selects RX6 yX6_stakeBy yX6_stakeBy, Cond.code yX6_stakeBy cX6_stakeBy 5 (some .int), Cond.fieldLink RX6 28 "FosterSonsModel" "worth" "[I", Cond.fieldLink RX6 31 "FosterSonsModel" "fond" "[I", Cond.fieldLink RX6 22 "FosterSonsModel" "kind" "[I"]
def wsX6_hole : List Cond := .code yX6_hole cX6_hole 2 (some .int) :: ((wsX6_hole_r1 ++ wsX6_hole_r2) ++ wsX60)
def wsX6_when_r1 : List Cond := [Cond.fieldLink RX6 78 "FosterSonsModel" "sons" "I", Cond.fieldLink RX6 75 "FosterSonsModel" "years" "I", Cond.fieldLink RX6 46 "FosterSonsModel" "asked" "[I", Cond.fieldLink RX6 25 "FosterSonsModel" "father" "[I", Cond.methodLink RX6 131 yX6_isSon, Cond.instanceMethod yX6_isSon, Cond.selects RX6 yX6_isSon yX6_isSon, Cond.initialized RX6, Cond.code yX6_isSon cX6_isSon 2 (some .boolean), Cond.methodLink RX6 169 yX6_askSet, Cond.instanceMethod yX6_askSet, Cond.selects RX6 yX6_askSet yX6_askSet, Cond.code yX6_askSet cX6_askSet 3 none, Cond.methodLink RX6 173 yX6_holeOf, Cond.instanceMethod yX6_holeOf, Cond.selects RX6 yX6_holeOf yX6_holeOf, Cond.code yX6_holeOf cX6_holeOf 3 (some .int), Cond.methodLink RX6 150 yX6_isTempted, Cond.instanceMethod yX6_isTempted, Cond.selects RX6 yX6_isTempted yX6_isTempted, Cond.code yX6_isTempted cX6_isTempted 3 (some .boolean), Cond.fieldLink RX6 19 "FosterSonsModel" "gains" "[I", Cond.methodLink RX6 143 yX6_stakesBy, Cond.instanceMethod yX6_stakesBy]
def wsX6_when_r2 : List Cond := [Cond.selects RX6 yX6_stakesBy yX6_stakesBy, Cond.code yX6_stakesBy cX6_stakesBy 5 (some .int), Cond.methodLink RX6 140 yX6_stakeBy, Cond.instanceMethod yX6_stakeBy, Cond.selects RX6 yX6_stakeBy yX6_stakeBy, Cond.code yX6_stakeBy cX6_stakeBy 5 (some .int), Cond.fieldLink RX6 28 "FosterSonsModel" "worth" "[I", Cond.fieldLink RX6 31 "FosterSonsModel" "fond" "[I", Cond.fieldLink RX6 22 "FosterSonsModel" "kind" "[I"]
def wsX6_when : List Cond := .code yX6_when cX6_when 3 (some .int) :: ((wsX6_when_r1 ++ wsX6_when_r2) ++ wsX60)
def wsX6_reading : List Cond := .code yX6_reading cX6_reading 4 (some .int) :: ([.fieldLink RX6 114 "FosterSonsModel" "readings" "I", .fieldLink RX6 49 "FosterSonsModel" "readCourtOf" "[I", .fieldLink RX6 52 "FosterSonsModel" "readYear" "[I", .fieldLink RX6 55 "FosterSonsModel" "readWas" "[Z", .methodLink RX6 134 yX6_isCourt, .instanceMethod yX6_isCourt, .selects RX6 yX6_isCourt yX6_isCourt, .initialized RX6, .code yX6_isCourt cX6_isCourt 2 (some .boolean), .fieldLink RX6 72 "FosterSonsModel" "courts" "I", .methodLink RX6 137 yX6_isYear, .instanceMethod yX6_isYear, .selects RX6 yX6_isYear yX6_isYear, .code yX6_isYear cX6_isYear 2 (some .boolean), .fieldLink RX6 75 "FosterSonsModel" "years" "I"] ++ wsX60)
def wsX6_back : List Cond := .code yX6_back cX6_back 2 (some .int) :: ([.fieldLink RX6 114 "FosterSonsModel" "readings" "I", .methodLink RX6 68 yX6_within, .static yX6_within, .initialized RX6, .code yX6_within cX6_within 3 (some .boolean)] ++ wsX60)
def wsX6_areSo_r1 : List Cond := [Cond.fieldLink RX6 114 "FosterSonsModel" "readings" "I", Cond.fieldLink RX6 49 "FosterSonsModel" "readCourtOf" "[I", Cond.fieldLink RX6 52 "FosterSonsModel" "readYear" "[I", Cond.fieldLink RX6 55 "FosterSonsModel" "readWas" "[Z", Cond.methodLink RX6 147 yX6_askNow, Cond.instanceMethod yX6_askNow, Cond.selects RX6 yX6_askNow yX6_askNow, Cond.initialized RX6, Cond.code yX6_askNow cX6_askNow 2 none, Cond.fieldLink RX6 78 "FosterSonsModel" "sons" "I", Cond.fieldLink RX6 46 "FosterSonsModel" "asked" "[I", Cond.fieldLink RX6 37 "FosterSonsModel" "sentFrom" "[I", Cond.fieldLink RX6 75 "FosterSonsModel" "years" "I", Cond.methodLink RX6 150 yX6_isTempted, Cond.instanceMethod yX6_isTempted, Cond.selects RX6 yX6_isTempted yX6_isTempted, Cond.code yX6_isTempted cX6_isTempted 3 (some .boolean), Cond.fieldLink RX6 19 "FosterSonsModel" "gains" "[I", Cond.methodLink RX6 143 yX6_stakesBy, Cond.instanceMethod yX6_stakesBy, Cond.selects RX6 yX6_stakesBy yX6_stakesBy, Cond.code yX6_stakesBy cX6_stakesBy 5 (some .int), Cond.fieldLink RX6 25 "FosterSonsModel" "father" "[I", Cond.methodLink RX6 140 yX6_stakeBy]
def wsX6_areSo_r2 : List Cond := [Cond.instanceMethod yX6_stakeBy, Cond.selects RX6 yX6_stakeBy yX6_stakeBy, Cond.code yX6_stakeBy cX6_stakeBy 5 (some .int), Cond.fieldLink RX6 28 "FosterSonsModel" "worth" "[I", Cond.fieldLink RX6 31 "FosterSonsModel" "fond" "[I", Cond.fieldLink RX6 22 "FosterSonsModel" "kind" "[I"]
def wsX6_areSo : List Cond := .code yX6_areSo cX6_areSo 2 (some .boolean) :: ((wsX6_areSo_r1 ++ wsX6_areSo_r2) ++ wsX60)
def wsX6_worths_r1 : List Cond := [Cond.fieldLink RX6 28 "FosterSonsModel" "worth" "[I", Cond.methodLink RX6 131 yX6_isSon, Cond.instanceMethod yX6_isSon, Cond.selects RX6 yX6_isSon yX6_isSon, Cond.initialized RX6, Cond.code yX6_isSon cX6_isSon 2 (some .boolean), Cond.fieldLink RX6 78 "FosterSonsModel" "sons" "I", Cond.methodLink RX6 176 yX6_areSo, Cond.instanceMethod yX6_areSo, Cond.selects RX6 yX6_areSo yX6_areSo, Cond.code yX6_areSo cX6_areSo 2 (some .boolean), Cond.fieldLink RX6 114 "FosterSonsModel" "readings" "I", Cond.fieldLink RX6 49 "FosterSonsModel" "readCourtOf" "[I", Cond.fieldLink RX6 52 "FosterSonsModel" "readYear" "[I", Cond.fieldLink RX6 55 "FosterSonsModel" "readWas" "[Z", Cond.methodLink RX6 147 yX6_askNow, Cond.instanceMethod yX6_askNow, Cond.selects RX6 yX6_askNow yX6_askNow, Cond.code yX6_askNow cX6_askNow 2 none, Cond.fieldLink RX6 46 "FosterSonsModel" "asked" "[I", Cond.fieldLink RX6 37 "FosterSonsModel" "sentFrom" "[I", Cond.fieldLink RX6 75 "FosterSonsModel" "years" "I", Cond.methodLink RX6 150 yX6_isTempted, Cond.instanceMethod yX6_isTempted]
def wsX6_worths_r2 : List Cond := [Cond.selects RX6 yX6_isTempted yX6_isTempted, Cond.code yX6_isTempted cX6_isTempted 3 (some .boolean), Cond.fieldLink RX6 19 "FosterSonsModel" "gains" "[I", Cond.methodLink RX6 143 yX6_stakesBy, Cond.instanceMethod yX6_stakesBy, Cond.selects RX6 yX6_stakesBy yX6_stakesBy, Cond.code yX6_stakesBy cX6_stakesBy 5 (some .int), Cond.fieldLink RX6 25 "FosterSonsModel" "father" "[I", Cond.methodLink RX6 140 yX6_stakeBy, Cond.instanceMethod yX6_stakeBy, Cond.selects RX6 yX6_stakeBy yX6_stakeBy, Cond.code yX6_stakeBy cX6_stakeBy 5 (some .int), Cond.fieldLink RX6 31 "FosterSonsModel" "fond" "[I", Cond.fieldLink RX6 22 "FosterSonsModel" "kind" "[I"]
def wsX6_worths : List Cond := .code yX6_worths cX6_worths 5 (some .int) :: ((wsX6_worths_r1 ++ wsX6_worths_r2) ++ wsX60)
def wsX6_kinds_r1 : List Cond := [Cond.fieldLink RX6 22 "FosterSonsModel" "kind" "[I", Cond.methodLink RX6 131 yX6_isSon, Cond.instanceMethod yX6_isSon, Cond.selects RX6 yX6_isSon yX6_isSon, Cond.initialized RX6, Cond.code yX6_isSon cX6_isSon 2 (some .boolean), Cond.fieldLink RX6 78 "FosterSonsModel" "sons" "I", Cond.methodLink RX6 176 yX6_areSo, Cond.instanceMethod yX6_areSo, Cond.selects RX6 yX6_areSo yX6_areSo, Cond.code yX6_areSo cX6_areSo 2 (some .boolean), Cond.fieldLink RX6 114 "FosterSonsModel" "readings" "I", Cond.fieldLink RX6 49 "FosterSonsModel" "readCourtOf" "[I", Cond.fieldLink RX6 52 "FosterSonsModel" "readYear" "[I", Cond.fieldLink RX6 55 "FosterSonsModel" "readWas" "[Z", Cond.methodLink RX6 147 yX6_askNow, Cond.instanceMethod yX6_askNow, Cond.selects RX6 yX6_askNow yX6_askNow, Cond.code yX6_askNow cX6_askNow 2 none, Cond.fieldLink RX6 46 "FosterSonsModel" "asked" "[I", Cond.fieldLink RX6 37 "FosterSonsModel" "sentFrom" "[I", Cond.fieldLink RX6 75 "FosterSonsModel" "years" "I", Cond.methodLink RX6 150 yX6_isTempted, Cond.instanceMethod yX6_isTempted]
def wsX6_kinds_r2 : List Cond := [Cond.selects RX6 yX6_isTempted yX6_isTempted, Cond.code yX6_isTempted cX6_isTempted 3 (some .boolean), Cond.fieldLink RX6 19 "FosterSonsModel" "gains" "[I", Cond.methodLink RX6 143 yX6_stakesBy, Cond.instanceMethod yX6_stakesBy, Cond.selects RX6 yX6_stakesBy yX6_stakesBy, Cond.code yX6_stakesBy cX6_stakesBy 5 (some .int), Cond.fieldLink RX6 25 "FosterSonsModel" "father" "[I", Cond.methodLink RX6 140 yX6_stakeBy, Cond.instanceMethod yX6_stakeBy, Cond.selects RX6 yX6_stakeBy yX6_stakeBy, Cond.code yX6_stakeBy cX6_stakeBy 5 (some .int), Cond.fieldLink RX6 28 "FosterSonsModel" "worth" "[I", Cond.fieldLink RX6 31 "FosterSonsModel" "fond" "[I"]
def wsX6_kinds : List Cond := .code yX6_kinds cX6_kinds 5 (some .int) :: ((wsX6_kinds_r1 ++ wsX6_kinds_r2) ++ wsX60)
def wsX6_fondness_r1 : List Cond := [Cond.fieldLink RX6 31 "FosterSonsModel" "fond" "[I", Cond.methodLink RX6 131 yX6_isSon, Cond.instanceMethod yX6_isSon, Cond.selects RX6 yX6_isSon yX6_isSon, Cond.initialized RX6, Cond.code yX6_isSon cX6_isSon 2 (some .boolean), Cond.fieldLink RX6 78 "FosterSonsModel" "sons" "I", Cond.methodLink RX6 176 yX6_areSo, Cond.instanceMethod yX6_areSo, Cond.selects RX6 yX6_areSo yX6_areSo, Cond.code yX6_areSo cX6_areSo 2 (some .boolean), Cond.fieldLink RX6 114 "FosterSonsModel" "readings" "I", Cond.fieldLink RX6 49 "FosterSonsModel" "readCourtOf" "[I", Cond.fieldLink RX6 52 "FosterSonsModel" "readYear" "[I", Cond.fieldLink RX6 55 "FosterSonsModel" "readWas" "[Z", Cond.methodLink RX6 147 yX6_askNow, Cond.instanceMethod yX6_askNow, Cond.selects RX6 yX6_askNow yX6_askNow, Cond.code yX6_askNow cX6_askNow 2 none, Cond.fieldLink RX6 46 "FosterSonsModel" "asked" "[I", Cond.fieldLink RX6 37 "FosterSonsModel" "sentFrom" "[I", Cond.fieldLink RX6 75 "FosterSonsModel" "years" "I", Cond.methodLink RX6 150 yX6_isTempted, Cond.instanceMethod yX6_isTempted]
def wsX6_fondness_r2 : List Cond := [Cond.selects RX6 yX6_isTempted yX6_isTempted, Cond.code yX6_isTempted cX6_isTempted 3 (some .boolean), Cond.fieldLink RX6 19 "FosterSonsModel" "gains" "[I", Cond.methodLink RX6 143 yX6_stakesBy, Cond.instanceMethod yX6_stakesBy, Cond.selects RX6 yX6_stakesBy yX6_stakesBy, Cond.code yX6_stakesBy cX6_stakesBy 5 (some .int), Cond.fieldLink RX6 25 "FosterSonsModel" "father" "[I", Cond.methodLink RX6 140 yX6_stakeBy, Cond.instanceMethod yX6_stakeBy, Cond.selects RX6 yX6_stakeBy yX6_stakeBy, Cond.code yX6_stakeBy cX6_stakeBy 5 (some .int), Cond.fieldLink RX6 28 "FosterSonsModel" "worth" "[I", Cond.fieldLink RX6 22 "FosterSonsModel" "kind" "[I"]
def wsX6_fondness : List Cond := .code yX6_fondness cX6_fondness 5 (some .int) :: ((wsX6_fondness_r1 ++ wsX6_fondness_r2) ++ wsX60)
def wsX6_inLeastTerms : List Cond := .code yX6_inLeastTerms cX6_inLeastTerms 11 (some .long) :: ([])
def wsX6_sentSet : List Cond := .code yX6_sentSet cX6_sentSet 3 (some .int) :: ([.fieldLink RX6 78 "FosterSonsModel" "sons" "I", .fieldLink RX6 34 "FosterSonsModel" "sentTo" "[I"] ++ wsX60)
def wsX6_odds_r1 : List Cond := [Cond.fieldLink RX6 72 "FosterSonsModel" "courts" "I", Cond.constantLong RX6 66 (-9223372036854775808), Cond.fieldLink RX6 78 "FosterSonsModel" "sons" "I", Cond.fieldLink RX6 59 "FosterSonsModel" "kept" "[I", Cond.fieldLink RX6 22 "FosterSonsModel" "kind" "[I", Cond.methodLink RX6 137 yX6_isYear, Cond.instanceMethod yX6_isYear, Cond.selects RX6 yX6_isYear yX6_isYear, Cond.initialized RX6, Cond.code yX6_isYear cX6_isYear 2 (some .boolean), Cond.fieldLink RX6 75 "FosterSonsModel" "years" "I", Cond.methodLink RX6 68 yX6_within, Cond.static yX6_within, Cond.code yX6_within cX6_within 3 (some .boolean), Cond.methodLink RX6 147 yX6_askNow, Cond.instanceMethod yX6_askNow, Cond.selects RX6 yX6_askNow yX6_askNow, Cond.code yX6_askNow cX6_askNow 2 none, Cond.fieldLink RX6 46 "FosterSonsModel" "asked" "[I", Cond.fieldLink RX6 37 "FosterSonsModel" "sentFrom" "[I", Cond.methodLink RX6 180 yX6_sentSet, Cond.instanceMethod yX6_sentSet, Cond.selects RX6 yX6_sentSet yX6_sentSet, Cond.code yX6_sentSet cX6_sentSet 3 (some .int)]
def wsX6_odds_r2 : List Cond := [Cond.fieldLink RX6 34 "FosterSonsModel" "sentTo" "[I", Cond.methodLink RX6 156 yX6_breakYear, Cond.instanceMethod yX6_breakYear, Cond.selects RX6 yX6_breakYear yX6_breakYear, Cond.code yX6_breakYear cX6_breakYear 2 (some .int), Cond.methodLink RX6 153 yX6_temptedSet, Cond.instanceMethod yX6_temptedSet, Cond.selects RX6 yX6_temptedSet yX6_temptedSet, Cond.code yX6_temptedSet cX6_temptedSet 4 (some .int), Cond.methodLink RX6 150 yX6_isTempted, Cond.instanceMethod yX6_isTempted, Cond.selects RX6 yX6_isTempted yX6_isTempted, Cond.code yX6_isTempted cX6_isTempted 3 (some .boolean), Cond.fieldLink RX6 19 "FosterSonsModel" "gains" "[I", Cond.methodLink RX6 143 yX6_stakesBy, Cond.instanceMethod yX6_stakesBy, Cond.selects RX6 yX6_stakesBy yX6_stakesBy, Cond.code yX6_stakesBy cX6_stakesBy 5 (some .int), Cond.fieldLink RX6 25 "FosterSonsModel" "father" "[I", Cond.methodLink RX6 140 yX6_stakeBy, Cond.instanceMethod yX6_stakeBy, Cond.selects RX6 yX6_stakeBy yX6_stakeBy, Cond.code yX6_stakeBy cX6_stakeBy 5 (some .int), Cond.fieldLink RX6 28 "FosterSonsModel" "worth" "[I"]
def wsX6_odds_r3 : List Cond := [Cond.fieldLink RX6 31 "FosterSonsModel" "fond" "[I", Cond.methodLink RX6 166 yX6_size, Cond.static yX6_size, Cond.code yX6_size cX6_size 3 (some .int), Cond.methodLink RX6 183 yX6_inLeastTerms, Cond.static yX6_inLeastTerms, Cond.code yX6_inLeastTerms cX6_inLeastTerms 11 (some .long)]
def wsX6_odds : List Cond := .code yX6_odds cX6_odds 7 (some .long) :: ((wsX6_odds_r1 ++ (wsX6_odds_r2 ++ wsX6_odds_r3)) ++ wsX60)
def wsX6_sheet : List Cond := .code yX6_sheet cX6_sheet 5 (some .int) :: ([.fieldLink RX6 62 "FosterSonsModel" "fault" "I", .fieldLink RX6 9 "FosterSonsModel" "sorts" "[I", .fieldLink RX6 13 "FosterSonsModel" "sheetLong" "[I", .fieldLink RX6 16 "FosterSonsModel" "cells" "[I", .methodLink RX6 84 yX6_isSheet, .static yX6_isSheet, .initialized RX6, .code yX6_isSheet cX6_isSheet 1 (some .boolean), .methodLink RX6 68 yX6_within, .static yX6_within, .code yX6_within cX6_within 3 (some .boolean), .methodLink RX6 88 yX6_isSort, .static yX6_isSort, .code yX6_isSort cX6_isSort 1 (some .boolean), .methodLink RX6 95 yX6_fails, .instanceMethod yX6_fails, .selects RX6 yX6_fails yX6_fails, .code yX6_fails cX6_fails 2 (some .int)] ++ wsX60)
def wsX6_lose : List Cond := .code yX6_lose cX6_lose 3 (some .int) :: ([.fieldLink RX6 9 "FosterSonsModel" "sorts" "[I", .methodLink RX6 84 yX6_isSheet, .static yX6_isSheet, .initialized RX6, .code yX6_isSheet cX6_isSheet 1 (some .boolean), .methodLink RX6 68 yX6_within, .static yX6_within, .code yX6_within cX6_within 3 (some .boolean)] ++ wsX60)
def wsX6_put : List Cond := .code yX6_put cX6_put 4 (some .int) :: ([.fieldLink RX6 62 "FosterSonsModel" "fault" "I", .fieldLink RX6 9 "FosterSonsModel" "sorts" "[I", .fieldLink RX6 13 "FosterSonsModel" "sheetLong" "[I", .fieldLink RX6 16 "FosterSonsModel" "cells" "[I", .methodLink RX6 84 yX6_isSheet, .static yX6_isSheet, .initialized RX6, .code yX6_isSheet cX6_isSheet 1 (some .boolean), .methodLink RX6 68 yX6_within, .static yX6_within, .code yX6_within cX6_within 3 (some .boolean), .methodLink RX6 95 yX6_fails, .instanceMethod yX6_fails, .selects RX6 yX6_fails yX6_fails, .code yX6_fails cX6_fails 2 (some .int)] ++ wsX60)
def wsX6_cell : List Cond := .code yX6_cell cX6_cell 4 (some .long) :: ([.fieldLink RX6 62 "FosterSonsModel" "fault" "I", .constantLong RX6 66 (-9223372036854775808), .fieldLink RX6 9 "FosterSonsModel" "sorts" "[I", .fieldLink RX6 13 "FosterSonsModel" "sheetLong" "[I", .fieldLink RX6 16 "FosterSonsModel" "cells" "[I", .methodLink RX6 84 yX6_isSheet, .static yX6_isSheet, .initialized RX6, .code yX6_isSheet cX6_isSheet 1 (some .boolean), .methodLink RX6 68 yX6_within, .static yX6_within, .code yX6_within cX6_within 3 (some .boolean), .methodLink RX6 88 yX6_isSort, .static yX6_isSort, .code yX6_isSort cX6_isSort 1 (some .boolean), .methodLink RX6 187 yX6_lost, .instanceMethod yX6_lost, .selects RX6 yX6_lost yX6_lost, .code yX6_lost cX6_lost 2 (some .long)] ++ wsX60)
def wsX6_copy : List Cond := .code yX6_copy cX6_copy 10 (some .int) :: ([.fieldLink RX6 62 "FosterSonsModel" "fault" "I", .fieldLink RX6 9 "FosterSonsModel" "sorts" "[I", .fieldLink RX6 13 "FosterSonsModel" "sheetLong" "[I", .fieldLink RX6 16 "FosterSonsModel" "cells" "[I", .methodLink RX6 84 yX6_isSheet, .static yX6_isSheet, .initialized RX6, .code yX6_isSheet cX6_isSheet 1 (some .boolean), .methodLink RX6 68 yX6_within, .static yX6_within, .code yX6_within cX6_within 3 (some .boolean), .methodLink RX6 95 yX6_fails, .instanceMethod yX6_fails, .selects RX6 yX6_fails yX6_fails, .code yX6_fails cX6_fails 2 (some .int)] ++ wsX60)
def wsX6_begins : List Cond := .code yX6_begins cX6_begins 2 none :: ([.fieldLink RX6 191 "FosterSonsModel" "trace" "I"] ++ wsX60)
def wsX6_tell : List Cond := .code yX6_tell cX6_tell 3 (some .int) :: ([.fieldLink RX6 28 "FosterSonsModel" "worth" "[I", .fieldLink RX6 22 "FosterSonsModel" "kind" "[I", .methodLink RX6 131 yX6_isSon, .instanceMethod yX6_isSon, .selects RX6 yX6_isSon yX6_isSon, .initialized RX6, .code yX6_isSon cX6_isSon 2 (some .boolean), .fieldLink RX6 78 "FosterSonsModel" "sons" "I", .methodLink RX6 194 yX6_begins, .instanceMethod yX6_begins, .selects RX6 yX6_begins yX6_begins, .code yX6_begins cX6_begins 2 none, .fieldLink RX6 191 "FosterSonsModel" "trace" "I"] ++ wsX60)
def wsX6_teach : List Cond := .code yX6_teach cX6_teach 2 (some .int) :: ([.fieldLink RX6 22 "FosterSonsModel" "kind" "[I", .methodLink RX6 131 yX6_isSon, .instanceMethod yX6_isSon, .selects RX6 yX6_isSon yX6_isSon, .initialized RX6, .code yX6_isSon cX6_isSon 2 (some .boolean), .fieldLink RX6 78 "FosterSonsModel" "sons" "I", .methodLink RX6 194 yX6_begins, .instanceMethod yX6_begins, .selects RX6 yX6_begins yX6_begins, .code yX6_begins cX6_begins 2 none, .fieldLink RX6 191 "FosterSonsModel" "trace" "I"] ++ wsX60)
def wsX6_as : List Cond := .code yX6_as cX6_as 3 (some .int) :: ([.fieldLink RX6 62 "FosterSonsModel" "fault" "I", .fieldLink RX6 22 "FosterSonsModel" "kind" "[I", .methodLink RX6 131 yX6_isSon, .instanceMethod yX6_isSon, .selects RX6 yX6_isSon yX6_isSon, .initialized RX6, .code yX6_isSon cX6_isSon 2 (some .boolean), .fieldLink RX6 78 "FosterSonsModel" "sons" "I", .methodLink RX6 68 yX6_within, .static yX6_within, .code yX6_within cX6_within 3 (some .boolean), .methodLink RX6 95 yX6_fails, .instanceMethod yX6_fails, .selects RX6 yX6_fails yX6_fails, .code yX6_fails cX6_fails 2 (some .int)] ++ wsX60)
def wsX6_trace : List Cond := .code yX6_trace cX6_trace 1 (some .int) :: ([.fieldLink RX6 191 "FosterSonsModel" "trace" "I"] ++ wsX60)
def wsX6_fault : List Cond := .code yX6_fault cX6_fault 1 (some .int) :: ([.fieldLink RX6 62 "FosterSonsModel" "fault" "I"] ++ wsX60)
def wsX6_many : List Cond := .code yX6_many cX6_many 2 (some .int) :: ([.fieldLink RX6 78 "FosterSonsModel" "sons" "I", .fieldLink RX6 72 "FosterSonsModel" "courts" "I", .fieldLink RX6 75 "FosterSonsModel" "years" "I", .fieldLink RX6 114 "FosterSonsModel" "readings" "I", .methodLink RX6 180 yX6_sentSet, .instanceMethod yX6_sentSet, .selects RX6 yX6_sentSet yX6_sentSet, .initialized RX6, .code yX6_sentSet cX6_sentSet 3 (some .int), .fieldLink RX6 34 "FosterSonsModel" "sentTo" "[I", .methodLink RX6 166 yX6_size, .static yX6_size, .code yX6_size cX6_size 3 (some .int)] ++ wsX60)
def wsJ9_max_7cf53 : List Cond := .code yJ9_max_7cf53 cJ9_max_7cf53 2 (some .int) :: ([])
def wsJ9_min_7cf53 : List Cond := .code yJ9_min_7cf53 cJ9_min_7cf53 2 (some .int) :: ([])
def wsL_law_r1 : List Cond := [Cond.classLink RL 7 RX5, Cond.instantiable RX5 9, Cond.initialized RX5, Cond.classLink RL 10 RX6, Cond.instantiable RX6 27, Cond.initialized RX6, Cond.methodLink RL 9 yX5_init, Cond.instanceMethod yX5_init, Cond.code yX5_init cX5_init 2 none, Cond.methodLink RX5 3 objectInit, Cond.instanceMethod objectInit, Cond.code objectInit ⟨#[0xb1]⟩ 1 none, Cond.classLink RX5 11 RX2, Cond.fieldLink RX5 13 "FosterSons" "sheets" "[LFosterSons$Sheet;", Cond.classLink RX5 17 RX3, Cond.instantiable RX3 3, Cond.initialized RX3, Cond.fieldLink RX5 20 "FosterSons" "text" "LFosterSons$Text;", Cond.classLink RX5 24 RX4, Cond.instantiable RX4 8, Cond.initialized RX4, Cond.fieldLink RX5 27 "FosterSons" "pact" "LFosterSons$Treaty;", Cond.fieldLink RX5 31 "FosterSons" "draft" "LFosterSons$Treaty;", Cond.classLink RX5 34 RX1]
def wsL_law_r2 : List Cond := [Cond.instantiable RX1 2, Cond.initialized RX1, Cond.fieldLink RX5 37 "FosterSons" "sent" "LFosterSons$Sending;", Cond.fieldLink RX5 41 "FosterSons" "trial" "LFosterSons$Sending;", Cond.classLink RX5 44 RX0, Cond.instantiable RX0 4, Cond.initialized RX0, Cond.fieldLink RX5 47 "FosterSons" "readings" "LFosterSons$Readings;", Cond.fieldLink RX5 51 "FosterSons" "traced" "I", Cond.fieldLink RX5 55 "FosterSons" "latestFault" "I", Cond.instantiable RX2 4, Cond.initialized RX2, Cond.instanceMethod yX3_init, Cond.code yX3_init cX3_init 1 none, Cond.methodLink RX3 3 objectInit, Cond.arrayClass .int, Cond.fieldLink RX3 9 "FosterSons$Text" "codes" "[I", Cond.fieldLink RX3 15 "FosterSons$Text" "length" "I", Cond.fieldLink RX3 19 "FosterSons$Text" "place" "I", Cond.instanceMethod yX4_init, Cond.code yX4_init cX4_init 1 none, Cond.methodLink RX4 3 objectInit, Cond.fieldLink RX4 9 "FosterSons$Treaty" "courts" "I", Cond.fieldLink RX4 15 "FosterSons$Treaty" "years" "I"]
def wsL_law_r3 : List Cond := [Cond.fieldLink RX4 18 "FosterSons$Treaty" "sons" "I", Cond.classLink RX4 21 "[[I", Cond.fieldLink RX4 23 "FosterSons$Treaty" "gains" "[[I", Cond.fieldLink RX4 26 "FosterSons$Treaty" "kind" "[I", Cond.fieldLink RX4 30 "FosterSons$Treaty" "father" "[I", Cond.fieldLink RX4 33 "FosterSons$Treaty" "worth" "[I", Cond.fieldLink RX4 36 "FosterSons$Treaty" "fond" "[I", Cond.methodLink RX5 36 yX1_init, Cond.instanceMethod yX1_init, Cond.code yX1_init cX1_init 1 none, Cond.methodLink RX1 3 objectInit, Cond.fieldLink RX1 9 "FosterSons$Sending" "to" "[I", Cond.fieldLink RX1 15 "FosterSons$Sending" "from" "[I", Cond.methodLink RX1 18 yX1_fromTheStart, Cond.instanceMethod yX1_fromTheStart, Cond.selects RX1 yX1_fromTheStart yX1_fromTheStart, Cond.code yX1_fromTheStart cX1_fromTheStart 3 none, Cond.instanceMethod yX0_init, Cond.code yX0_init cX0_init 1 none, Cond.methodLink RX0 3 objectInit, Cond.fieldLink RX0 9 "FosterSons$Readings" "court" "[I", Cond.fieldLink RX0 15 "FosterSons$Readings" "year" "[I", Cond.arrayClass .boolean, Cond.fieldLink RX0 18 "FosterSons$Readings" "was" "[Z"]
def wsL_law_r4 : List Cond := [Cond.fieldLink RX0 22 "FosterSons$Readings" "count" "I", Cond.instanceMethod yX2_init, Cond.code yX2_init cX2_init 1 none, Cond.methodLink RX2 3 objectInit, Cond.fieldLink RX2 9 "FosterSons$Sheet" "cells" "[I", Cond.fieldLink RX2 15 "FosterSons$Sheet" "hasRow" "Z", Cond.fieldLink RX2 19 "FosterSons$Sheet" "lane" "I", Cond.fieldLink RX2 23 "FosterSons$Sheet" "length" "I", Cond.methodLink RL 12 yX6_init, Cond.instanceMethod yX6_init, Cond.code yX6_init cX6_init 1 none, Cond.methodLink RX6 1 objectInit, Cond.fieldLink RX6 9 "FosterSonsModel" "sorts" "[I", Cond.fieldLink RX6 13 "FosterSonsModel" "sheetLong" "[I", Cond.fieldLink RX6 16 "FosterSonsModel" "cells" "[I", Cond.fieldLink RX6 19 "FosterSonsModel" "gains" "[I", Cond.fieldLink RX6 22 "FosterSonsModel" "kind" "[I", Cond.fieldLink RX6 25 "FosterSonsModel" "father" "[I", Cond.fieldLink RX6 28 "FosterSonsModel" "worth" "[I", Cond.fieldLink RX6 31 "FosterSonsModel" "fond" "[I", Cond.fieldLink RX6 34 "FosterSonsModel" "sentTo" "[I", Cond.fieldLink RX6 37 "FosterSonsModel" "sentFrom" "[I", Cond.fieldLink RX6 40 "FosterSonsModel" "readGains" "[I", Cond.fieldLink RX6 43 "FosterSonsModel" "read" "[I"]
def wsL_law_r5 : List Cond := [Cond.fieldLink RX6 46 "FosterSonsModel" "asked" "[I", Cond.fieldLink RX6 49 "FosterSonsModel" "readCourtOf" "[I", Cond.fieldLink RX6 52 "FosterSonsModel" "readYear" "[I", Cond.fieldLink RX6 55 "FosterSonsModel" "readWas" "[Z", Cond.fieldLink RX6 59 "FosterSonsModel" "kept" "[I", Cond.methodLink RL 13 yX5_treaty, Cond.instanceMethod yX5_treaty, Cond.selects RX5 yX5_treaty yX5_treaty, Cond.code yX5_treaty cX5_treaty 6 (some .int), Cond.fieldLink RX5 82 "FosterSons$Text" "place" "I", Cond.fieldLink RX5 88 "FosterSons$Treaty" "sons" "I", Cond.methodLink RX5 59 yX5_isSheet, Cond.static yX5_isSheet, Cond.code yX5_isSheet cX5_isSheet 1 (some .boolean), Cond.methodLink RX5 63 yX5_isLane, Cond.static yX5_isLane, Cond.code yX5_isLane cX5_isLane 1 (some .boolean), Cond.methodLink RX5 66 yX5_rowFault, Cond.static yX5_rowFault, Cond.code yX5_rowFault cX5_rowFault 5 (some .int), Cond.methodLink RX5 236 yX5_laneFault, Cond.static yX5_laneFault, Cond.code yX5_laneFault cX5_laneFault 2 (some .int), Cond.fieldLink RX5 226 "FosterSons$Sheet" "hasRow" "Z"]
def wsL_law_r6 : List Cond := [Cond.fieldLink RX5 240 "FosterSons$Sheet" "lane" "I", Cond.methodLink RX5 243 yX2_hasCells, Cond.instanceMethod yX2_hasCells, Cond.selects RX2 yX2_hasCells yX2_hasCells, Cond.code yX2_hasCells cX2_hasCells 3 (some .boolean), Cond.methodLink RX5 70 yX5_faulted, Cond.instanceMethod yX5_faulted, Cond.selects RX5 yX5_faulted yX5_faulted, Cond.code yX5_faulted cX5_faulted 2 (some .int), Cond.methodLink RX5 74 yX3_open, Cond.instanceMethod yX3_open, Cond.selects RX3 yX3_open yX3_open, Cond.code yX3_open cX3_open 5 none, Cond.methodLink RX3 22 Lib.Math.min.name, Cond.static Lib.Math.min.name, Cond.initialized "java/lang/Math", Cond.code Lib.Math.min.name Lib.Math.min.code 2 (some .int), Cond.methodLink RX3 28 Lib.Math.max.name, Cond.static Lib.Math.max.name, Cond.code Lib.Math.max.name Lib.Math.max.code 2 (some .int), Cond.methodLink RX3 31 yX2_at, Cond.instanceMethod yX2_at, Cond.selects RX2 yX2_at yX2_at, Cond.code yX2_at cX2_at 2 (some .int)]
def wsL_law_r7 : List Cond := [Cond.methodLink RX2 35 yX2_hasCell, Cond.instanceMethod yX2_hasCell, Cond.selects RX2 yX2_hasCell yX2_hasCell, Cond.code yX2_hasCell cX2_hasCell 2 (some .boolean), Cond.methodLink RX5 78 yX4_readsAll, Cond.instanceMethod yX4_readsAll, Cond.selects RX4 yX4_readsAll yX4_readsAll, Cond.code yX4_readsAll cX4_readsAll 2 (some .boolean), Cond.methodLink RX4 39 yX4_readsHead, Cond.instanceMethod yX4_readsHead, Cond.selects RX4 yX4_readsHead yX4_readsHead, Cond.code yX4_readsHead cX4_readsHead 4 (some .boolean), Cond.methodLink RX4 49 yX3_takes, Cond.instanceMethod yX3_takes, Cond.selects RX3 yX3_takes yX3_takes, Cond.code yX3_takes cX3_takes 2 (some .boolean), Cond.methodLink RX3 37 yX3_takesDigit, Cond.instanceMethod yX3_takesDigit, Cond.selects RX3 yX3_takesDigit yX3_takesDigit, Cond.code yX3_takesDigit cX3_takesDigit 4 (some .int), Cond.methodLink RX4 55 yX3_takesDigit, Cond.methodLink RX4 43 yX4_readsGains, Cond.instanceMethod yX4_readsGains, Cond.selects RX4 yX4_readsGains yX4_readsGains]
def wsL_law_r8 : List Cond := [Cond.code yX4_readsGains cX4_readsGains 4 (some .boolean), Cond.methodLink RX4 46 yX4_readsSons, Cond.instanceMethod yX4_readsSons, Cond.selects RX4 yX4_readsSons yX4_readsSons, Cond.code yX4_readsSons cX4_readsSons 3 (some .boolean), Cond.methodLink RX4 59 yX4_readsSon, Cond.instanceMethod yX4_readsSon, Cond.selects RX4 yX4_readsSon yX4_readsSon, Cond.code yX4_readsSon cX4_readsSon 3 (some .boolean), Cond.methodLink RX4 67 yX3_takesKind, Cond.instanceMethod yX3_takesKind, Cond.selects RX3 yX3_takesKind yX3_takesKind, Cond.code yX3_takesKind cX3_takesKind 1 (some .int), Cond.methodLink RX3 40 yX3_takes, Cond.methodLink RX4 63 yX3_isAtEnd, Cond.instanceMethod yX3_isAtEnd, Cond.selects RX3 yX3_isAtEnd yX3_isAtEnd, Cond.code yX3_isAtEnd cX3_isAtEnd 1 (some .boolean), Cond.methodLink RX5 85 yX5_beginAnew, Cond.instanceMethod yX5_beginAnew, Cond.selects RX5 yX5_beginAnew yX5_beginAnew, Cond.code yX5_beginAnew cX5_beginAnew 2 none, Cond.fieldLink RX5 94 "FosterSons$Readings" "count" "I", Cond.methodLink RX5 91 yX1_nobody]
def wsL_law_r9 : List Cond := [Cond.instanceMethod yX1_nobody, Cond.selects RX1 yX1_nobody yX1_nobody, Cond.code yX1_nobody cX1_nobody 1 none, Cond.methodLink RL 17 yX6_treaty, Cond.instanceMethod yX6_treaty, Cond.selects RX6 yX6_treaty yX6_treaty, Cond.code yX6_treaty cX6_treaty 7 (some .int), Cond.fieldLink RX6 62 "FosterSonsModel" "fault" "I", Cond.fieldLink RX6 81 "FosterSonsModel" "at" "I", Cond.fieldLink RX6 78 "FosterSonsModel" "sons" "I", Cond.methodLink RX6 84 yX6_isSheet, Cond.static yX6_isSheet, Cond.code yX6_isSheet cX6_isSheet 1 (some .boolean), Cond.methodLink RX6 68 yX6_within, Cond.static yX6_within, Cond.code yX6_within cX6_within 3 (some .boolean), Cond.methodLink RX6 88 yX6_isSort, Cond.static yX6_isSort, Cond.code yX6_isSort cX6_isSort 1 (some .boolean), Cond.methodLink RX6 91 yX6_against, Cond.instanceMethod yX6_against, Cond.selects RX6 yX6_against yX6_against, Cond.code yX6_against cX6_against 5 (some .int), Cond.methodLink RX6 95 yX6_fails]
def wsL_law_r10 : List Cond := [Cond.instanceMethod yX6_fails, Cond.selects RX6 yX6_fails yX6_fails, Cond.code yX6_fails cX6_fails 2 (some .int), Cond.methodLink RX6 99 yX6_readTreaty, Cond.instanceMethod yX6_readTreaty, Cond.selects RX6 yX6_readTreaty yX6_readTreaty, Cond.code yX6_readTreaty cX6_readTreaty 3 (some .boolean), Cond.fieldLink RX6 111 "FosterSonsModel" "readMany" "I", Cond.fieldLink RX6 105 "FosterSonsModel" "readCourts" "I", Cond.fieldLink RX6 108 "FosterSonsModel" "readYears" "I", Cond.methodLink RX6 117 yX6_isSign, Cond.instanceMethod yX6_isSign, Cond.selects RX6 yX6_isSign yX6_isSign, Cond.code yX6_isSign cX6_isSign 3 (some .boolean), Cond.methodLink RX6 121 yX6_digit, Cond.instanceMethod yX6_digit, Cond.selects RX6 yX6_digit yX6_digit, Cond.code yX6_digit cX6_digit 4 (some .int), Cond.methodLink RX6 125 yX6_readCourt, Cond.instanceMethod yX6_readCourt, Cond.selects RX6 yX6_readCourt yX6_readCourt, Cond.code yX6_readCourt cX6_readCourt 4 (some .boolean), Cond.methodLink RX6 128 yX6_readSon, Cond.instanceMethod yX6_readSon]
def wsL_law_r11 : List Cond := [Cond.selects RX6 yX6_readSon yX6_readSon, Cond.code yX6_readSon cX6_readSon 5 (some .boolean), Cond.methodLink RX6 102 yX6_takeTreaty, Cond.instanceMethod yX6_takeTreaty, Cond.selects RX6 yX6_takeTreaty yX6_takeTreaty, Cond.code yX6_takeTreaty cX6_takeTreaty 2 none, Cond.fieldLink RX6 72 "FosterSonsModel" "courts" "I", Cond.fieldLink RX6 75 "FosterSonsModel" "years" "I", Cond.fieldLink RX6 114 "FosterSonsModel" "readings" "I", Cond.methodLink RL 18 yX5_ofSon, Cond.instanceMethod yX5_ofSon, Cond.selects RX5 yX5_ofSon yX5_ofSon, Cond.code yX5_ofSon cX5_ofSon 3 (some .int), Cond.fieldLink RX5 100 "FosterSons$Treaty" "kind" "[I", Cond.fieldLink RX5 104 "FosterSons$Treaty" "father" "[I", Cond.fieldLink RX5 107 "FosterSons$Treaty" "worth" "[I", Cond.fieldLink RX5 110 "FosterSons$Treaty" "fond" "[I", Cond.fieldLink RX5 116 "FosterSons$Sending" "to" "[I", Cond.fieldLink RX5 119 "FosterSons$Sending" "from" "[I", Cond.methodLink RX5 97 yX5_isSon, Cond.instanceMethod yX5_isSon, Cond.selects RX5 yX5_isSon yX5_isSon, Cond.code yX5_isSon cX5_isSon 2 (some .boolean), Cond.methodLink RX5 113 yX1_ever]
def wsL_law_r12 : List Cond := [Cond.instanceMethod yX1_ever, Cond.selects RX1 yX1_ever yX1_ever, Cond.code yX1_ever cX1_ever 2 (some .boolean), Cond.methodLink RL 22 yX6_ofSon, Cond.instanceMethod yX6_ofSon, Cond.selects RX6 yX6_ofSon yX6_ofSon, Cond.code yX6_ofSon cX6_ofSon 3 (some .int), Cond.methodLink RX6 131 yX6_isSon, Cond.instanceMethod yX6_isSon, Cond.selects RX6 yX6_isSon yX6_isSon, Cond.code yX6_isSon cX6_isSon 2 (some .boolean), Cond.methodLink RL 23 yX5_gain, Cond.instanceMethod yX5_gain, Cond.selects RX5 yX5_gain yX5_gain, Cond.code yX5_gain cX5_gain 3 (some .int), Cond.fieldLink RX5 128 "FosterSons$Treaty" "gains" "[[I", Cond.methodLink RX5 122 yX5_isCourt, Cond.instanceMethod yX5_isCourt, Cond.selects RX5 yX5_isCourt yX5_isCourt, Cond.code yX5_isCourt cX5_isCourt 2 (some .boolean), Cond.fieldLink RX5 148 "FosterSons$Treaty" "courts" "I", Cond.methodLink RX5 125 yX5_isYear, Cond.instanceMethod yX5_isYear, Cond.selects RX5 yX5_isYear yX5_isYear]
def wsL_law_r13 : List Cond := [Cond.code yX5_isYear cX5_isYear 2 (some .boolean), Cond.fieldLink RX5 179 "FosterSons$Treaty" "years" "I", Cond.methodLink RL 26 yX6_gain, Cond.instanceMethod yX6_gain, Cond.selects RX6 yX6_gain yX6_gain, Cond.code yX6_gain cX6_gain 3 (some .int), Cond.methodLink RX6 134 yX6_isCourt, Cond.instanceMethod yX6_isCourt, Cond.selects RX6 yX6_isCourt yX6_isCourt, Cond.code yX6_isCourt cX6_isCourt 2 (some .boolean), Cond.methodLink RX6 137 yX6_isYear, Cond.instanceMethod yX6_isYear, Cond.selects RX6 yX6_isYear yX6_isYear, Cond.code yX6_isYear cX6_isYear 2 (some .boolean), Cond.methodLink RL 27 yX5_tempt, Cond.instanceMethod yX5_tempt, Cond.selects RX5 yX5_tempt yX5_tempt, Cond.code yX5_tempt cX5_tempt 5 (some .int), Cond.methodLink RL 31 yX6_tempt, Cond.instanceMethod yX6_tempt, Cond.selects RX6 yX6_tempt yX6_tempt, Cond.code yX6_tempt cX6_tempt 5 (some .int), Cond.methodLink RL 32 yX5_send, Cond.instanceMethod yX5_send]
def wsL_law_r14 : List Cond := [Cond.selects RX5 yX5_send yX5_send, Cond.code yX5_send cX5_send 5 (some .int), Cond.methodLink RL 35 yX6_send, Cond.instanceMethod yX6_send, Cond.selects RX6 yX6_send yX6_send, Cond.code yX6_send cX6_send 5 (some .int), Cond.methodLink RL 36 yX5_home, Cond.instanceMethod yX5_home, Cond.selects RX5 yX5_home yX5_home, Cond.code yX5_home cX5_home 2 (some .int), Cond.methodLink RL 40 yX6_home, Cond.instanceMethod yX6_home, Cond.selects RX6 yX6_home yX6_home, Cond.code yX6_home cX6_home 3 (some .int), Cond.methodLink RL 41 yX5_stake, Cond.instanceMethod yX5_stake, Cond.selects RX5 yX5_stake yX5_stake, Cond.code yX5_stake cX5_stake 3 (some .int), Cond.methodLink RX5 132 yX1_isAway, Cond.instanceMethod yX1_isAway, Cond.selects RX1 yX1_isAway yX1_isAway, Cond.code yX1_isAway cX1_isAway 3 (some .boolean), Cond.methodLink RX5 136 yX4_costOf, Cond.instanceMethod yX4_costOf]
def wsL_law_r15 : List Cond := [Cond.selects RX4 yX4_costOf yX4_costOf, Cond.code yX4_costOf cX4_costOf 6 (some .int), Cond.methodLink RL 44 yX6_stake, Cond.instanceMethod yX6_stake, Cond.selects RX6 yX6_stake yX6_stake, Cond.code yX6_stake cX6_stake 3 (some .int), Cond.methodLink RX6 140 yX6_stakeBy, Cond.instanceMethod yX6_stakeBy, Cond.selects RX6 yX6_stakeBy yX6_stakeBy, Cond.code yX6_stakeBy cX6_stakeBy 5 (some .int), Cond.methodLink RL 45 yX5_stakes, Cond.instanceMethod yX5_stakes, Cond.selects RX5 yX5_stakes yX5_stakes, Cond.code yX5_stakes cX5_stakes 3 (some .int), Cond.methodLink RX5 140 yX4_costsOf, Cond.instanceMethod yX4_costsOf, Cond.selects RX4 yX4_costsOf yX4_costsOf, Cond.code yX4_costsOf cX4_costsOf 8 (some .int), Cond.fieldLink RX4 77 "FosterSons$Sending" "from" "[I", Cond.methodLink RX4 71 yX1_isAway, Cond.methodLink RX4 80 yX4_costOf, Cond.methodLink RL 48 yX6_stakes, Cond.instanceMethod yX6_stakes, Cond.selects RX6 yX6_stakes yX6_stakes]
def wsL_law_r16 : List Cond := [Cond.code yX6_stakes cX6_stakes 3 (some .int), Cond.methodLink RX6 147 yX6_askNow, Cond.instanceMethod yX6_askNow, Cond.selects RX6 yX6_askNow yX6_askNow, Cond.code yX6_askNow cX6_askNow 2 none, Cond.methodLink RX6 143 yX6_stakesBy, Cond.instanceMethod yX6_stakesBy, Cond.selects RX6 yX6_stakesBy yX6_stakesBy, Cond.code yX6_stakesBy cX6_stakesBy 5 (some .int), Cond.methodLink RL 49 yX5_tempted, Cond.instanceMethod yX5_tempted, Cond.selects RX5 yX5_tempted yX5_tempted, Cond.code yX5_tempted cX5_tempted 4 (some .int), Cond.methodLink RX5 144 yX5_hasTreaty, Cond.instanceMethod yX5_hasTreaty, Cond.selects RX5 yX5_hasTreaty yX5_hasTreaty, Cond.code yX5_hasTreaty cX5_hasTreaty 1 (some .boolean), Cond.methodLink RX5 151 yX4_wouldBreak, Cond.instanceMethod yX4_wouldBreak, Cond.selects RX4 yX4_wouldBreak yX4_wouldBreak, Cond.code yX4_wouldBreak cX4_wouldBreak 5 (some .boolean), Cond.methodLink RX4 84 yX4_costsOf, Cond.methodLink RL 52 yX6_tempted, Cond.instanceMethod yX6_tempted]
def wsL_law_r17 : List Cond := [Cond.selects RX6 yX6_tempted yX6_tempted, Cond.code yX6_tempted cX6_tempted 2 (some .int), Cond.methodLink RX6 153 yX6_temptedSet, Cond.instanceMethod yX6_temptedSet, Cond.selects RX6 yX6_temptedSet yX6_temptedSet, Cond.code yX6_temptedSet cX6_temptedSet 4 (some .int), Cond.methodLink RX6 150 yX6_isTempted, Cond.instanceMethod yX6_isTempted, Cond.selects RX6 yX6_isTempted yX6_isTempted, Cond.code yX6_isTempted cX6_isTempted 3 (some .boolean), Cond.methodLink RL 53 yX5_broken, Cond.instanceMethod yX5_broken, Cond.selects RX5 yX5_broken yX5_broken, Cond.code yX5_broken cX5_broken 2 (some .int), Cond.methodLink RX5 155 yX5_ofBreak, Cond.instanceMethod yX5_ofBreak, Cond.selects RX5 yX5_ofBreak yX5_ofBreak, Cond.code yX5_ofBreak cX5_ofBreak 4 (some .int), Cond.methodLink RX5 159 yX4_breakYear, Cond.instanceMethod yX4_breakYear, Cond.selects RX4 yX4_breakYear yX4_breakYear, Cond.code yX4_breakYear cX4_breakYear 4 (some .int), Cond.methodLink RX4 92 yX4_firstToBreak, Cond.instanceMethod yX4_firstToBreak]
def wsL_law_r18 : List Cond := [Cond.selects RX4 yX4_firstToBreak yX4_firstToBreak, Cond.code yX4_firstToBreak cX4_firstToBreak 5 (some .int), Cond.methodLink RX4 88 yX4_wouldBreak, Cond.methodLink RX5 162 yX4_firstToBreak, Cond.methodLink RL 56 yX6_broken, Cond.instanceMethod yX6_broken, Cond.selects RX6 yX6_broken yX6_broken, Cond.code yX6_broken cX6_broken 2 (some .int), Cond.methodLink RX6 156 yX6_breakYear, Cond.instanceMethod yX6_breakYear, Cond.selects RX6 yX6_breakYear yX6_breakYear, Cond.code yX6_breakYear cX6_breakYear 2 (some .int), Cond.methodLink RX6 160 yX6_breakCourt, Cond.instanceMethod yX6_breakCourt, Cond.selects RX6 yX6_breakCourt yX6_breakCourt, Cond.code yX6_breakCourt cX6_breakCourt 3 (some .int), Cond.methodLink RL 57 yX5_plan, Cond.instanceMethod yX5_plan, Cond.selects RX5 yX5_plan yX5_plan, Cond.code yX5_plan cX5_plan 7 (some .int), Cond.methodLink RX5 166 yX5_isOfPlan, Cond.static yX5_isOfPlan, Cond.code yX5_isOfPlan cX5_isOfPlan 1 (some .boolean), Cond.methodLink RX5 169 yX5_tryPlan]
def wsL_law_r19 : List Cond := [Cond.instanceMethod yX5_tryPlan, Cond.selects RX5 yX5_tryPlan yX5_tryPlan, Cond.code yX5_tryPlan cX5_tryPlan 5 (some .boolean), Cond.methodLink RX5 176 yX2_at, Cond.methodLink RX5 173 yX5_ofTrial, Cond.instanceMethod yX5_ofTrial, Cond.selects RX5 yX5_ofTrial yX5_ofTrial, Cond.code yX5_ofTrial cX5_ofTrial 3 (some .int), Cond.methodLink RX5 182 yX1_howManyBy, Cond.instanceMethod yX1_howManyBy, Cond.selects RX1 yX1_howManyBy yX1_howManyBy, Cond.code yX1_howManyBy cX1_howManyBy 4 (some .int), Cond.methodLink RX1 22 yX1_isAway, Cond.methodLink RL 61 yX6_plan, Cond.instanceMethod yX6_plan, Cond.selects RX6 yX6_plan yX6_plan, Cond.code yX6_plan cX6_plan 8 (some .int), Cond.methodLink RX6 163 yX6_tellPlan, Cond.instanceMethod yX6_tellPlan, Cond.selects RX6 yX6_tellPlan yX6_tellPlan, Cond.code yX6_tellPlan cX6_tellPlan 4 (some .int), Cond.methodLink RL 62 yX5_least, Cond.instanceMethod yX5_least, Cond.selects RX5 yX5_least yX5_least]
def wsL_law_r20 : List Cond := [Cond.code yX5_least cX5_least 4 (some .int), Cond.methodLink RX5 185 yJ6_bitCount_0f7a4, Cond.static yJ6_bitCount_0f7a4, Cond.initialized RJ6, Cond.code yJ6_bitCount_0f7a4 cJ6_bitCount_0f7a4 1 (some .int), Cond.constant RJ6 265 (1431655765), Cond.constant RJ6 266 (858993459), Cond.constant RJ6 267 (252645135), Cond.methodLink RX5 190 yX1_fromTheStart, Cond.methodLink RL 66 yX6_least, Cond.instanceMethod yX6_least, Cond.selects RX6 yX6_least yX6_least, Cond.code yX6_least cX6_least 3 (some .int), Cond.methodLink RX6 166 yX6_size, Cond.static yX6_size, Cond.code yX6_size cX6_size 3 (some .int), Cond.methodLink RX6 169 yX6_askSet, Cond.instanceMethod yX6_askSet, Cond.selects RX6 yX6_askSet yX6_askSet, Cond.code yX6_askSet cX6_askSet 3 none, Cond.methodLink RL 67 yX5_hole, Cond.instanceMethod yX5_hole, Cond.selects RX5 yX5_hole yX5_hole, Cond.code yX5_hole cX5_hole 2 (some .int)]
def wsL_law_r21 : List Cond := [Cond.methodLink RX5 194 yX5_everySon, Cond.instanceMethod yX5_everySon, Cond.selects RX5 yX5_everySon yX5_everySon, Cond.code yX5_everySon cX5_everySon 1 (some .int), Cond.methodLink RX5 198 yX4_breakYearOf, Cond.instanceMethod yX4_breakYearOf, Cond.selects RX4 yX4_breakYearOf yX4_breakYearOf, Cond.code yX4_breakYearOf cX4_breakYearOf 4 (some .int), Cond.methodLink RL 70 yX6_hole, Cond.instanceMethod yX6_hole, Cond.selects RX6 yX6_hole yX6_hole, Cond.code yX6_hole cX6_hole 2 (some .int), Cond.methodLink RX6 173 yX6_holeOf, Cond.instanceMethod yX6_holeOf, Cond.selects RX6 yX6_holeOf yX6_holeOf, Cond.code yX6_holeOf cX6_holeOf 3 (some .int), Cond.methodLink RL 71 yX5_when, Cond.instanceMethod yX5_when, Cond.selects RX5 yX5_when yX5_when, Cond.code yX5_when cX5_when 3 (some .int), Cond.methodLink RL 74 yX6_when, Cond.instanceMethod yX6_when, Cond.selects RX6 yX6_when yX6_when, Cond.code yX6_when cX6_when 3 (some .int)]
def wsL_law_r22 : List Cond := [Cond.methodLink RL 75 yX5_reading, Cond.instanceMethod yX5_reading, Cond.selects RX5 yX5_reading yX5_reading, Cond.code yX5_reading cX5_reading 4 (some .int), Cond.methodLink RX5 202 yX0_note, Cond.instanceMethod yX0_note, Cond.selects RX0 yX0_note yX0_note, Cond.code yX0_note cX0_note 5 (some .int), Cond.methodLink RL 79 yX6_reading, Cond.instanceMethod yX6_reading, Cond.selects RX6 yX6_reading yX6_reading, Cond.code yX6_reading cX6_reading 4 (some .int), Cond.methodLink RL 80 yX5_back, Cond.instanceMethod yX5_back, Cond.selects RX5 yX5_back yX5_back, Cond.code yX5_back cX5_back 2 (some .int), Cond.methodLink RL 83 yX6_back, Cond.instanceMethod yX6_back, Cond.selects RX6 yX6_back yX6_back, Cond.code yX6_back cX6_back 2 (some .int), Cond.methodLink RL 84 yX5_worths, Cond.instanceMethod yX5_worths, Cond.selects RX5 yX5_worths yX5_worths, Cond.code yX5_worths cX5_worths 2 (some .int)]
def wsL_law_r23 : List Cond := [Cond.methodLink RX5 206 yX5_fitting, Cond.instanceMethod yX5_fitting, Cond.selects RX5 yX5_fitting yX5_fitting, Cond.code yX5_fitting cX5_fitting 7 (some .int), Cond.methodLink RX5 210 yX0_allSo, Cond.instanceMethod yX0_allSo, Cond.selects RX0 yX0_allSo yX0_allSo, Cond.code yX0_allSo cX0_allSo 4 (some .boolean), Cond.methodLink RX0 26 yX4_wouldBreak, Cond.methodLink RL 87 yX6_worths, Cond.instanceMethod yX6_worths, Cond.selects RX6 yX6_worths yX6_worths, Cond.code yX6_worths cX6_worths 5 (some .int), Cond.methodLink RX6 176 yX6_areSo, Cond.instanceMethod yX6_areSo, Cond.selects RX6 yX6_areSo yX6_areSo, Cond.code yX6_areSo cX6_areSo 2 (some .boolean), Cond.methodLink RL 88 yX5_kinds, Cond.instanceMethod yX5_kinds, Cond.selects RX5 yX5_kinds yX5_kinds, Cond.code yX5_kinds cX5_kinds 2 (some .int), Cond.methodLink RL 91 yX6_kinds, Cond.instanceMethod yX6_kinds, Cond.selects RX6 yX6_kinds yX6_kinds]
def wsL_law_r24 : List Cond := [Cond.code yX6_kinds cX6_kinds 5 (some .int), Cond.methodLink RL 92 yX5_fondness, Cond.instanceMethod yX5_fondness, Cond.selects RX5 yX5_fondness yX5_fondness, Cond.code yX5_fondness cX5_fondness 2 (some .int), Cond.methodLink RL 95 yX6_fondness, Cond.instanceMethod yX6_fondness, Cond.selects RX6 yX6_fondness yX6_fondness, Cond.code yX6_fondness cX6_fondness 5 (some .int), Cond.methodLink RL 96 yX5_odds, Cond.instanceMethod yX5_odds, Cond.selects RX5 yX5_odds yX5_odds, Cond.code yX5_odds cX5_odds 7 (some .long), Cond.constantLong RX5 214 (-9223372036854775808), Cond.methodLink RX5 216 yX1_setOf, Cond.instanceMethod yX1_setOf, Cond.selects RX1 yX1_setOf yX1_setOf, Cond.code yX1_setOf cX1_setOf 3 (some .int), Cond.methodLink RX1 26 yX1_ever, Cond.methodLink RX5 219 yX5_breaksBy, Cond.instanceMethod yX5_breaksBy, Cond.selects RX5 yX5_breaksBy yX5_breaksBy, Cond.code yX5_breaksBy cX5_breaksBy 4 (some .boolean), Cond.methodLink RL 100 yX6_odds]
def wsL_law_r25 : List Cond := [Cond.instanceMethod yX6_odds, Cond.selects RX6 yX6_odds yX6_odds, Cond.code yX6_odds cX6_odds 7 (some .long), Cond.constantLong RX6 66 (-9223372036854775808), Cond.methodLink RX6 180 yX6_sentSet, Cond.instanceMethod yX6_sentSet, Cond.selects RX6 yX6_sentSet yX6_sentSet, Cond.code yX6_sentSet cX6_sentSet 3 (some .int), Cond.methodLink RX6 183 yX6_inLeastTerms, Cond.static yX6_inLeastTerms, Cond.code yX6_inLeastTerms cX6_inLeastTerms 11 (some .long), Cond.methodLink RL 101 yX5_sheet, Cond.instanceMethod yX5_sheet, Cond.selects RX5 yX5_sheet yX5_sheet, Cond.code yX5_sheet cX5_sheet 4 (some .int), Cond.methodLink RX5 222 yX2_begin, Cond.instanceMethod yX2_begin, Cond.selects RX2 yX2_begin yX2_begin, Cond.code yX2_begin cX2_begin 4 none, Cond.methodLink RX2 26 Lib.Math.min.name, Cond.methodLink RX2 32 Lib.Math.max.name, Cond.methodLink RL 104 yX6_sheet, Cond.instanceMethod yX6_sheet, Cond.selects RX6 yX6_sheet yX6_sheet]
def wsL_law_r26 : List Cond := [Cond.code yX6_sheet cX6_sheet 5 (some .int), Cond.methodLink RL 105 yX5_lose, Cond.instanceMethod yX5_lose, Cond.selects RX5 yX5_lose yX5_lose, Cond.code yX5_lose cX5_lose 3 (some .int), Cond.methodLink RL 108 yX6_lose, Cond.instanceMethod yX6_lose, Cond.selects RX6 yX6_lose yX6_lose, Cond.code yX6_lose cX6_lose 3 (some .int), Cond.methodLink RL 109 yX5_put, Cond.instanceMethod yX5_put, Cond.selects RX5 yX5_put yX5_put, Cond.code yX5_put cX5_put 4 (some .int), Cond.methodLink RX5 230 yX2_hasCell, Cond.methodLink RX5 233 yX2_write, Cond.instanceMethod yX2_write, Cond.selects RX2 yX2_write yX2_write, Cond.code yX2_write cX2_write 3 none, Cond.methodLink RX2 39 yX2_cut, Cond.instanceMethod yX2_cut, Cond.selects RX2 yX2_cut yX2_cut, Cond.code yX2_cut cX2_cut 2 (some .int), Cond.methodLink RL 112 yX6_put, Cond.instanceMethod yX6_put]
def wsL_law_r27 : List Cond := [Cond.selects RX6 yX6_put yX6_put, Cond.code yX6_put cX6_put 4 (some .int), Cond.methodLink RL 113 yX5_cell, Cond.instanceMethod yX5_cell, Cond.selects RX5 yX5_cell yX5_cell, Cond.code yX5_cell cX5_cell 5 (some .long), Cond.methodLink RL 117 yX6_cell, Cond.instanceMethod yX6_cell, Cond.selects RX6 yX6_cell yX6_cell, Cond.code yX6_cell cX6_cell 4 (some .long), Cond.methodLink RX6 187 yX6_lost, Cond.instanceMethod yX6_lost, Cond.selects RX6 yX6_lost yX6_lost, Cond.code yX6_lost cX6_lost 2 (some .long), Cond.methodLink RL 118 yX5_copy, Cond.instanceMethod yX5_copy, Cond.selects RX5 yX5_copy yX5_copy, Cond.code yX5_copy cX5_copy 8 (some .int), Cond.fieldLink RX5 246 "FosterSons$Sheet" "cells" "[I", Cond.methodLink RX5 249 arraycopyName, Cond.native arraycopyName, Cond.static arraycopyName, Cond.initialized "java/lang/System", Cond.methodLink RL 121 yX6_copy]
def wsL_law_r28 : List Cond := [Cond.instanceMethod yX6_copy, Cond.selects RX6 yX6_copy yX6_copy, Cond.code yX6_copy cX6_copy 10 (some .int), Cond.methodLink RL 122 yX5_tell, Cond.instanceMethod yX5_tell, Cond.selects RX5 yX5_tell yX5_tell, Cond.code yX5_tell cX5_tell 2 (some .int), Cond.methodLink RX5 255 yX5_pageTells, Cond.instanceMethod yX5_pageTells, Cond.selects RX5 yX5_pageTells yX5_pageTells, Cond.code yX5_pageTells cX5_pageTells 3 (some .int), Cond.methodLink RX5 264 yX5_leaveTrace, Cond.instanceMethod yX5_leaveTrace, Cond.selects RX5 yX5_leaveTrace yX5_leaveTrace, Cond.code yX5_leaveTrace cX5_leaveTrace 2 none, Cond.methodLink RX5 258 yX5_heirTells, Cond.instanceMethod yX5_heirTells, Cond.selects RX5 yX5_heirTells yX5_heirTells, Cond.code yX5_heirTells cX5_heirTells 2 (some .int), Cond.methodLink RX5 261 yX5_sonTells, Cond.instanceMethod yX5_sonTells, Cond.selects RX5 yX5_sonTells yX5_sonTells, Cond.code yX5_sonTells cX5_sonTells 2 (some .int), Cond.methodLink RL 125 yX6_tell]
def wsL_law_r29 : List Cond := [Cond.instanceMethod yX6_tell, Cond.selects RX6 yX6_tell yX6_tell, Cond.code yX6_tell cX6_tell 3 (some .int), Cond.methodLink RX6 194 yX6_begins, Cond.instanceMethod yX6_begins, Cond.selects RX6 yX6_begins yX6_begins, Cond.code yX6_begins cX6_begins 2 none, Cond.fieldLink RX6 191 "FosterSonsModel" "trace" "I", Cond.methodLink RL 126 yX5_teach, Cond.instanceMethod yX5_teach, Cond.selects RX5 yX5_teach yX5_teach, Cond.code yX5_teach cX5_teach 2 (some .int), Cond.methodLink RL 129 yX6_teach, Cond.instanceMethod yX6_teach, Cond.selects RX6 yX6_teach yX6_teach, Cond.code yX6_teach cX6_teach 2 (some .int), Cond.methodLink RL 130 yX5_as, Cond.instanceMethod yX5_as, Cond.selects RX5 yX5_as yX5_as, Cond.code yX5_as cX5_as 3 (some .int), Cond.methodLink RL 133 yX6_as, Cond.instanceMethod yX6_as, Cond.selects RX6 yX6_as yX6_as, Cond.code yX6_as cX6_as 3 (some .int)]
def wsL_law_r30 : List Cond := [Cond.methodLink RL 134 yX5_trace, Cond.instanceMethod yX5_trace, Cond.selects RX5 yX5_trace yX5_trace, Cond.code yX5_trace cX5_trace 1 (some .int), Cond.methodLink RL 137 yX6_trace, Cond.instanceMethod yX6_trace, Cond.selects RX6 yX6_trace yX6_trace, Cond.code yX6_trace cX6_trace 1 (some .int), Cond.methodLink RL 138 yX5_fault, Cond.instanceMethod yX5_fault, Cond.selects RX5 yX5_fault yX5_fault, Cond.code yX5_fault cX5_fault 1 (some .int), Cond.methodLink RL 141 yX6_fault, Cond.instanceMethod yX6_fault, Cond.selects RX6 yX6_fault yX6_fault, Cond.code yX6_fault cX6_fault 1 (some .int), Cond.methodLink RL 142 yX5_many, Cond.instanceMethod yX5_many, Cond.selects RX5 yX5_many yX5_many, Cond.code yX5_many cX5_many 2 (some .int), Cond.methodLink RL 145 yX6_many, Cond.instanceMethod yX6_many, Cond.selects RX6 yX6_many yX6_many, Cond.code yX6_many cX6_many 2 (some .int)]
def wsL_law : List Cond := (wsL_law_r1 ++ (wsL_law_r2 ++ (wsL_law_r3 ++ (wsL_law_r4 ++ (wsL_law_r5 ++ (wsL_law_r6 ++ (wsL_law_r7 ++ (wsL_law_r8 ++ (wsL_law_r9 ++ (wsL_law_r10 ++ (wsL_law_r11 ++ (wsL_law_r12 ++ (wsL_law_r13 ++ (wsL_law_r14 ++ (wsL_law_r15 ++ (wsL_law_r16 ++ (wsL_law_r17 ++ (wsL_law_r18 ++ (wsL_law_r19 ++ (wsL_law_r20 ++ (wsL_law_r21 ++ (wsL_law_r22 ++ (wsL_law_r23 ++ (wsL_law_r24 ++ (wsL_law_r25 ++ (wsL_law_r26 ++ (wsL_law_r27 ++ (wsL_law_r28 ++ (wsL_law_r29 ++ wsL_law_r30))))))))))))))))))))))))))))) ++ wsX50 ++ wsX60 ++ wsX30 ++ wsX40 ++ wsX10 ++ wsX00 ++ wsX20 ++ ([] : List Cond)
theorem inlX0 : ∀ w ∈ wsX00, w ∈ wsL_law := fun _ h => List.mem_append_left _ (List.mem_append_left _ (List.mem_append_right _ h))
theorem inlX1 : ∀ w ∈ wsX10, w ∈ wsL_law := fun _ h => List.mem_append_left _ (List.mem_append_left _ (List.mem_append_left _ (List.mem_append_right _ h)))
theorem inlX2 : ∀ w ∈ wsX20, w ∈ wsL_law := fun _ h => List.mem_append_left _ (List.mem_append_right _ h)
theorem inlX3 : ∀ w ∈ wsX30, w ∈ wsL_law := fun _ h => List.mem_append_left _ (List.mem_append_left _ (List.mem_append_left _ (List.mem_append_left _ (List.mem_append_left _ (List.mem_append_right _ h)))))
theorem inlX4 : ∀ w ∈ wsX40, w ∈ wsL_law := fun _ h => List.mem_append_left _ (List.mem_append_left _ (List.mem_append_left _ (List.mem_append_left _ (List.mem_append_right _ h))))
theorem inlX5 : ∀ w ∈ wsX50, w ∈ wsL_law := fun _ h => List.mem_append_left _ (List.mem_append_left _ (List.mem_append_left _ (List.mem_append_left _ (List.mem_append_left _ (List.mem_append_left _ (List.mem_append_left _ (List.mem_append_right _ h)))))))
theorem inlX6 : ∀ w ∈ wsX60, w ∈ wsL_law := fun _ h => List.mem_append_left _ (List.mem_append_left _ (List.mem_append_left _ (List.mem_append_left _ (List.mem_append_left _ (List.mem_append_left _ (List.mem_append_right _ h))))))
end
section
theorem dX0_init_0 : decode cX0_init 0 = .ok (.aload_n 0, 1) := by decide +kernel
theorem dX0_init_1 : decode cX0_init 1 = .ok (.invokespecial 3, 3) := by decide +kernel
theorem dX0_init_4 : decode cX0_init 4 = .ok (.aload_n 0, 1) := by decide +kernel
theorem dX0_init_5 : decode cX0_init 5 = .ok (.bipush 8, 2) := by decide +kernel
theorem dX0_init_7 : decode cX0_init 7 = .ok (.newarray .int, 2) := by decide +kernel
theorem dX0_init_9 : decode cX0_init 9 = .ok (.putfield 9, 3) := by decide +kernel
theorem dX0_init_12 : decode cX0_init 12 = .ok (.aload_n 0, 1) := by decide +kernel
theorem dX0_init_13 : decode cX0_init 13 = .ok (.bipush 8, 2) := by decide +kernel
theorem dX0_init_15 : decode cX0_init 15 = .ok (.newarray .int, 2) := by decide +kernel
theorem dX0_init_17 : decode cX0_init 17 = .ok (.putfield 15, 3) := by decide +kernel
theorem dX0_init_20 : decode cX0_init 20 = .ok (.aload_n 0, 1) := by decide +kernel
theorem dX0_init_21 : decode cX0_init 21 = .ok (.bipush 8, 2) := by decide +kernel
theorem dX0_init_23 : decode cX0_init 23 = .ok (.newarray .boolean, 2) := by decide +kernel
theorem dX0_init_25 : decode cX0_init 25 = .ok (.putfield 18, 3) := by decide +kernel
theorem dX0_init_28 : decode cX0_init 28 = .ok (.aload_n 0, 1) := by decide +kernel
theorem dX0_init_29 : decode cX0_init 29 = .ok (.iconst 0, 1) := by decide +kernel
theorem dX0_init_30 : decode cX0_init 30 = .ok (.putfield 22, 3) := by decide +kernel
theorem dX0_init_33 : decode cX0_init 33 = .ok (.return_, 1) := by decide +kernel
theorem dX0_note_0 : decode cX0_note 0 = .ok (.aload_n 0, 1) := by decide +kernel
theorem dX0_note_1 : decode cX0_note 1 = .ok (.getfield 22, 3) := by decide +kernel
theorem dX0_note_4 : decode cX0_note 4 = .ok (.bipush 8, 2) := by decide +kernel
theorem dX0_note_6 : decode cX0_note 6 = .ok (.if_icmp .lt 6, 3) := by decide +kernel
theorem dX0_note_9 : decode cX0_note 9 = .ok (.bipush (-4), 2) := by decide +kernel
theorem dX0_note_11 : decode cX0_note 11 = .ok (.ireturn, 1) := by decide +kernel
theorem dX0_note_12 : decode cX0_note 12 = .ok (.aload_n 0, 1) := by decide +kernel
theorem dX0_note_13 : decode cX0_note 13 = .ok (.getfield 22, 3) := by decide +kernel
theorem dX0_note_16 : decode cX0_note 16 = .ok (.istore 4, 2) := by decide +kernel
theorem dX0_note_18 : decode cX0_note 18 = .ok (.aload_n 0, 1) := by decide +kernel
theorem dX0_note_19 : decode cX0_note 19 = .ok (.getfield 9, 3) := by decide +kernel
theorem dX0_note_22 : decode cX0_note 22 = .ok (.iload 4, 2) := by decide +kernel
theorem dX0_note_24 : decode cX0_note 24 = .ok (.iload_n 1, 1) := by decide +kernel
theorem dX0_note_25 : decode cX0_note 25 = .ok (.iastore, 1) := by decide +kernel
theorem dX0_note_26 : decode cX0_note 26 = .ok (.aload_n 0, 1) := by decide +kernel
theorem dX0_note_27 : decode cX0_note 27 = .ok (.getfield 15, 3) := by decide +kernel
theorem dX0_note_30 : decode cX0_note 30 = .ok (.iload 4, 2) := by decide +kernel
theorem dX0_note_32 : decode cX0_note 32 = .ok (.iload_n 2, 1) := by decide +kernel
theorem dX0_note_33 : decode cX0_note 33 = .ok (.iastore, 1) := by decide +kernel
theorem dX0_note_34 : decode cX0_note 34 = .ok (.aload_n 0, 1) := by decide +kernel
theorem dX0_note_35 : decode cX0_note 35 = .ok (.getfield 18, 3) := by decide +kernel
theorem dX0_note_38 : decode cX0_note 38 = .ok (.iload 4, 2) := by decide +kernel
theorem dX0_note_40 : decode cX0_note 40 = .ok (.iload_n 3, 1) := by decide +kernel
theorem dX0_note_41 : decode cX0_note 41 = .ok (.bastore, 1) := by decide +kernel
theorem dX0_note_42 : decode cX0_note 42 = .ok (.aload_n 0, 1) := by decide +kernel
theorem dX0_note_43 : decode cX0_note 43 = .ok (.dup, 1) := by decide +kernel
theorem dX0_note_44 : decode cX0_note 44 = .ok (.getfield 22, 3) := by decide +kernel
theorem dX0_note_47 : decode cX0_note 47 = .ok (.iconst 1, 1) := by decide +kernel
theorem dX0_note_48 : decode cX0_note 48 = .ok (.iadd, 1) := by decide +kernel
theorem dX0_note_49 : decode cX0_note 49 = .ok (.putfield 22, 3) := by decide +kernel
theorem dX0_note_52 : decode cX0_note 52 = .ok (.iload 4, 2) := by decide +kernel
theorem dX0_note_54 : decode cX0_note 54 = .ok (.ireturn, 1) := by decide +kernel
set_option maxRecDepth 20000 in
theorem ggX0_allSo_X4_wouldBreak : GoodIn wsX0_allSo wsX4_wouldBreak := goodIn_r _ [9, 10, 11, 12, 13, 8, 14, 15, 16, 17, 18, 19, 20, 21, 22, 23, 24, 25, 26, 27, 28, 29, 30, 35, 36, 37, 38, 39, 40, 41, 42, 43, 44] (by decide +kernel) (by decide +kernel)
set_option maxRecDepth 20000 in
theorem gX0_allSo_X4_wouldBreak : GoodIn wsX0_allSo (wsV RX0 26 RX4 yX4_wouldBreak wsX4_wouldBreak) := goodIn_app (goodIn_of _ (by decide +kernel)) ggX0_allSo_X4_wouldBreak
theorem dX0_allSo_0 : decode cX0_allSo 0 = .ok (.iconst 0, 1) := by decide +kernel
theorem dX0_allSo_1 : decode cX0_allSo 1 = .ok (.istore_n 3, 1) := by decide +kernel
theorem dX0_allSo_2 : decode cX0_allSo 2 = .ok (.iload_n 3, 1) := by decide +kernel
theorem dX0_allSo_3 : decode cX0_allSo 3 = .ok (.aload_n 0, 1) := by decide +kernel
theorem dX0_allSo_4 : decode cX0_allSo 4 = .ok (.getfield 22, 3) := by decide +kernel
theorem dX0_allSo_7 : decode cX0_allSo 7 = .ok (.if_icmp .ge 38, 3) := by decide +kernel
theorem dX0_allSo_10 : decode cX0_allSo 10 = .ok (.aload_n 1, 1) := by decide +kernel
theorem dX0_allSo_11 : decode cX0_allSo 11 = .ok (.aload_n 0, 1) := by decide +kernel
theorem dX0_allSo_12 : decode cX0_allSo 12 = .ok (.getfield 9, 3) := by decide +kernel
theorem dX0_allSo_15 : decode cX0_allSo 15 = .ok (.iload_n 3, 1) := by decide +kernel
theorem dX0_allSo_16 : decode cX0_allSo 16 = .ok (.iaload, 1) := by decide +kernel
theorem dX0_allSo_17 : decode cX0_allSo 17 = .ok (.aload_n 0, 1) := by decide +kernel
theorem dX0_allSo_18 : decode cX0_allSo 18 = .ok (.getfield 15, 3) := by decide +kernel
theorem dX0_allSo_21 : decode cX0_allSo 21 = .ok (.iload_n 3, 1) := by decide +kernel
theorem dX0_allSo_22 : decode cX0_allSo 22 = .ok (.iaload, 1) := by decide +kernel
theorem dX0_allSo_23 : decode cX0_allSo 23 = .ok (.aload_n 2, 1) := by decide +kernel
theorem dX0_allSo_24 : decode cX0_allSo 24 = .ok (.iconst 0, 1) := by decide +kernel
theorem dX0_allSo_25 : decode cX0_allSo 25 = .ok (.invokevirtual 26, 3) := by decide +kernel
theorem dX0_allSo_28 : decode cX0_allSo 28 = .ok (.aload_n 0, 1) := by decide +kernel
theorem dX0_allSo_29 : decode cX0_allSo 29 = .ok (.getfield 18, 3) := by decide +kernel
theorem dX0_allSo_32 : decode cX0_allSo 32 = .ok (.iload_n 3, 1) := by decide +kernel
theorem dX0_allSo_33 : decode cX0_allSo 33 = .ok (.baload, 1) := by decide +kernel
theorem dX0_allSo_34 : decode cX0_allSo 34 = .ok (.if_icmp .eq 5, 3) := by decide +kernel
theorem dX0_allSo_37 : decode cX0_allSo 37 = .ok (.iconst 0, 1) := by decide +kernel
theorem dX0_allSo_38 : decode cX0_allSo 38 = .ok (.ireturn, 1) := by decide +kernel
theorem dX0_allSo_39 : decode cX0_allSo 39 = .ok (.iinc 3 1, 3) := by decide +kernel
theorem dX0_allSo_42 : decode cX0_allSo 42 = .ok (.goto (-40), 3) := by decide +kernel
theorem dX0_allSo_45 : decode cX0_allSo 45 = .ok (.iconst 1, 1) := by decide +kernel
theorem dX0_allSo_46 : decode cX0_allSo 46 = .ok (.ireturn, 1) := by decide +kernel
set_option maxRecDepth 20000 in
theorem ggX1_init_X1_fromTheStart : GoodIn wsX1_init wsX1_fromTheStart := goodIn_r _ [11, 6, 12, 13] (by decide +kernel) (by decide +kernel)
set_option maxRecDepth 20000 in
theorem gX1_init_X1_fromTheStart : GoodIn wsX1_init (wsV RX1 18 RX1 yX1_fromTheStart wsX1_fromTheStart) := goodIn_app (goodIn_of _ (by decide +kernel)) ggX1_init_X1_fromTheStart
theorem dX1_init_0 : decode cX1_init 0 = .ok (.aload_n 0, 1) := by decide +kernel
theorem dX1_init_1 : decode cX1_init 1 = .ok (.invokespecial 3, 3) := by decide +kernel
theorem dX1_init_4 : decode cX1_init 4 = .ok (.aload_n 0, 1) := by decide +kernel
theorem dX1_init_5 : decode cX1_init 5 = .ok (.iconst 5, 1) := by decide +kernel
theorem dX1_init_6 : decode cX1_init 6 = .ok (.newarray .int, 2) := by decide +kernel
theorem dX1_init_8 : decode cX1_init 8 = .ok (.putfield 9, 3) := by decide +kernel
theorem dX1_init_11 : decode cX1_init 11 = .ok (.aload_n 0, 1) := by decide +kernel
theorem dX1_init_12 : decode cX1_init 12 = .ok (.iconst 5, 1) := by decide +kernel
theorem dX1_init_13 : decode cX1_init 13 = .ok (.newarray .int, 2) := by decide +kernel
theorem dX1_init_15 : decode cX1_init 15 = .ok (.putfield 15, 3) := by decide +kernel
theorem dX1_init_18 : decode cX1_init 18 = .ok (.aload_n 0, 1) := by decide +kernel
theorem dX1_init_19 : decode cX1_init 19 = .ok (.iconst 0, 1) := by decide +kernel
theorem dX1_init_20 : decode cX1_init 20 = .ok (.invokevirtual 18, 3) := by decide +kernel
theorem dX1_init_23 : decode cX1_init 23 = .ok (.return_, 1) := by decide +kernel
set_option maxRecDepth 20000 in
theorem ggX1_nobody_X1_fromTheStart : GoodIn wsX1_nobody wsX1_fromTheStart := goodIn_r _ [5, 6, 7, 8] (by decide +kernel) (by decide +kernel)
set_option maxRecDepth 20000 in
theorem gX1_nobody_X1_fromTheStart : GoodIn wsX1_nobody (wsV RX1 18 RX1 yX1_fromTheStart wsX1_fromTheStart) := goodIn_app (goodIn_of _ (by decide +kernel)) ggX1_nobody_X1_fromTheStart
theorem dX1_nobody_0 : decode cX1_nobody 0 = .ok (.aload_n 0, 1) := by decide +kernel
theorem dX1_nobody_1 : decode cX1_nobody 1 = .ok (.iconst 0, 1) := by decide +kernel
theorem dX1_nobody_2 : decode cX1_nobody 2 = .ok (.invokevirtual 18, 3) := by decide +kernel
theorem dX1_nobody_5 : decode cX1_nobody 5 = .ok (.return_, 1) := by decide +kernel
theorem dX1_fromTheStart_0 : decode cX1_fromTheStart 0 = .ok (.iconst 0, 1) := by decide +kernel
theorem dX1_fromTheStart_1 : decode cX1_fromTheStart 1 = .ok (.istore_n 2, 1) := by decide +kernel
theorem dX1_fromTheStart_2 : decode cX1_fromTheStart 2 = .ok (.iload_n 2, 1) := by decide +kernel
theorem dX1_fromTheStart_3 : decode cX1_fromTheStart 3 = .ok (.iconst 5, 1) := by decide +kernel
theorem dX1_fromTheStart_4 : decode cX1_fromTheStart 4 = .ok (.if_icmp .ge 30, 3) := by decide +kernel
theorem dX1_fromTheStart_7 : decode cX1_fromTheStart 7 = .ok (.aload_n 0, 1) := by decide +kernel
theorem dX1_fromTheStart_8 : decode cX1_fromTheStart 8 = .ok (.getfield 15, 3) := by decide +kernel
theorem dX1_fromTheStart_11 : decode cX1_fromTheStart 11 = .ok (.iload_n 2, 1) := by decide +kernel
theorem dX1_fromTheStart_12 : decode cX1_fromTheStart 12 = .ok (.iload_n 1, 1) := by decide +kernel
theorem dX1_fromTheStart_13 : decode cX1_fromTheStart 13 = .ok (.iload_n 2, 1) := by decide +kernel
theorem dX1_fromTheStart_14 : decode cX1_fromTheStart 14 = .ok (.ishr, 1) := by decide +kernel
theorem dX1_fromTheStart_15 : decode cX1_fromTheStart 15 = .ok (.iconst 1, 1) := by decide +kernel
theorem dX1_fromTheStart_16 : decode cX1_fromTheStart 16 = .ok (.iand, 1) := by decide +kernel
theorem dX1_fromTheStart_17 : decode cX1_fromTheStart 17 = .ok (.iconst 1, 1) := by decide +kernel
theorem dX1_fromTheStart_18 : decode cX1_fromTheStart 18 = .ok (.if_icmp .ne 7, 3) := by decide +kernel
theorem dX1_fromTheStart_21 : decode cX1_fromTheStart 21 = .ok (.iconst 0, 1) := by decide +kernel
theorem dX1_fromTheStart_22 : decode cX1_fromTheStart 22 = .ok (.goto 5, 3) := by decide +kernel
theorem dX1_fromTheStart_25 : decode cX1_fromTheStart 25 = .ok (.bipush 6, 2) := by decide +kernel
theorem dX1_fromTheStart_27 : decode cX1_fromTheStart 27 = .ok (.iastore, 1) := by decide +kernel
theorem dX1_fromTheStart_28 : decode cX1_fromTheStart 28 = .ok (.iinc 2 1, 3) := by decide +kernel
theorem dX1_fromTheStart_31 : decode cX1_fromTheStart 31 = .ok (.goto (-29), 3) := by decide +kernel
theorem dX1_fromTheStart_34 : decode cX1_fromTheStart 34 = .ok (.return_, 1) := by decide +kernel
theorem dX1_ever_0 : decode cX1_ever 0 = .ok (.aload_n 0, 1) := by decide +kernel
theorem dX1_ever_1 : decode cX1_ever 1 = .ok (.getfield 15, 3) := by decide +kernel
theorem dX1_ever_4 : decode cX1_ever 4 = .ok (.iload_n 1, 1) := by decide +kernel
theorem dX1_ever_5 : decode cX1_ever 5 = .ok (.iaload, 1) := by decide +kernel
theorem dX1_ever_6 : decode cX1_ever 6 = .ok (.bipush 6, 2) := by decide +kernel
theorem dX1_ever_8 : decode cX1_ever 8 = .ok (.if_icmp .ge 7, 3) := by decide +kernel
theorem dX1_ever_11 : decode cX1_ever 11 = .ok (.iconst 1, 1) := by decide +kernel
theorem dX1_ever_12 : decode cX1_ever 12 = .ok (.goto 4, 3) := by decide +kernel
theorem dX1_ever_15 : decode cX1_ever 15 = .ok (.iconst 0, 1) := by decide +kernel
theorem dX1_ever_16 : decode cX1_ever 16 = .ok (.ireturn, 1) := by decide +kernel
theorem dX1_isAway_0 : decode cX1_isAway 0 = .ok (.aload_n 0, 1) := by decide +kernel
theorem dX1_isAway_1 : decode cX1_isAway 1 = .ok (.getfield 15, 3) := by decide +kernel
theorem dX1_isAway_4 : decode cX1_isAway 4 = .ok (.iload_n 1, 1) := by decide +kernel
theorem dX1_isAway_5 : decode cX1_isAway 5 = .ok (.iaload, 1) := by decide +kernel
theorem dX1_isAway_6 : decode cX1_isAway 6 = .ok (.iload_n 2, 1) := by decide +kernel
theorem dX1_isAway_7 : decode cX1_isAway 7 = .ok (.if_icmp .gt 7, 3) := by decide +kernel
theorem dX1_isAway_10 : decode cX1_isAway 10 = .ok (.iconst 1, 1) := by decide +kernel
theorem dX1_isAway_11 : decode cX1_isAway 11 = .ok (.goto 4, 3) := by decide +kernel
theorem dX1_isAway_14 : decode cX1_isAway 14 = .ok (.iconst 0, 1) := by decide +kernel
theorem dX1_isAway_15 : decode cX1_isAway 15 = .ok (.ireturn, 1) := by decide +kernel
set_option maxRecDepth 20000 in
theorem ggX1_howManyBy_X1_isAway : GoodIn wsX1_howManyBy wsX1_isAway := goodIn_r _ [5, 6, 7, 8] (by decide +kernel) (by decide +kernel)
set_option maxRecDepth 20000 in
theorem gX1_howManyBy_X1_isAway : GoodIn wsX1_howManyBy (wsV RX1 22 RX1 yX1_isAway wsX1_isAway) := goodIn_app (goodIn_of _ (by decide +kernel)) ggX1_howManyBy_X1_isAway
theorem dX1_howManyBy_0 : decode cX1_howManyBy 0 = .ok (.iconst 0, 1) := by decide +kernel
theorem dX1_howManyBy_1 : decode cX1_howManyBy 1 = .ok (.istore_n 2, 1) := by decide +kernel
theorem dX1_howManyBy_2 : decode cX1_howManyBy 2 = .ok (.iconst 0, 1) := by decide +kernel
theorem dX1_howManyBy_3 : decode cX1_howManyBy 3 = .ok (.istore_n 3, 1) := by decide +kernel
theorem dX1_howManyBy_4 : decode cX1_howManyBy 4 = .ok (.iload_n 3, 1) := by decide +kernel
theorem dX1_howManyBy_5 : decode cX1_howManyBy 5 = .ok (.iconst 5, 1) := by decide +kernel
theorem dX1_howManyBy_6 : decode cX1_howManyBy 6 = .ok (.if_icmp .ge 26, 3) := by decide +kernel
theorem dX1_howManyBy_9 : decode cX1_howManyBy 9 = .ok (.iload_n 2, 1) := by decide +kernel
theorem dX1_howManyBy_10 : decode cX1_howManyBy 10 = .ok (.aload_n 0, 1) := by decide +kernel
theorem dX1_howManyBy_11 : decode cX1_howManyBy 11 = .ok (.iload_n 3, 1) := by decide +kernel
theorem dX1_howManyBy_12 : decode cX1_howManyBy 12 = .ok (.iload_n 1, 1) := by decide +kernel
theorem dX1_howManyBy_13 : decode cX1_howManyBy 13 = .ok (.invokevirtual 22, 3) := by decide +kernel
theorem dX1_howManyBy_16 : decode cX1_howManyBy 16 = .ok (.ifCond .eq 7, 3) := by decide +kernel
theorem dX1_howManyBy_19 : decode cX1_howManyBy 19 = .ok (.iconst 1, 1) := by decide +kernel
theorem dX1_howManyBy_20 : decode cX1_howManyBy 20 = .ok (.goto 4, 3) := by decide +kernel
theorem dX1_howManyBy_23 : decode cX1_howManyBy 23 = .ok (.iconst 0, 1) := by decide +kernel
theorem dX1_howManyBy_24 : decode cX1_howManyBy 24 = .ok (.iadd, 1) := by decide +kernel
theorem dX1_howManyBy_25 : decode cX1_howManyBy 25 = .ok (.istore_n 2, 1) := by decide +kernel
theorem dX1_howManyBy_26 : decode cX1_howManyBy 26 = .ok (.iinc 3 1, 3) := by decide +kernel
theorem dX1_howManyBy_29 : decode cX1_howManyBy 29 = .ok (.goto (-25), 3) := by decide +kernel
theorem dX1_howManyBy_32 : decode cX1_howManyBy 32 = .ok (.iload_n 2, 1) := by decide +kernel
theorem dX1_howManyBy_33 : decode cX1_howManyBy 33 = .ok (.ireturn, 1) := by decide +kernel
set_option maxRecDepth 20000 in
theorem ggX1_setOf_X1_ever : GoodIn wsX1_setOf wsX1_ever := goodIn_r _ [5, 6, 7, 8] (by decide +kernel) (by decide +kernel)
set_option maxRecDepth 20000 in
theorem gX1_setOf_X1_ever : GoodIn wsX1_setOf (wsV RX1 26 RX1 yX1_ever wsX1_ever) := goodIn_app (goodIn_of _ (by decide +kernel)) ggX1_setOf_X1_ever
theorem dX1_setOf_0 : decode cX1_setOf 0 = .ok (.iconst 0, 1) := by decide +kernel
theorem dX1_setOf_1 : decode cX1_setOf 1 = .ok (.istore_n 1, 1) := by decide +kernel
theorem dX1_setOf_2 : decode cX1_setOf 2 = .ok (.iconst 0, 1) := by decide +kernel
theorem dX1_setOf_3 : decode cX1_setOf 3 = .ok (.istore_n 2, 1) := by decide +kernel
theorem dX1_setOf_4 : decode cX1_setOf 4 = .ok (.iload_n 2, 1) := by decide +kernel
theorem dX1_setOf_5 : decode cX1_setOf 5 = .ok (.iconst 5, 1) := by decide +kernel
theorem dX1_setOf_6 : decode cX1_setOf 6 = .ok (.if_icmp .ge 27, 3) := by decide +kernel
theorem dX1_setOf_9 : decode cX1_setOf 9 = .ok (.iload_n 1, 1) := by decide +kernel
theorem dX1_setOf_10 : decode cX1_setOf 10 = .ok (.aload_n 0, 1) := by decide +kernel
theorem dX1_setOf_11 : decode cX1_setOf 11 = .ok (.iload_n 2, 1) := by decide +kernel
theorem dX1_setOf_12 : decode cX1_setOf 12 = .ok (.invokevirtual 26, 3) := by decide +kernel
theorem dX1_setOf_15 : decode cX1_setOf 15 = .ok (.ifCond .eq 9, 3) := by decide +kernel
theorem dX1_setOf_18 : decode cX1_setOf 18 = .ok (.iconst 1, 1) := by decide +kernel
theorem dX1_setOf_19 : decode cX1_setOf 19 = .ok (.iload_n 2, 1) := by decide +kernel
theorem dX1_setOf_20 : decode cX1_setOf 20 = .ok (.ishl, 1) := by decide +kernel
theorem dX1_setOf_21 : decode cX1_setOf 21 = .ok (.goto 4, 3) := by decide +kernel
theorem dX1_setOf_24 : decode cX1_setOf 24 = .ok (.iconst 0, 1) := by decide +kernel
theorem dX1_setOf_25 : decode cX1_setOf 25 = .ok (.ior, 1) := by decide +kernel
theorem dX1_setOf_26 : decode cX1_setOf 26 = .ok (.istore_n 1, 1) := by decide +kernel
theorem dX1_setOf_27 : decode cX1_setOf 27 = .ok (.iinc 2 1, 3) := by decide +kernel
theorem dX1_setOf_30 : decode cX1_setOf 30 = .ok (.goto (-26), 3) := by decide +kernel
theorem dX1_setOf_33 : decode cX1_setOf 33 = .ok (.iload_n 1, 1) := by decide +kernel
theorem dX1_setOf_34 : decode cX1_setOf 34 = .ok (.ireturn, 1) := by decide +kernel
theorem dX2_init_0 : decode cX2_init 0 = .ok (.aload_n 0, 1) := by decide +kernel
theorem dX2_init_1 : decode cX2_init 1 = .ok (.invokespecial 3, 3) := by decide +kernel
theorem dX2_init_4 : decode cX2_init 4 = .ok (.aload_n 0, 1) := by decide +kernel
theorem dX2_init_5 : decode cX2_init 5 = .ok (.bipush 60, 2) := by decide +kernel
theorem dX2_init_7 : decode cX2_init 7 = .ok (.newarray .int, 2) := by decide +kernel
theorem dX2_init_9 : decode cX2_init 9 = .ok (.putfield 9, 3) := by decide +kernel
theorem dX2_init_12 : decode cX2_init 12 = .ok (.aload_n 0, 1) := by decide +kernel
theorem dX2_init_13 : decode cX2_init 13 = .ok (.iconst 0, 1) := by decide +kernel
theorem dX2_init_14 : decode cX2_init 14 = .ok (.putfield 15, 3) := by decide +kernel
theorem dX2_init_17 : decode cX2_init 17 = .ok (.aload_n 0, 1) := by decide +kernel
theorem dX2_init_18 : decode cX2_init 18 = .ok (.iconst 0, 1) := by decide +kernel
theorem dX2_init_19 : decode cX2_init 19 = .ok (.putfield 19, 3) := by decide +kernel
theorem dX2_init_22 : decode cX2_init 22 = .ok (.aload_n 0, 1) := by decide +kernel
theorem dX2_init_23 : decode cX2_init 23 = .ok (.iconst 0, 1) := by decide +kernel
theorem dX2_init_24 : decode cX2_init 24 = .ok (.putfield 23, 3) := by decide +kernel
theorem dX2_init_27 : decode cX2_init 27 = .ok (.return_, 1) := by decide +kernel
theorem dX2_begin_0 : decode cX2_begin 0 = .ok (.aload_n 0, 1) := by decide +kernel
theorem dX2_begin_1 : decode cX2_begin 1 = .ok (.iconst 1, 1) := by decide +kernel
theorem dX2_begin_2 : decode cX2_begin 2 = .ok (.putfield 15, 3) := by decide +kernel
theorem dX2_begin_5 : decode cX2_begin 5 = .ok (.aload_n 0, 1) := by decide +kernel
theorem dX2_begin_6 : decode cX2_begin 6 = .ok (.iload_n 1, 1) := by decide +kernel
theorem dX2_begin_7 : decode cX2_begin 7 = .ok (.putfield 19, 3) := by decide +kernel
theorem dX2_begin_10 : decode cX2_begin 10 = .ok (.aload_n 0, 1) := by decide +kernel
theorem dX2_begin_11 : decode cX2_begin 11 = .ok (.iconst 0, 1) := by decide +kernel
theorem dX2_begin_12 : decode cX2_begin 12 = .ok (.iload_n 2, 1) := by decide +kernel
theorem dX2_begin_13 : decode cX2_begin 13 = .ok (.bipush 60, 2) := by decide +kernel
theorem dX2_begin_15 : decode cX2_begin 15 = .ok (.invokestatic 26, 3) := by decide +kernel
theorem dX2_begin_18 : decode cX2_begin 18 = .ok (.invokestatic 32, 3) := by decide +kernel
theorem dX2_begin_21 : decode cX2_begin 21 = .ok (.putfield 23, 3) := by decide +kernel
theorem dX2_begin_24 : decode cX2_begin 24 = .ok (.iconst 0, 1) := by decide +kernel
theorem dX2_begin_25 : decode cX2_begin 25 = .ok (.istore_n 3, 1) := by decide +kernel
theorem dX2_begin_26 : decode cX2_begin 26 = .ok (.iload_n 3, 1) := by decide +kernel
theorem dX2_begin_27 : decode cX2_begin 27 = .ok (.bipush 60, 2) := by decide +kernel
theorem dX2_begin_29 : decode cX2_begin 29 = .ok (.if_icmp .ge 16, 3) := by decide +kernel
theorem dX2_begin_32 : decode cX2_begin 32 = .ok (.aload_n 0, 1) := by decide +kernel
theorem dX2_begin_33 : decode cX2_begin 33 = .ok (.getfield 9, 3) := by decide +kernel
theorem dX2_begin_36 : decode cX2_begin 36 = .ok (.iload_n 3, 1) := by decide +kernel
theorem dX2_begin_37 : decode cX2_begin 37 = .ok (.iconst 0, 1) := by decide +kernel
theorem dX2_begin_38 : decode cX2_begin 38 = .ok (.iastore, 1) := by decide +kernel
theorem dX2_begin_39 : decode cX2_begin 39 = .ok (.iinc 3 1, 3) := by decide +kernel
theorem dX2_begin_42 : decode cX2_begin 42 = .ok (.goto (-16), 3) := by decide +kernel
theorem dX2_begin_45 : decode cX2_begin 45 = .ok (.return_, 1) := by decide +kernel
theorem dX2_hasCell_0 : decode cX2_hasCell 0 = .ok (.iload_n 1, 1) := by decide +kernel
theorem dX2_hasCell_1 : decode cX2_hasCell 1 = .ok (.ifCond .lt 15, 3) := by decide +kernel
theorem dX2_hasCell_4 : decode cX2_hasCell 4 = .ok (.iload_n 1, 1) := by decide +kernel
theorem dX2_hasCell_5 : decode cX2_hasCell 5 = .ok (.aload_n 0, 1) := by decide +kernel
theorem dX2_hasCell_6 : decode cX2_hasCell 6 = .ok (.getfield 23, 3) := by decide +kernel
theorem dX2_hasCell_9 : decode cX2_hasCell 9 = .ok (.if_icmp .ge 7, 3) := by decide +kernel
theorem dX2_hasCell_12 : decode cX2_hasCell 12 = .ok (.iconst 1, 1) := by decide +kernel
theorem dX2_hasCell_13 : decode cX2_hasCell 13 = .ok (.goto 4, 3) := by decide +kernel
theorem dX2_hasCell_16 : decode cX2_hasCell 16 = .ok (.iconst 0, 1) := by decide +kernel
theorem dX2_hasCell_17 : decode cX2_hasCell 17 = .ok (.ireturn, 1) := by decide +kernel
theorem dX2_hasCells_0 : decode cX2_hasCells 0 = .ok (.iload_n 1, 1) := by decide +kernel
theorem dX2_hasCells_1 : decode cX2_hasCells 1 = .ok (.ifCond .lt 29, 3) := by decide +kernel
theorem dX2_hasCells_4 : decode cX2_hasCells 4 = .ok (.iload_n 1, 1) := by decide +kernel
theorem dX2_hasCells_5 : decode cX2_hasCells 5 = .ok (.aload_n 0, 1) := by decide +kernel
theorem dX2_hasCells_6 : decode cX2_hasCells 6 = .ok (.getfield 23, 3) := by decide +kernel
theorem dX2_hasCells_9 : decode cX2_hasCells 9 = .ok (.if_icmp .gt 21, 3) := by decide +kernel
theorem dX2_hasCells_12 : decode cX2_hasCells 12 = .ok (.iload_n 2, 1) := by decide +kernel
theorem dX2_hasCells_13 : decode cX2_hasCells 13 = .ok (.ifCond .lt 17, 3) := by decide +kernel
theorem dX2_hasCells_16 : decode cX2_hasCells 16 = .ok (.iload_n 2, 1) := by decide +kernel
theorem dX2_hasCells_17 : decode cX2_hasCells 17 = .ok (.aload_n 0, 1) := by decide +kernel
theorem dX2_hasCells_18 : decode cX2_hasCells 18 = .ok (.getfield 23, 3) := by decide +kernel
theorem dX2_hasCells_21 : decode cX2_hasCells 21 = .ok (.iload_n 1, 1) := by decide +kernel
theorem dX2_hasCells_22 : decode cX2_hasCells 22 = .ok (.isub, 1) := by decide +kernel
theorem dX2_hasCells_23 : decode cX2_hasCells 23 = .ok (.if_icmp .gt 7, 3) := by decide +kernel
theorem dX2_hasCells_26 : decode cX2_hasCells 26 = .ok (.iconst 1, 1) := by decide +kernel
theorem dX2_hasCells_27 : decode cX2_hasCells 27 = .ok (.goto 4, 3) := by decide +kernel
theorem dX2_hasCells_30 : decode cX2_hasCells 30 = .ok (.iconst 0, 1) := by decide +kernel
theorem dX2_hasCells_31 : decode cX2_hasCells 31 = .ok (.ireturn, 1) := by decide +kernel
set_option maxRecDepth 20000 in
theorem ggX2_at_X2_hasCell : GoodIn wsX2_at wsX2_hasCell := goodIn_r _ [6, 7, 8, 9, 10, 11] (by decide +kernel) (by decide +kernel)
set_option maxRecDepth 20000 in
theorem gX2_at_X2_hasCell : GoodIn wsX2_at (wsV RX2 35 RX2 yX2_hasCell wsX2_hasCell) := goodIn_app (goodIn_of _ (by decide +kernel)) ggX2_at_X2_hasCell
theorem dX2_at_0 : decode cX2_at 0 = .ok (.aload_n 0, 1) := by decide +kernel
theorem dX2_at_1 : decode cX2_at 1 = .ok (.iload_n 1, 1) := by decide +kernel
theorem dX2_at_2 : decode cX2_at 2 = .ok (.invokevirtual 35, 3) := by decide +kernel
theorem dX2_at_5 : decode cX2_at 5 = .ok (.ifCond .eq 12, 3) := by decide +kernel
theorem dX2_at_8 : decode cX2_at 8 = .ok (.aload_n 0, 1) := by decide +kernel
theorem dX2_at_9 : decode cX2_at 9 = .ok (.getfield 9, 3) := by decide +kernel
theorem dX2_at_12 : decode cX2_at 12 = .ok (.iload_n 1, 1) := by decide +kernel
theorem dX2_at_13 : decode cX2_at 13 = .ok (.iaload, 1) := by decide +kernel
theorem dX2_at_14 : decode cX2_at 14 = .ok (.goto 4, 3) := by decide +kernel
theorem dX2_at_17 : decode cX2_at 17 = .ok (.iconst 0, 1) := by decide +kernel
theorem dX2_at_18 : decode cX2_at 18 = .ok (.ireturn, 1) := by decide +kernel
set_option maxRecDepth 20000 in
theorem ggX2_write_X2_hasCell : GoodIn wsX2_write wsX2_hasCell := goodIn_r _ [6, 7, 13, 14, 15, 16] (by decide +kernel) (by decide +kernel)
set_option maxRecDepth 20000 in
theorem gX2_write_X2_hasCell : GoodIn wsX2_write (wsV RX2 35 RX2 yX2_hasCell wsX2_hasCell) := goodIn_app (goodIn_of _ (by decide +kernel)) ggX2_write_X2_hasCell
set_option maxRecDepth 20000 in
theorem ggX2_write_X2_cut : GoodIn wsX2_write wsX2_cut := goodIn_r _ [11, 12, 13, 14, 15, 16] (by decide +kernel) (by decide +kernel)
set_option maxRecDepth 20000 in
theorem gX2_write_X2_cut : GoodIn wsX2_write (wsV RX2 39 RX2 yX2_cut wsX2_cut) := goodIn_app (goodIn_of _ (by decide +kernel)) ggX2_write_X2_cut
theorem dX2_write_0 : decode cX2_write 0 = .ok (.aload_n 0, 1) := by decide +kernel
theorem dX2_write_1 : decode cX2_write 1 = .ok (.iload_n 1, 1) := by decide +kernel
theorem dX2_write_2 : decode cX2_write 2 = .ok (.invokevirtual 35, 3) := by decide +kernel
theorem dX2_write_5 : decode cX2_write 5 = .ok (.ifCond .eq 14, 3) := by decide +kernel
theorem dX2_write_8 : decode cX2_write 8 = .ok (.aload_n 0, 1) := by decide +kernel
theorem dX2_write_9 : decode cX2_write 9 = .ok (.getfield 9, 3) := by decide +kernel
theorem dX2_write_12 : decode cX2_write 12 = .ok (.iload_n 1, 1) := by decide +kernel
theorem dX2_write_13 : decode cX2_write 13 = .ok (.aload_n 0, 1) := by decide +kernel
theorem dX2_write_14 : decode cX2_write 14 = .ok (.iload_n 2, 1) := by decide +kernel
theorem dX2_write_15 : decode cX2_write 15 = .ok (.invokevirtual 39, 3) := by decide +kernel
theorem dX2_write_18 : decode cX2_write 18 = .ok (.iastore, 1) := by decide +kernel
theorem dX2_write_19 : decode cX2_write 19 = .ok (.return_, 1) := by decide +kernel
theorem dX2_cut_0 : decode cX2_cut 0 = .ok (.aload_n 0, 1) := by decide +kernel
theorem dX2_cut_1 : decode cX2_cut 1 = .ok (.getfield 19, 3) := by decide +kernel
theorem dX2_cut_4 : decode cX2_cut 4 = .ok (.lookupswitch 34 #[(0, 28), (1, 31)], 28) := by decide +kernel
theorem dX2_cut_32 : decode cX2_cut 32 = .ok (.iload_n 1, 1) := by decide +kernel
theorem dX2_cut_33 : decode cX2_cut 33 = .ok (.i2b, 1) := by decide +kernel
theorem dX2_cut_34 : decode cX2_cut 34 = .ok (.ireturn, 1) := by decide +kernel
theorem dX2_cut_35 : decode cX2_cut 35 = .ok (.iload_n 1, 1) := by decide +kernel
theorem dX2_cut_36 : decode cX2_cut 36 = .ok (.i2s, 1) := by decide +kernel
theorem dX2_cut_37 : decode cX2_cut 37 = .ok (.ireturn, 1) := by decide +kernel
theorem dX2_cut_38 : decode cX2_cut 38 = .ok (.iload_n 1, 1) := by decide +kernel
theorem dX2_cut_39 : decode cX2_cut 39 = .ok (.ireturn, 1) := by decide +kernel
theorem dX3_init_0 : decode cX3_init 0 = .ok (.aload_n 0, 1) := by decide +kernel
theorem dX3_init_1 : decode cX3_init 1 = .ok (.invokespecial 3, 3) := by decide +kernel
theorem dX3_init_4 : decode cX3_init 4 = .ok (.aload_n 0, 1) := by decide +kernel
theorem dX3_init_5 : decode cX3_init 5 = .ok (.bipush 60, 2) := by decide +kernel
theorem dX3_init_7 : decode cX3_init 7 = .ok (.newarray .int, 2) := by decide +kernel
theorem dX3_init_9 : decode cX3_init 9 = .ok (.putfield 9, 3) := by decide +kernel
theorem dX3_init_12 : decode cX3_init 12 = .ok (.aload_n 0, 1) := by decide +kernel
theorem dX3_init_13 : decode cX3_init 13 = .ok (.iconst 0, 1) := by decide +kernel
theorem dX3_init_14 : decode cX3_init 14 = .ok (.putfield 15, 3) := by decide +kernel
theorem dX3_init_17 : decode cX3_init 17 = .ok (.aload_n 0, 1) := by decide +kernel
theorem dX3_init_18 : decode cX3_init 18 = .ok (.iconst 0, 1) := by decide +kernel
theorem dX3_init_19 : decode cX3_init 19 = .ok (.putfield 19, 3) := by decide +kernel
theorem dX3_init_22 : decode cX3_init 22 = .ok (.return_, 1) := by decide +kernel
set_option maxRecDepth 20000 in
theorem ggX3_open_X2_at : GoodIn wsX3_open wsX2_at := goodIn_r _ [15, 16, 17, 18, 19, 14, 20, 21, 25, 26, 27, 28] (by decide +kernel) (by decide +kernel)
set_option maxRecDepth 20000 in
theorem gX3_open_X2_at : GoodIn wsX3_open (wsV RX3 31 RX2 yX2_at wsX2_at) := goodIn_app (goodIn_of _ (by decide +kernel)) ggX3_open_X2_at
theorem dX3_open_0 : decode cX3_open 0 = .ok (.aload_n 0, 1) := by decide +kernel
theorem dX3_open_1 : decode cX3_open 1 = .ok (.iconst 0, 1) := by decide +kernel
theorem dX3_open_2 : decode cX3_open 2 = .ok (.iload_n 3, 1) := by decide +kernel
theorem dX3_open_3 : decode cX3_open 3 = .ok (.bipush 60, 2) := by decide +kernel
theorem dX3_open_5 : decode cX3_open 5 = .ok (.invokestatic 22, 3) := by decide +kernel
theorem dX3_open_8 : decode cX3_open 8 = .ok (.invokestatic 28, 3) := by decide +kernel
theorem dX3_open_11 : decode cX3_open 11 = .ok (.putfield 15, 3) := by decide +kernel
theorem dX3_open_14 : decode cX3_open 14 = .ok (.aload_n 0, 1) := by decide +kernel
theorem dX3_open_15 : decode cX3_open 15 = .ok (.iconst 0, 1) := by decide +kernel
theorem dX3_open_16 : decode cX3_open 16 = .ok (.putfield 19, 3) := by decide +kernel
theorem dX3_open_19 : decode cX3_open 19 = .ok (.iconst 0, 1) := by decide +kernel
theorem dX3_open_20 : decode cX3_open 20 = .ok (.istore 4, 2) := by decide +kernel
theorem dX3_open_22 : decode cX3_open 22 = .ok (.iload 4, 2) := by decide +kernel
theorem dX3_open_24 : decode cX3_open 24 = .ok (.aload_n 0, 1) := by decide +kernel
theorem dX3_open_25 : decode cX3_open 25 = .ok (.getfield 15, 3) := by decide +kernel
theorem dX3_open_28 : decode cX3_open 28 = .ok (.if_icmp .ge 24, 3) := by decide +kernel
theorem dX3_open_31 : decode cX3_open 31 = .ok (.aload_n 0, 1) := by decide +kernel
theorem dX3_open_32 : decode cX3_open 32 = .ok (.getfield 9, 3) := by decide +kernel
theorem dX3_open_35 : decode cX3_open 35 = .ok (.iload 4, 2) := by decide +kernel
theorem dX3_open_37 : decode cX3_open 37 = .ok (.aload_n 1, 1) := by decide +kernel
theorem dX3_open_38 : decode cX3_open 38 = .ok (.iload_n 2, 1) := by decide +kernel
theorem dX3_open_39 : decode cX3_open 39 = .ok (.iload 4, 2) := by decide +kernel
theorem dX3_open_41 : decode cX3_open 41 = .ok (.iadd, 1) := by decide +kernel
theorem dX3_open_42 : decode cX3_open 42 = .ok (.invokevirtual 31, 3) := by decide +kernel
theorem dX3_open_45 : decode cX3_open 45 = .ok (.iastore, 1) := by decide +kernel
theorem dX3_open_46 : decode cX3_open 46 = .ok (.iinc 4 1, 3) := by decide +kernel
theorem dX3_open_49 : decode cX3_open 49 = .ok (.goto (-27), 3) := by decide +kernel
theorem dX3_open_52 : decode cX3_open 52 = .ok (.return_, 1) := by decide +kernel
theorem dX3_isAtEnd_0 : decode cX3_isAtEnd 0 = .ok (.aload_n 0, 1) := by decide +kernel
theorem dX3_isAtEnd_1 : decode cX3_isAtEnd 1 = .ok (.getfield 19, 3) := by decide +kernel
theorem dX3_isAtEnd_4 : decode cX3_isAtEnd 4 = .ok (.aload_n 0, 1) := by decide +kernel
theorem dX3_isAtEnd_5 : decode cX3_isAtEnd 5 = .ok (.getfield 15, 3) := by decide +kernel
theorem dX3_isAtEnd_8 : decode cX3_isAtEnd 8 = .ok (.if_icmp .lt 7, 3) := by decide +kernel
theorem dX3_isAtEnd_11 : decode cX3_isAtEnd 11 = .ok (.iconst 1, 1) := by decide +kernel
theorem dX3_isAtEnd_12 : decode cX3_isAtEnd 12 = .ok (.goto 4, 3) := by decide +kernel
theorem dX3_isAtEnd_15 : decode cX3_isAtEnd 15 = .ok (.iconst 0, 1) := by decide +kernel
theorem dX3_isAtEnd_16 : decode cX3_isAtEnd 16 = .ok (.ireturn, 1) := by decide +kernel
set_option maxRecDepth 20000 in
theorem ggX3_takes_X3_takesDigit : GoodIn wsX3_takes wsX3_takesDigit := goodIn_r _ [5, 6, 7, 8, 9, 10, 11] (by decide +kernel) (by decide +kernel)
set_option maxRecDepth 20000 in
theorem gX3_takes_X3_takesDigit : GoodIn wsX3_takes (wsV RX3 37 RX3 yX3_takesDigit wsX3_takesDigit) := goodIn_app (goodIn_of _ (by decide +kernel)) ggX3_takes_X3_takesDigit
theorem dX3_takes_0 : decode cX3_takes 0 = .ok (.aload_n 0, 1) := by decide +kernel
theorem dX3_takes_1 : decode cX3_takes 1 = .ok (.iload_n 1, 1) := by decide +kernel
theorem dX3_takes_2 : decode cX3_takes 2 = .ok (.iload_n 1, 1) := by decide +kernel
theorem dX3_takes_3 : decode cX3_takes 3 = .ok (.invokevirtual 37, 3) := by decide +kernel
theorem dX3_takes_6 : decode cX3_takes 6 = .ok (.bipush (-9), 2) := by decide +kernel
theorem dX3_takes_8 : decode cX3_takes 8 = .ok (.if_icmp .eq 7, 3) := by decide +kernel
theorem dX3_takes_11 : decode cX3_takes 11 = .ok (.iconst 1, 1) := by decide +kernel
theorem dX3_takes_12 : decode cX3_takes 12 = .ok (.goto 4, 3) := by decide +kernel
theorem dX3_takes_15 : decode cX3_takes 15 = .ok (.iconst 0, 1) := by decide +kernel
theorem dX3_takes_16 : decode cX3_takes 16 = .ok (.ireturn, 1) := by decide +kernel
theorem dX3_takesDigit_0 : decode cX3_takesDigit 0 = .ok (.aload_n 0, 1) := by decide +kernel
theorem dX3_takesDigit_1 : decode cX3_takesDigit 1 = .ok (.getfield 19, 3) := by decide +kernel
theorem dX3_takesDigit_4 : decode cX3_takesDigit 4 = .ok (.aload_n 0, 1) := by decide +kernel
theorem dX3_takesDigit_5 : decode cX3_takesDigit 5 = .ok (.getfield 15, 3) := by decide +kernel
theorem dX3_takesDigit_8 : decode cX3_takesDigit 8 = .ok (.if_icmp .ge 29, 3) := by decide +kernel
theorem dX3_takesDigit_11 : decode cX3_takesDigit 11 = .ok (.aload_n 0, 1) := by decide +kernel
theorem dX3_takesDigit_12 : decode cX3_takesDigit 12 = .ok (.getfield 9, 3) := by decide +kernel
theorem dX3_takesDigit_15 : decode cX3_takesDigit 15 = .ok (.aload_n 0, 1) := by decide +kernel
theorem dX3_takesDigit_16 : decode cX3_takesDigit 16 = .ok (.getfield 19, 3) := by decide +kernel
theorem dX3_takesDigit_19 : decode cX3_takesDigit 19 = .ok (.iaload, 1) := by decide +kernel
theorem dX3_takesDigit_20 : decode cX3_takesDigit 20 = .ok (.iload_n 1, 1) := by decide +kernel
theorem dX3_takesDigit_21 : decode cX3_takesDigit 21 = .ok (.if_icmp .lt 16, 3) := by decide +kernel
theorem dX3_takesDigit_24 : decode cX3_takesDigit 24 = .ok (.aload_n 0, 1) := by decide +kernel
theorem dX3_takesDigit_25 : decode cX3_takesDigit 25 = .ok (.getfield 9, 3) := by decide +kernel
theorem dX3_takesDigit_28 : decode cX3_takesDigit 28 = .ok (.aload_n 0, 1) := by decide +kernel
theorem dX3_takesDigit_29 : decode cX3_takesDigit 29 = .ok (.getfield 19, 3) := by decide +kernel
theorem dX3_takesDigit_32 : decode cX3_takesDigit 32 = .ok (.iaload, 1) := by decide +kernel
theorem dX3_takesDigit_33 : decode cX3_takesDigit 33 = .ok (.iload_n 2, 1) := by decide +kernel
theorem dX3_takesDigit_34 : decode cX3_takesDigit 34 = .ok (.if_icmp .le 6, 3) := by decide +kernel
theorem dX3_takesDigit_37 : decode cX3_takesDigit 37 = .ok (.bipush (-9), 2) := by decide +kernel
theorem dX3_takesDigit_39 : decode cX3_takesDigit 39 = .ok (.ireturn, 1) := by decide +kernel
theorem dX3_takesDigit_40 : decode cX3_takesDigit 40 = .ok (.aload_n 0, 1) := by decide +kernel
theorem dX3_takesDigit_41 : decode cX3_takesDigit 41 = .ok (.getfield 9, 3) := by decide +kernel
theorem dX3_takesDigit_44 : decode cX3_takesDigit 44 = .ok (.aload_n 0, 1) := by decide +kernel
theorem dX3_takesDigit_45 : decode cX3_takesDigit 45 = .ok (.getfield 19, 3) := by decide +kernel
theorem dX3_takesDigit_48 : decode cX3_takesDigit 48 = .ok (.iaload, 1) := by decide +kernel
theorem dX3_takesDigit_49 : decode cX3_takesDigit 49 = .ok (.iload_n 1, 1) := by decide +kernel
theorem dX3_takesDigit_50 : decode cX3_takesDigit 50 = .ok (.isub, 1) := by decide +kernel
theorem dX3_takesDigit_51 : decode cX3_takesDigit 51 = .ok (.istore_n 3, 1) := by decide +kernel
theorem dX3_takesDigit_52 : decode cX3_takesDigit 52 = .ok (.aload_n 0, 1) := by decide +kernel
theorem dX3_takesDigit_53 : decode cX3_takesDigit 53 = .ok (.dup, 1) := by decide +kernel
theorem dX3_takesDigit_54 : decode cX3_takesDigit 54 = .ok (.getfield 19, 3) := by decide +kernel
theorem dX3_takesDigit_57 : decode cX3_takesDigit 57 = .ok (.iconst 1, 1) := by decide +kernel
theorem dX3_takesDigit_58 : decode cX3_takesDigit 58 = .ok (.iadd, 1) := by decide +kernel
theorem dX3_takesDigit_59 : decode cX3_takesDigit 59 = .ok (.putfield 19, 3) := by decide +kernel
theorem dX3_takesDigit_62 : decode cX3_takesDigit 62 = .ok (.iload_n 3, 1) := by decide +kernel
theorem dX3_takesDigit_63 : decode cX3_takesDigit 63 = .ok (.ireturn, 1) := by decide +kernel
set_option maxRecDepth 20000 in
theorem ggX3_takesKind_X3_takes : GoodIn wsX3_takesKind wsX3_takes := goodIn_r _ [5, 6, 7, 8, 4, 9, 10, 11, 12, 13, 14, 15] (by decide +kernel) (by decide +kernel)
set_option maxRecDepth 20000 in
theorem gX3_takesKind_X3_takes : GoodIn wsX3_takesKind (wsV RX3 40 RX3 yX3_takes wsX3_takes) := goodIn_app (goodIn_of _ (by decide +kernel)) ggX3_takesKind_X3_takes
theorem dX3_takesKind_0 : decode cX3_takesKind 0 = .ok (.aload_n 0, 1) := by decide +kernel
theorem dX3_takesKind_1 : decode cX3_takesKind 1 = .ok (.bipush 115, 2) := by decide +kernel
theorem dX3_takesKind_3 : decode cX3_takesKind 3 = .ok (.invokevirtual 40, 3) := by decide +kernel
theorem dX3_takesKind_6 : decode cX3_takesKind 6 = .ok (.ifCond .eq 5, 3) := by decide +kernel
theorem dX3_takesKind_9 : decode cX3_takesKind 9 = .ok (.iconst 0, 1) := by decide +kernel
theorem dX3_takesKind_10 : decode cX3_takesKind 10 = .ok (.ireturn, 1) := by decide +kernel
theorem dX3_takesKind_11 : decode cX3_takesKind 11 = .ok (.aload_n 0, 1) := by decide +kernel
theorem dX3_takesKind_12 : decode cX3_takesKind 12 = .ok (.bipush 104, 2) := by decide +kernel
theorem dX3_takesKind_14 : decode cX3_takesKind 14 = .ok (.invokevirtual 40, 3) := by decide +kernel
theorem dX3_takesKind_17 : decode cX3_takesKind 17 = .ok (.ifCond .eq 5, 3) := by decide +kernel
theorem dX3_takesKind_20 : decode cX3_takesKind 20 = .ok (.iconst 1, 1) := by decide +kernel
theorem dX3_takesKind_21 : decode cX3_takesKind 21 = .ok (.ireturn, 1) := by decide +kernel
theorem dX3_takesKind_22 : decode cX3_takesKind 22 = .ok (.aload_n 0, 1) := by decide +kernel
theorem dX3_takesKind_23 : decode cX3_takesKind 23 = .ok (.bipush 112, 2) := by decide +kernel
theorem dX3_takesKind_25 : decode cX3_takesKind 25 = .ok (.invokevirtual 40, 3) := by decide +kernel
theorem dX3_takesKind_28 : decode cX3_takesKind 28 = .ok (.ifCond .eq 7, 3) := by decide +kernel
theorem dX3_takesKind_31 : decode cX3_takesKind 31 = .ok (.iconst 2, 1) := by decide +kernel
theorem dX3_takesKind_32 : decode cX3_takesKind 32 = .ok (.goto 5, 3) := by decide +kernel
theorem dX3_takesKind_35 : decode cX3_takesKind 35 = .ok (.bipush (-9), 2) := by decide +kernel
theorem dX3_takesKind_37 : decode cX3_takesKind 37 = .ok (.ireturn, 1) := by decide +kernel
theorem dX4_init_0 : decode cX4_init 0 = .ok (.aload_n 0, 1) := by decide +kernel
theorem dX4_init_1 : decode cX4_init 1 = .ok (.invokespecial 3, 3) := by decide +kernel
theorem dX4_init_4 : decode cX4_init 4 = .ok (.aload_n 0, 1) := by decide +kernel
theorem dX4_init_5 : decode cX4_init 5 = .ok (.iconst 0, 1) := by decide +kernel
theorem dX4_init_6 : decode cX4_init 6 = .ok (.putfield 9, 3) := by decide +kernel
theorem dX4_init_9 : decode cX4_init 9 = .ok (.aload_n 0, 1) := by decide +kernel
theorem dX4_init_10 : decode cX4_init 10 = .ok (.iconst 0, 1) := by decide +kernel
theorem dX4_init_11 : decode cX4_init 11 = .ok (.putfield 15, 3) := by decide +kernel
theorem dX4_init_14 : decode cX4_init 14 = .ok (.aload_n 0, 1) := by decide +kernel
theorem dX4_init_15 : decode cX4_init 15 = .ok (.iconst 0, 1) := by decide +kernel
theorem dX4_init_16 : decode cX4_init 16 = .ok (.putfield 18, 3) := by decide +kernel
theorem dX4_init_19 : decode cX4_init 19 = .ok (.aload_n 0, 1) := by decide +kernel
theorem dX4_init_20 : decode cX4_init 20 = .ok (.iconst 4, 1) := by decide +kernel
theorem dX4_init_21 : decode cX4_init 21 = .ok (.bipush 6, 2) := by decide +kernel
theorem dX4_init_23 : decode cX4_init 23 = .ok (.multianewarray 21 2, 4) := by decide +kernel
theorem dX4_init_27 : decode cX4_init 27 = .ok (.putfield 23, 3) := by decide +kernel
theorem dX4_init_30 : decode cX4_init 30 = .ok (.aload_n 0, 1) := by decide +kernel
theorem dX4_init_31 : decode cX4_init 31 = .ok (.iconst 5, 1) := by decide +kernel
theorem dX4_init_32 : decode cX4_init 32 = .ok (.newarray .int, 2) := by decide +kernel
theorem dX4_init_34 : decode cX4_init 34 = .ok (.putfield 26, 3) := by decide +kernel
theorem dX4_init_37 : decode cX4_init 37 = .ok (.aload_n 0, 1) := by decide +kernel
theorem dX4_init_38 : decode cX4_init 38 = .ok (.iconst 5, 1) := by decide +kernel
theorem dX4_init_39 : decode cX4_init 39 = .ok (.newarray .int, 2) := by decide +kernel
theorem dX4_init_41 : decode cX4_init 41 = .ok (.putfield 30, 3) := by decide +kernel
theorem dX4_init_44 : decode cX4_init 44 = .ok (.aload_n 0, 1) := by decide +kernel
theorem dX4_init_45 : decode cX4_init 45 = .ok (.iconst 5, 1) := by decide +kernel
theorem dX4_init_46 : decode cX4_init 46 = .ok (.newarray .int, 2) := by decide +kernel
theorem dX4_init_48 : decode cX4_init 48 = .ok (.putfield 33, 3) := by decide +kernel
theorem dX4_init_51 : decode cX4_init 51 = .ok (.aload_n 0, 1) := by decide +kernel
theorem dX4_init_52 : decode cX4_init 52 = .ok (.iconst 5, 1) := by decide +kernel
theorem dX4_init_53 : decode cX4_init 53 = .ok (.newarray .int, 2) := by decide +kernel
theorem dX4_init_55 : decode cX4_init 55 = .ok (.putfield 36, 3) := by decide +kernel
theorem dX4_init_58 : decode cX4_init 58 = .ok (.return_, 1) := by decide +kernel
set_option maxRecDepth 20000 in
theorem ggX4_readsAll_X4_readsHead : GoodIn wsX4_readsAll wsX4_readsHead := goodIn_r _ [5, 6, 7, 8, 9, 10, 11, 12, 13, 14, 15, 16, 17, 18, 19, 20, 48, 49, 50, 51, 52, 53, 54, 55, 56, 57, 58] (by decide +kernel) (by decide +kernel)
set_option maxRecDepth 20000 in
theorem gX4_readsAll_X4_readsHead : GoodIn wsX4_readsAll (wsV RX4 39 RX4 yX4_readsHead wsX4_readsHead) := goodIn_app (goodIn_of _ (by decide +kernel)) ggX4_readsAll_X4_readsHead
set_option maxRecDepth 20000 in
theorem ggX4_readsAll_X4_readsGains : GoodIn wsX4_readsAll wsX4_readsGains := goodIn_r _ [24, 6, 7, 25, 8, 9, 10, 11, 12, 13, 14, 15, 16, 17, 18, 19, 20, 48, 49, 50, 51, 52, 53, 54, 55, 56, 57, 58] (by decide +kernel) (by decide +kernel)
set_option maxRecDepth 20000 in
theorem gX4_readsAll_X4_readsGains : GoodIn wsX4_readsAll (wsV RX4 43 RX4 yX4_readsGains wsX4_readsGains) := goodIn_app (goodIn_of _ (by decide +kernel)) ggX4_readsAll_X4_readsGains
set_option maxRecDepth 20000 in
theorem ggX4_readsAll_X4_readsSons : GoodIn wsX4_readsAll wsX4_readsSons := goodIn_r _ [29, 30, 31, 32, 33, 4, 34, 35, 36, 6, 37, 38, 8, 9, 10, 11, 12, 13, 14, 15, 16, 17, 18, 19, 39, 40, 41, 42, 43, 20, 44, 45, 46, 47, 48, 49, 50, 51, 52, 53, 54, 55, 56, 57, 58] (by decide +kernel) (by decide +kernel)
set_option maxRecDepth 20000 in
theorem gX4_readsAll_X4_readsSons : GoodIn wsX4_readsAll (wsV RX4 46 RX4 yX4_readsSons wsX4_readsSons) := goodIn_app (goodIn_of _ (by decide +kernel)) ggX4_readsAll_X4_readsSons
theorem dX4_readsAll_0 : decode cX4_readsAll 0 = .ok (.aload_n 0, 1) := by decide +kernel
theorem dX4_readsAll_1 : decode cX4_readsAll 1 = .ok (.aload_n 1, 1) := by decide +kernel
theorem dX4_readsAll_2 : decode cX4_readsAll 2 = .ok (.invokevirtual 39, 3) := by decide +kernel
theorem dX4_readsAll_5 : decode cX4_readsAll 5 = .ok (.ifCond .eq 23, 3) := by decide +kernel
theorem dX4_readsAll_8 : decode cX4_readsAll 8 = .ok (.aload_n 0, 1) := by decide +kernel
theorem dX4_readsAll_9 : decode cX4_readsAll 9 = .ok (.aload_n 1, 1) := by decide +kernel
theorem dX4_readsAll_10 : decode cX4_readsAll 10 = .ok (.invokevirtual 43, 3) := by decide +kernel
theorem dX4_readsAll_13 : decode cX4_readsAll 13 = .ok (.ifCond .eq 15, 3) := by decide +kernel
theorem dX4_readsAll_16 : decode cX4_readsAll 16 = .ok (.aload_n 0, 1) := by decide +kernel
theorem dX4_readsAll_17 : decode cX4_readsAll 17 = .ok (.aload_n 1, 1) := by decide +kernel
theorem dX4_readsAll_18 : decode cX4_readsAll 18 = .ok (.invokevirtual 46, 3) := by decide +kernel
theorem dX4_readsAll_21 : decode cX4_readsAll 21 = .ok (.ifCond .eq 7, 3) := by decide +kernel
theorem dX4_readsAll_24 : decode cX4_readsAll 24 = .ok (.iconst 1, 1) := by decide +kernel
theorem dX4_readsAll_25 : decode cX4_readsAll 25 = .ok (.goto 4, 3) := by decide +kernel
theorem dX4_readsAll_28 : decode cX4_readsAll 28 = .ok (.iconst 0, 1) := by decide +kernel
theorem dX4_readsAll_29 : decode cX4_readsAll 29 = .ok (.ireturn, 1) := by decide +kernel
set_option maxRecDepth 20000 in
theorem ggX4_readsHead_X3_takes : GoodIn wsX4_readsHead wsX3_takes := goodIn_r _ [7, 8, 9, 10, 6, 11, 12, 13, 14, 24, 25, 26] (by decide +kernel) (by decide +kernel)
set_option maxRecDepth 20000 in
theorem gX4_readsHead_X3_takes : GoodIn wsX4_readsHead (wsV RX4 49 RX3 yX3_takes wsX3_takes) := goodIn_app (goodIn_of _ (by decide +kernel)) ggX4_readsHead_X3_takes
set_option maxRecDepth 20000 in
theorem ggX4_readsHead_X3_takesDigit : GoodIn wsX4_readsHead wsX3_takesDigit := goodIn_r _ [11, 12, 13, 14, 24, 25, 26] (by decide +kernel) (by decide +kernel)
set_option maxRecDepth 20000 in
theorem gX4_readsHead_X3_takesDigit : GoodIn wsX4_readsHead (wsV RX4 55 RX3 yX3_takesDigit wsX3_takesDigit) := goodIn_app (goodIn_of _ (by decide +kernel)) ggX4_readsHead_X3_takesDigit
theorem dX4_readsHead_0 : decode cX4_readsHead 0 = .ok (.aload_n 1, 1) := by decide +kernel
theorem dX4_readsHead_1 : decode cX4_readsHead 1 = .ok (.bipush 120, 2) := by decide +kernel
theorem dX4_readsHead_3 : decode cX4_readsHead 3 = .ok (.invokevirtual 49, 3) := by decide +kernel
theorem dX4_readsHead_6 : decode cX4_readsHead 6 = .ok (.ifCond .ne 5, 3) := by decide +kernel
theorem dX4_readsHead_9 : decode cX4_readsHead 9 = .ok (.iconst 0, 1) := by decide +kernel
theorem dX4_readsHead_10 : decode cX4_readsHead 10 = .ok (.ireturn, 1) := by decide +kernel
theorem dX4_readsHead_11 : decode cX4_readsHead 11 = .ok (.aload_n 1, 1) := by decide +kernel
theorem dX4_readsHead_12 : decode cX4_readsHead 12 = .ok (.bipush 50, 2) := by decide +kernel
theorem dX4_readsHead_14 : decode cX4_readsHead 14 = .ok (.bipush 52, 2) := by decide +kernel
theorem dX4_readsHead_16 : decode cX4_readsHead 16 = .ok (.invokevirtual 55, 3) := by decide +kernel
theorem dX4_readsHead_19 : decode cX4_readsHead 19 = .ok (.istore_n 2, 1) := by decide +kernel
theorem dX4_readsHead_20 : decode cX4_readsHead 20 = .ok (.iload_n 2, 1) := by decide +kernel
theorem dX4_readsHead_21 : decode cX4_readsHead 21 = .ok (.bipush (-9), 2) := by decide +kernel
theorem dX4_readsHead_23 : decode cX4_readsHead 23 = .ok (.if_icmp .ne 5, 3) := by decide +kernel
theorem dX4_readsHead_26 : decode cX4_readsHead 26 = .ok (.iconst 0, 1) := by decide +kernel
theorem dX4_readsHead_27 : decode cX4_readsHead 27 = .ok (.ireturn, 1) := by decide +kernel
theorem dX4_readsHead_28 : decode cX4_readsHead 28 = .ok (.aload_n 1, 1) := by decide +kernel
theorem dX4_readsHead_29 : decode cX4_readsHead 29 = .ok (.bipush 49, 2) := by decide +kernel
theorem dX4_readsHead_31 : decode cX4_readsHead 31 = .ok (.bipush 54, 2) := by decide +kernel
theorem dX4_readsHead_33 : decode cX4_readsHead 33 = .ok (.invokevirtual 55, 3) := by decide +kernel
theorem dX4_readsHead_36 : decode cX4_readsHead 36 = .ok (.istore_n 3, 1) := by decide +kernel
theorem dX4_readsHead_37 : decode cX4_readsHead 37 = .ok (.iload_n 3, 1) := by decide +kernel
theorem dX4_readsHead_38 : decode cX4_readsHead 38 = .ok (.bipush (-9), 2) := by decide +kernel
theorem dX4_readsHead_40 : decode cX4_readsHead 40 = .ok (.if_icmp .ne 5, 3) := by decide +kernel
theorem dX4_readsHead_43 : decode cX4_readsHead 43 = .ok (.iconst 0, 1) := by decide +kernel
theorem dX4_readsHead_44 : decode cX4_readsHead 44 = .ok (.ireturn, 1) := by decide +kernel
theorem dX4_readsHead_45 : decode cX4_readsHead 45 = .ok (.aload_n 0, 1) := by decide +kernel
theorem dX4_readsHead_46 : decode cX4_readsHead 46 = .ok (.iconst 2, 1) := by decide +kernel
theorem dX4_readsHead_47 : decode cX4_readsHead 47 = .ok (.iload_n 2, 1) := by decide +kernel
theorem dX4_readsHead_48 : decode cX4_readsHead 48 = .ok (.iadd, 1) := by decide +kernel
theorem dX4_readsHead_49 : decode cX4_readsHead 49 = .ok (.putfield 9, 3) := by decide +kernel
theorem dX4_readsHead_52 : decode cX4_readsHead 52 = .ok (.aload_n 0, 1) := by decide +kernel
theorem dX4_readsHead_53 : decode cX4_readsHead 53 = .ok (.iconst 1, 1) := by decide +kernel
theorem dX4_readsHead_54 : decode cX4_readsHead 54 = .ok (.iload_n 3, 1) := by decide +kernel
theorem dX4_readsHead_55 : decode cX4_readsHead 55 = .ok (.iadd, 1) := by decide +kernel
theorem dX4_readsHead_56 : decode cX4_readsHead 56 = .ok (.putfield 15, 3) := by decide +kernel
theorem dX4_readsHead_59 : decode cX4_readsHead 59 = .ok (.iconst 1, 1) := by decide +kernel
theorem dX4_readsHead_60 : decode cX4_readsHead 60 = .ok (.ireturn, 1) := by decide +kernel
set_option maxRecDepth 20000 in
theorem ggX4_readsGains_X3_takes : GoodIn wsX4_readsGains wsX3_takes := goodIn_r _ [8, 9, 10, 11, 7, 12, 13, 14, 15, 25, 26, 27] (by decide +kernel) (by decide +kernel)
set_option maxRecDepth 20000 in
theorem gX4_readsGains_X3_takes : GoodIn wsX4_readsGains (wsV RX4 49 RX3 yX3_takes wsX3_takes) := goodIn_app (goodIn_of _ (by decide +kernel)) ggX4_readsGains_X3_takes
set_option maxRecDepth 20000 in
theorem ggX4_readsGains_X3_takesDigit : GoodIn wsX4_readsGains wsX3_takesDigit := goodIn_r _ [12, 13, 14, 15, 25, 26, 27] (by decide +kernel) (by decide +kernel)
set_option maxRecDepth 20000 in
theorem gX4_readsGains_X3_takesDigit : GoodIn wsX4_readsGains (wsV RX4 55 RX3 yX3_takesDigit wsX3_takesDigit) := goodIn_app (goodIn_of _ (by decide +kernel)) ggX4_readsGains_X3_takesDigit
theorem dX4_readsGains_0 : decode cX4_readsGains 0 = .ok (.iconst 0, 1) := by decide +kernel
theorem dX4_readsGains_1 : decode cX4_readsGains 1 = .ok (.istore_n 2, 1) := by decide +kernel
theorem dX4_readsGains_2 : decode cX4_readsGains 2 = .ok (.iload_n 2, 1) := by decide +kernel
theorem dX4_readsGains_3 : decode cX4_readsGains 3 = .ok (.aload_n 0, 1) := by decide +kernel
theorem dX4_readsGains_4 : decode cX4_readsGains 4 = .ok (.getfield 9, 3) := by decide +kernel
theorem dX4_readsGains_7 : decode cX4_readsGains 7 = .ok (.if_icmp .ge 67, 3) := by decide +kernel
theorem dX4_readsGains_10 : decode cX4_readsGains 10 = .ok (.aload_n 1, 1) := by decide +kernel
theorem dX4_readsGains_11 : decode cX4_readsGains 11 = .ok (.bipush 47, 2) := by decide +kernel
theorem dX4_readsGains_13 : decode cX4_readsGains 13 = .ok (.invokevirtual 49, 3) := by decide +kernel
theorem dX4_readsGains_16 : decode cX4_readsGains 16 = .ok (.ifCond .ne 5, 3) := by decide +kernel
theorem dX4_readsGains_19 : decode cX4_readsGains 19 = .ok (.iconst 0, 1) := by decide +kernel
theorem dX4_readsGains_20 : decode cX4_readsGains 20 = .ok (.ireturn, 1) := by decide +kernel
theorem dX4_readsGains_21 : decode cX4_readsGains 21 = .ok (.iconst 0, 1) := by decide +kernel
theorem dX4_readsGains_22 : decode cX4_readsGains 22 = .ok (.istore_n 3, 1) := by decide +kernel
theorem dX4_readsGains_23 : decode cX4_readsGains 23 = .ok (.iload_n 3, 1) := by decide +kernel
theorem dX4_readsGains_24 : decode cX4_readsGains 24 = .ok (.aload_n 0, 1) := by decide +kernel
theorem dX4_readsGains_25 : decode cX4_readsGains 25 = .ok (.getfield 15, 3) := by decide +kernel
theorem dX4_readsGains_28 : decode cX4_readsGains 28 = .ok (.if_icmp .ge 40, 3) := by decide +kernel
theorem dX4_readsGains_31 : decode cX4_readsGains 31 = .ok (.aload_n 0, 1) := by decide +kernel
theorem dX4_readsGains_32 : decode cX4_readsGains 32 = .ok (.getfield 23, 3) := by decide +kernel
theorem dX4_readsGains_35 : decode cX4_readsGains 35 = .ok (.iload_n 2, 1) := by decide +kernel
theorem dX4_readsGains_36 : decode cX4_readsGains 36 = .ok (.aaload, 1) := by decide +kernel
theorem dX4_readsGains_37 : decode cX4_readsGains 37 = .ok (.iload_n 3, 1) := by decide +kernel
theorem dX4_readsGains_38 : decode cX4_readsGains 38 = .ok (.aload_n 1, 1) := by decide +kernel
theorem dX4_readsGains_39 : decode cX4_readsGains 39 = .ok (.bipush 48, 2) := by decide +kernel
theorem dX4_readsGains_41 : decode cX4_readsGains 41 = .ok (.bipush 57, 2) := by decide +kernel
theorem dX4_readsGains_43 : decode cX4_readsGains 43 = .ok (.invokevirtual 55, 3) := by decide +kernel
theorem dX4_readsGains_46 : decode cX4_readsGains 46 = .ok (.iastore, 1) := by decide +kernel
theorem dX4_readsGains_47 : decode cX4_readsGains 47 = .ok (.aload_n 0, 1) := by decide +kernel
theorem dX4_readsGains_48 : decode cX4_readsGains 48 = .ok (.getfield 23, 3) := by decide +kernel
theorem dX4_readsGains_51 : decode cX4_readsGains 51 = .ok (.iload_n 2, 1) := by decide +kernel
theorem dX4_readsGains_52 : decode cX4_readsGains 52 = .ok (.aaload, 1) := by decide +kernel
theorem dX4_readsGains_53 : decode cX4_readsGains 53 = .ok (.iload_n 3, 1) := by decide +kernel
theorem dX4_readsGains_54 : decode cX4_readsGains 54 = .ok (.iaload, 1) := by decide +kernel
theorem dX4_readsGains_55 : decode cX4_readsGains 55 = .ok (.bipush (-9), 2) := by decide +kernel
theorem dX4_readsGains_57 : decode cX4_readsGains 57 = .ok (.if_icmp .ne 5, 3) := by decide +kernel
theorem dX4_readsGains_60 : decode cX4_readsGains 60 = .ok (.iconst 0, 1) := by decide +kernel
theorem dX4_readsGains_61 : decode cX4_readsGains 61 = .ok (.ireturn, 1) := by decide +kernel
theorem dX4_readsGains_62 : decode cX4_readsGains 62 = .ok (.iinc 3 1, 3) := by decide +kernel
theorem dX4_readsGains_65 : decode cX4_readsGains 65 = .ok (.goto (-42), 3) := by decide +kernel
theorem dX4_readsGains_68 : decode cX4_readsGains 68 = .ok (.iinc 2 1, 3) := by decide +kernel
theorem dX4_readsGains_71 : decode cX4_readsGains 71 = .ok (.goto (-69), 3) := by decide +kernel
theorem dX4_readsGains_74 : decode cX4_readsGains 74 = .ok (.iconst 1, 1) := by decide +kernel
theorem dX4_readsGains_75 : decode cX4_readsGains 75 = .ok (.ireturn, 1) := by decide +kernel
set_option maxRecDepth 20000 in
theorem ggX4_readsSons_X4_readsSon : GoodIn wsX4_readsSons wsX4_readsSon := goodIn_r _ [6, 7, 8, 9, 10, 11, 12, 13, 14, 15, 16, 17, 18, 19, 20, 21, 22, 23, 24, 25, 26, 27, 28, 29, 34, 35, 36, 37, 38, 39, 40, 41, 42, 43, 44] (by decide +kernel) (by decide +kernel)
set_option maxRecDepth 20000 in
theorem gX4_readsSons_X4_readsSon : GoodIn wsX4_readsSons (wsV RX4 59 RX4 yX4_readsSon wsX4_readsSon) := goodIn_app (goodIn_of _ (by decide +kernel)) ggX4_readsSons_X4_readsSon
set_option maxRecDepth 20000 in
theorem ggX4_readsSons_X3_isAtEnd : GoodIn wsX4_readsSons wsX3_isAtEnd := goodIn_r _ [33, 21, 22, 42, 43, 44] (by decide +kernel) (by decide +kernel)
set_option maxRecDepth 20000 in
theorem gX4_readsSons_X3_isAtEnd : GoodIn wsX4_readsSons (wsV RX4 63 RX3 yX3_isAtEnd wsX3_isAtEnd) := goodIn_app (goodIn_of _ (by decide +kernel)) ggX4_readsSons_X3_isAtEnd
theorem dX4_readsSons_0 : decode cX4_readsSons 0 = .ok (.iconst 0, 1) := by decide +kernel
theorem dX4_readsSons_1 : decode cX4_readsSons 1 = .ok (.istore_n 2, 1) := by decide +kernel
theorem dX4_readsSons_2 : decode cX4_readsSons 2 = .ok (.iload_n 2, 1) := by decide +kernel
theorem dX4_readsSons_3 : decode cX4_readsSons 3 = .ok (.iconst 5, 1) := by decide +kernel
theorem dX4_readsSons_4 : decode cX4_readsSons 4 = .ok (.if_icmp .ge 36, 3) := by decide +kernel
theorem dX4_readsSons_7 : decode cX4_readsSons 7 = .ok (.aload_n 0, 1) := by decide +kernel
theorem dX4_readsSons_8 : decode cX4_readsSons 8 = .ok (.aload_n 1, 1) := by decide +kernel
theorem dX4_readsSons_9 : decode cX4_readsSons 9 = .ok (.iload_n 2, 1) := by decide +kernel
theorem dX4_readsSons_10 : decode cX4_readsSons 10 = .ok (.invokevirtual 59, 3) := by decide +kernel
theorem dX4_readsSons_13 : decode cX4_readsSons 13 = .ok (.ifCond .ne 5, 3) := by decide +kernel
theorem dX4_readsSons_16 : decode cX4_readsSons 16 = .ok (.iconst 0, 1) := by decide +kernel
theorem dX4_readsSons_17 : decode cX4_readsSons 17 = .ok (.ireturn, 1) := by decide +kernel
theorem dX4_readsSons_18 : decode cX4_readsSons 18 = .ok (.aload_n 0, 1) := by decide +kernel
theorem dX4_readsSons_19 : decode cX4_readsSons 19 = .ok (.iload_n 2, 1) := by decide +kernel
theorem dX4_readsSons_20 : decode cX4_readsSons 20 = .ok (.iconst 1, 1) := by decide +kernel
theorem dX4_readsSons_21 : decode cX4_readsSons 21 = .ok (.iadd, 1) := by decide +kernel
theorem dX4_readsSons_22 : decode cX4_readsSons 22 = .ok (.putfield 18, 3) := by decide +kernel
theorem dX4_readsSons_25 : decode cX4_readsSons 25 = .ok (.aload_n 1, 1) := by decide +kernel
theorem dX4_readsSons_26 : decode cX4_readsSons 26 = .ok (.invokevirtual 63, 3) := by decide +kernel
theorem dX4_readsSons_29 : decode cX4_readsSons 29 = .ok (.ifCond .eq 5, 3) := by decide +kernel
theorem dX4_readsSons_32 : decode cX4_readsSons 32 = .ok (.iconst 1, 1) := by decide +kernel
theorem dX4_readsSons_33 : decode cX4_readsSons 33 = .ok (.ireturn, 1) := by decide +kernel
theorem dX4_readsSons_34 : decode cX4_readsSons 34 = .ok (.iinc 2 1, 3) := by decide +kernel
theorem dX4_readsSons_37 : decode cX4_readsSons 37 = .ok (.goto (-35), 3) := by decide +kernel
theorem dX4_readsSons_40 : decode cX4_readsSons 40 = .ok (.iconst 0, 1) := by decide +kernel
theorem dX4_readsSons_41 : decode cX4_readsSons 41 = .ok (.ireturn, 1) := by decide +kernel
set_option maxRecDepth 20000 in
theorem ggX4_readsSon_X3_takes : GoodIn wsX4_readsSon wsX3_takes := goodIn_r _ [10, 11, 12, 13, 9, 14, 15, 16, 17, 32, 33, 34] (by decide +kernel) (by decide +kernel)
set_option maxRecDepth 20000 in
theorem gX4_readsSon_X3_takes : GoodIn wsX4_readsSon (wsV RX4 49 RX3 yX3_takes wsX3_takes) := goodIn_app (goodIn_of _ (by decide +kernel)) ggX4_readsSon_X3_takes
set_option maxRecDepth 20000 in
theorem ggX4_readsSon_X3_takesKind : GoodIn wsX4_readsSon wsX3_takesKind := goodIn_r _ [21, 22, 7, 8, 9, 10, 11, 12, 13, 14, 15, 16, 17, 32, 33, 34] (by decide +kernel) (by decide +kernel)
set_option maxRecDepth 20000 in
theorem gX4_readsSon_X3_takesKind : GoodIn wsX4_readsSon (wsV RX4 67 RX3 yX3_takesKind wsX3_takesKind) := goodIn_app (goodIn_of _ (by decide +kernel)) ggX4_readsSon_X3_takesKind
set_option maxRecDepth 20000 in
theorem ggX4_readsSon_X3_takesDigit : GoodIn wsX4_readsSon wsX3_takesDigit := goodIn_r _ [14, 15, 16, 17, 32, 33, 34] (by decide +kernel) (by decide +kernel)
set_option maxRecDepth 20000 in
theorem gX4_readsSon_X3_takesDigit : GoodIn wsX4_readsSon (wsV RX4 55 RX3 yX3_takesDigit wsX3_takesDigit) := goodIn_app (goodIn_of _ (by decide +kernel)) ggX4_readsSon_X3_takesDigit
theorem dX4_readsSon_0 : decode cX4_readsSon 0 = .ok (.aload_n 1, 1) := by decide +kernel
theorem dX4_readsSon_1 : decode cX4_readsSon 1 = .ok (.bipush 44, 2) := by decide +kernel
theorem dX4_readsSon_3 : decode cX4_readsSon 3 = .ok (.invokevirtual 49, 3) := by decide +kernel
theorem dX4_readsSon_6 : decode cX4_readsSon 6 = .ok (.ifCond .ne 5, 3) := by decide +kernel
theorem dX4_readsSon_9 : decode cX4_readsSon 9 = .ok (.iconst 0, 1) := by decide +kernel
theorem dX4_readsSon_10 : decode cX4_readsSon 10 = .ok (.ireturn, 1) := by decide +kernel
theorem dX4_readsSon_11 : decode cX4_readsSon 11 = .ok (.aload_n 0, 1) := by decide +kernel
theorem dX4_readsSon_12 : decode cX4_readsSon 12 = .ok (.getfield 26, 3) := by decide +kernel
theorem dX4_readsSon_15 : decode cX4_readsSon 15 = .ok (.iload_n 2, 1) := by decide +kernel
theorem dX4_readsSon_16 : decode cX4_readsSon 16 = .ok (.aload_n 1, 1) := by decide +kernel
theorem dX4_readsSon_17 : decode cX4_readsSon 17 = .ok (.invokevirtual 67, 3) := by decide +kernel
theorem dX4_readsSon_20 : decode cX4_readsSon 20 = .ok (.iastore, 1) := by decide +kernel
theorem dX4_readsSon_21 : decode cX4_readsSon 21 = .ok (.aload_n 0, 1) := by decide +kernel
theorem dX4_readsSon_22 : decode cX4_readsSon 22 = .ok (.getfield 26, 3) := by decide +kernel
theorem dX4_readsSon_25 : decode cX4_readsSon 25 = .ok (.iload_n 2, 1) := by decide +kernel
theorem dX4_readsSon_26 : decode cX4_readsSon 26 = .ok (.iaload, 1) := by decide +kernel
theorem dX4_readsSon_27 : decode cX4_readsSon 27 = .ok (.bipush (-9), 2) := by decide +kernel
theorem dX4_readsSon_29 : decode cX4_readsSon 29 = .ok (.if_icmp .ne 5, 3) := by decide +kernel
theorem dX4_readsSon_32 : decode cX4_readsSon 32 = .ok (.iconst 0, 1) := by decide +kernel
theorem dX4_readsSon_33 : decode cX4_readsSon 33 = .ok (.ireturn, 1) := by decide +kernel
theorem dX4_readsSon_34 : decode cX4_readsSon 34 = .ok (.aload_n 0, 1) := by decide +kernel
theorem dX4_readsSon_35 : decode cX4_readsSon 35 = .ok (.getfield 30, 3) := by decide +kernel
theorem dX4_readsSon_38 : decode cX4_readsSon 38 = .ok (.iload_n 2, 1) := by decide +kernel
theorem dX4_readsSon_39 : decode cX4_readsSon 39 = .ok (.aload_n 1, 1) := by decide +kernel
theorem dX4_readsSon_40 : decode cX4_readsSon 40 = .ok (.bipush 48, 2) := by decide +kernel
theorem dX4_readsSon_42 : decode cX4_readsSon 42 = .ok (.bipush 48, 2) := by decide +kernel
theorem dX4_readsSon_44 : decode cX4_readsSon 44 = .ok (.aload_n 0, 1) := by decide +kernel
theorem dX4_readsSon_45 : decode cX4_readsSon 45 = .ok (.getfield 9, 3) := by decide +kernel
theorem dX4_readsSon_48 : decode cX4_readsSon 48 = .ok (.iadd, 1) := by decide +kernel
theorem dX4_readsSon_49 : decode cX4_readsSon 49 = .ok (.iconst 1, 1) := by decide +kernel
theorem dX4_readsSon_50 : decode cX4_readsSon 50 = .ok (.isub, 1) := by decide +kernel
theorem dX4_readsSon_51 : decode cX4_readsSon 51 = .ok (.invokevirtual 55, 3) := by decide +kernel
theorem dX4_readsSon_54 : decode cX4_readsSon 54 = .ok (.iastore, 1) := by decide +kernel
theorem dX4_readsSon_55 : decode cX4_readsSon 55 = .ok (.aload_n 0, 1) := by decide +kernel
theorem dX4_readsSon_56 : decode cX4_readsSon 56 = .ok (.getfield 30, 3) := by decide +kernel
theorem dX4_readsSon_59 : decode cX4_readsSon 59 = .ok (.iload_n 2, 1) := by decide +kernel
theorem dX4_readsSon_60 : decode cX4_readsSon 60 = .ok (.iaload, 1) := by decide +kernel
theorem dX4_readsSon_61 : decode cX4_readsSon 61 = .ok (.bipush (-9), 2) := by decide +kernel
theorem dX4_readsSon_63 : decode cX4_readsSon 63 = .ok (.if_icmp .ne 5, 3) := by decide +kernel
theorem dX4_readsSon_66 : decode cX4_readsSon 66 = .ok (.iconst 0, 1) := by decide +kernel
theorem dX4_readsSon_67 : decode cX4_readsSon 67 = .ok (.ireturn, 1) := by decide +kernel
theorem dX4_readsSon_68 : decode cX4_readsSon 68 = .ok (.aload_n 0, 1) := by decide +kernel
theorem dX4_readsSon_69 : decode cX4_readsSon 69 = .ok (.getfield 33, 3) := by decide +kernel
theorem dX4_readsSon_72 : decode cX4_readsSon 72 = .ok (.iload_n 2, 1) := by decide +kernel
theorem dX4_readsSon_73 : decode cX4_readsSon 73 = .ok (.aload_n 1, 1) := by decide +kernel
theorem dX4_readsSon_74 : decode cX4_readsSon 74 = .ok (.bipush 48, 2) := by decide +kernel
theorem dX4_readsSon_76 : decode cX4_readsSon 76 = .ok (.bipush 57, 2) := by decide +kernel
theorem dX4_readsSon_78 : decode cX4_readsSon 78 = .ok (.invokevirtual 55, 3) := by decide +kernel
theorem dX4_readsSon_81 : decode cX4_readsSon 81 = .ok (.iastore, 1) := by decide +kernel
theorem dX4_readsSon_82 : decode cX4_readsSon 82 = .ok (.aload_n 0, 1) := by decide +kernel
theorem dX4_readsSon_83 : decode cX4_readsSon 83 = .ok (.getfield 33, 3) := by decide +kernel
theorem dX4_readsSon_86 : decode cX4_readsSon 86 = .ok (.iload_n 2, 1) := by decide +kernel
theorem dX4_readsSon_87 : decode cX4_readsSon 87 = .ok (.iaload, 1) := by decide +kernel
theorem dX4_readsSon_88 : decode cX4_readsSon 88 = .ok (.bipush (-9), 2) := by decide +kernel
theorem dX4_readsSon_90 : decode cX4_readsSon 90 = .ok (.if_icmp .ne 5, 3) := by decide +kernel
theorem dX4_readsSon_93 : decode cX4_readsSon 93 = .ok (.iconst 0, 1) := by decide +kernel
theorem dX4_readsSon_94 : decode cX4_readsSon 94 = .ok (.ireturn, 1) := by decide +kernel
theorem dX4_readsSon_95 : decode cX4_readsSon 95 = .ok (.aload_n 0, 1) := by decide +kernel
theorem dX4_readsSon_96 : decode cX4_readsSon 96 = .ok (.getfield 36, 3) := by decide +kernel
theorem dX4_readsSon_99 : decode cX4_readsSon 99 = .ok (.iload_n 2, 1) := by decide +kernel
theorem dX4_readsSon_100 : decode cX4_readsSon 100 = .ok (.aload_n 1, 1) := by decide +kernel
theorem dX4_readsSon_101 : decode cX4_readsSon 101 = .ok (.bipush 48, 2) := by decide +kernel
theorem dX4_readsSon_103 : decode cX4_readsSon 103 = .ok (.bipush 51, 2) := by decide +kernel
theorem dX4_readsSon_105 : decode cX4_readsSon 105 = .ok (.invokevirtual 55, 3) := by decide +kernel
theorem dX4_readsSon_108 : decode cX4_readsSon 108 = .ok (.iastore, 1) := by decide +kernel
theorem dX4_readsSon_109 : decode cX4_readsSon 109 = .ok (.aload_n 0, 1) := by decide +kernel
theorem dX4_readsSon_110 : decode cX4_readsSon 110 = .ok (.getfield 36, 3) := by decide +kernel
theorem dX4_readsSon_113 : decode cX4_readsSon 113 = .ok (.iload_n 2, 1) := by decide +kernel
theorem dX4_readsSon_114 : decode cX4_readsSon 114 = .ok (.iaload, 1) := by decide +kernel
theorem dX4_readsSon_115 : decode cX4_readsSon 115 = .ok (.bipush (-9), 2) := by decide +kernel
theorem dX4_readsSon_117 : decode cX4_readsSon 117 = .ok (.if_icmp .eq 7, 3) := by decide +kernel
theorem dX4_readsSon_120 : decode cX4_readsSon 120 = .ok (.iconst 1, 1) := by decide +kernel
theorem dX4_readsSon_121 : decode cX4_readsSon 121 = .ok (.goto 4, 3) := by decide +kernel
theorem dX4_readsSon_124 : decode cX4_readsSon 124 = .ok (.iconst 0, 1) := by decide +kernel
theorem dX4_readsSon_125 : decode cX4_readsSon 125 = .ok (.ireturn, 1) := by decide +kernel
theorem dX4_costOf_0 : decode cX4_costOf 0 = .ok (.aload_n 0, 1) := by decide +kernel
theorem dX4_costOf_1 : decode cX4_costOf 1 = .ok (.getfield 33, 3) := by decide +kernel
theorem dX4_costOf_4 : decode cX4_costOf 4 = .ok (.iload_n 1, 1) := by decide +kernel
theorem dX4_costOf_5 : decode cX4_costOf 5 = .ok (.iaload, 1) := by decide +kernel
theorem dX4_costOf_6 : decode cX4_costOf 6 = .ok (.aload_n 0, 1) := by decide +kernel
theorem dX4_costOf_7 : decode cX4_costOf 7 = .ok (.getfield 36, 3) := by decide +kernel
theorem dX4_costOf_10 : decode cX4_costOf 10 = .ok (.iload_n 1, 1) := by decide +kernel
theorem dX4_costOf_11 : decode cX4_costOf 11 = .ok (.iaload, 1) := by decide +kernel
theorem dX4_costOf_12 : decode cX4_costOf 12 = .ok (.iload_n 3, 1) := by decide +kernel
theorem dX4_costOf_13 : decode cX4_costOf 13 = .ok (.imul, 1) := by decide +kernel
theorem dX4_costOf_14 : decode cX4_costOf 14 = .ok (.isub, 1) := by decide +kernel
theorem dX4_costOf_15 : decode cX4_costOf 15 = .ok (.istore 4, 2) := by decide +kernel
theorem dX4_costOf_17 : decode cX4_costOf 17 = .ok (.iload 4, 2) := by decide +kernel
theorem dX4_costOf_19 : decode cX4_costOf 19 = .ok (.ifCond .ge 7, 3) := by decide +kernel
theorem dX4_costOf_22 : decode cX4_costOf 22 = .ok (.iconst 0, 1) := by decide +kernel
theorem dX4_costOf_23 : decode cX4_costOf 23 = .ok (.goto 5, 3) := by decide +kernel
theorem dX4_costOf_26 : decode cX4_costOf 26 = .ok (.iload 4, 2) := by decide +kernel
theorem dX4_costOf_28 : decode cX4_costOf 28 = .ok (.istore 5, 2) := by decide +kernel
theorem dX4_costOf_30 : decode cX4_costOf 30 = .ok (.iload_n 2, 1) := by decide +kernel
theorem dX4_costOf_31 : decode cX4_costOf 31 = .ok (.lookupswitch 35 #[(1, 30), (2, 25)], 25) := by decide +kernel
theorem dX4_costOf_56 : decode cX4_costOf 56 = .ok (.iload 5, 2) := by decide +kernel
theorem dX4_costOf_58 : decode cX4_costOf 58 = .ok (.iconst 2, 1) := by decide +kernel
theorem dX4_costOf_59 : decode cX4_costOf 59 = .ok (.idiv, 1) := by decide +kernel
theorem dX4_costOf_60 : decode cX4_costOf 60 = .ok (.ireturn, 1) := by decide +kernel
theorem dX4_costOf_61 : decode cX4_costOf 61 = .ok (.iload 5, 2) := by decide +kernel
theorem dX4_costOf_63 : decode cX4_costOf 63 = .ok (.iconst 2, 1) := by decide +kernel
theorem dX4_costOf_64 : decode cX4_costOf 64 = .ok (.iadd, 1) := by decide +kernel
theorem dX4_costOf_65 : decode cX4_costOf 65 = .ok (.ireturn, 1) := by decide +kernel
theorem dX4_costOf_66 : decode cX4_costOf 66 = .ok (.iload 5, 2) := by decide +kernel
theorem dX4_costOf_68 : decode cX4_costOf 68 = .ok (.ireturn, 1) := by decide +kernel
set_option maxRecDepth 20000 in
theorem ggX4_costsOf_X1_isAway : GoodIn wsX4_costsOf wsX1_isAway := goodIn_r _ [9, 10, 26, 27] (by decide +kernel) (by decide +kernel)
set_option maxRecDepth 20000 in
theorem gX4_costsOf_X1_isAway : GoodIn wsX4_costsOf (wsV RX4 71 RX1 yX1_isAway wsX1_isAway) := goodIn_app (goodIn_of _ (by decide +kernel)) ggX4_costsOf_X1_isAway
set_option maxRecDepth 20000 in
theorem ggX4_costsOf_X4_costOf : GoodIn wsX4_costsOf wsX4_costOf := goodIn_r _ [15, 16, 17, 18, 19, 20, 21, 22, 23, 24, 25] (by decide +kernel) (by decide +kernel)
set_option maxRecDepth 20000 in
theorem gX4_costsOf_X4_costOf : GoodIn wsX4_costsOf (wsV RX4 80 RX4 yX4_costOf wsX4_costOf) := goodIn_app (goodIn_of _ (by decide +kernel)) ggX4_costsOf_X4_costOf
theorem dX4_costsOf_0 : decode cX4_costsOf 0 = .ok (.iconst 0, 1) := by decide +kernel
theorem dX4_costsOf_1 : decode cX4_costsOf 1 = .ok (.istore 5, 2) := by decide +kernel
theorem dX4_costsOf_3 : decode cX4_costsOf 3 = .ok (.iconst 0, 1) := by decide +kernel
theorem dX4_costsOf_4 : decode cX4_costsOf 4 = .ok (.istore 6, 2) := by decide +kernel
theorem dX4_costsOf_6 : decode cX4_costsOf 6 = .ok (.iload 6, 2) := by decide +kernel
theorem dX4_costsOf_8 : decode cX4_costsOf 8 = .ok (.aload_n 0, 1) := by decide +kernel
theorem dX4_costsOf_9 : decode cX4_costsOf 9 = .ok (.getfield 18, 3) := by decide +kernel
theorem dX4_costsOf_12 : decode cX4_costsOf 12 = .ok (.if_icmp .ge 76, 3) := by decide +kernel
theorem dX4_costsOf_15 : decode cX4_costsOf 15 = .ok (.aload_n 0, 1) := by decide +kernel
theorem dX4_costsOf_16 : decode cX4_costsOf 16 = .ok (.getfield 30, 3) := by decide +kernel
theorem dX4_costsOf_19 : decode cX4_costsOf 19 = .ok (.iload 6, 2) := by decide +kernel
theorem dX4_costsOf_21 : decode cX4_costsOf 21 = .ok (.iaload, 1) := by decide +kernel
theorem dX4_costsOf_22 : decode cX4_costsOf 22 = .ok (.iload_n 1, 1) := by decide +kernel
theorem dX4_costsOf_23 : decode cX4_costsOf 23 = .ok (.if_icmp .ne 59, 3) := by decide +kernel
theorem dX4_costsOf_26 : decode cX4_costsOf 26 = .ok (.aload_n 3, 1) := by decide +kernel
theorem dX4_costsOf_27 : decode cX4_costsOf 27 = .ok (.iload 6, 2) := by decide +kernel
theorem dX4_costsOf_29 : decode cX4_costsOf 29 = .ok (.iload_n 2, 1) := by decide +kernel
theorem dX4_costsOf_30 : decode cX4_costsOf 30 = .ok (.invokevirtual 71, 3) := by decide +kernel
theorem dX4_costsOf_33 : decode cX4_costsOf 33 = .ok (.ifCond .eq 49, 3) := by decide +kernel
theorem dX4_costsOf_36 : decode cX4_costsOf 36 = .ok (.iload 4, 2) := by decide +kernel
theorem dX4_costsOf_38 : decode cX4_costsOf 38 = .ok (.iload 6, 2) := by decide +kernel
theorem dX4_costsOf_40 : decode cX4_costsOf 40 = .ok (.ishr, 1) := by decide +kernel
theorem dX4_costsOf_41 : decode cX4_costsOf 41 = .ok (.iconst 1, 1) := by decide +kernel
theorem dX4_costsOf_42 : decode cX4_costsOf 42 = .ok (.iand, 1) := by decide +kernel
theorem dX4_costsOf_43 : decode cX4_costsOf 43 = .ok (.iconst 1, 1) := by decide +kernel
theorem dX4_costsOf_44 : decode cX4_costsOf 44 = .ok (.if_icmp .ne 7, 3) := by decide +kernel
theorem dX4_costsOf_47 : decode cX4_costsOf 47 = .ok (.iconst 2, 1) := by decide +kernel
theorem dX4_costsOf_48 : decode cX4_costsOf 48 = .ok (.goto 10, 3) := by decide +kernel
theorem dX4_costsOf_51 : decode cX4_costsOf 51 = .ok (.aload_n 0, 1) := by decide +kernel
theorem dX4_costsOf_52 : decode cX4_costsOf 52 = .ok (.getfield 26, 3) := by decide +kernel
theorem dX4_costsOf_55 : decode cX4_costsOf 55 = .ok (.iload 6, 2) := by decide +kernel
theorem dX4_costsOf_57 : decode cX4_costsOf 57 = .ok (.iaload, 1) := by decide +kernel
theorem dX4_costsOf_58 : decode cX4_costsOf 58 = .ok (.istore 7, 2) := by decide +kernel
theorem dX4_costsOf_60 : decode cX4_costsOf 60 = .ok (.iload 5, 2) := by decide +kernel
theorem dX4_costsOf_62 : decode cX4_costsOf 62 = .ok (.aload_n 0, 1) := by decide +kernel
theorem dX4_costsOf_63 : decode cX4_costsOf 63 = .ok (.iload 6, 2) := by decide +kernel
theorem dX4_costsOf_65 : decode cX4_costsOf 65 = .ok (.iload 7, 2) := by decide +kernel
theorem dX4_costsOf_67 : decode cX4_costsOf 67 = .ok (.iload_n 2, 1) := by decide +kernel
theorem dX4_costsOf_68 : decode cX4_costsOf 68 = .ok (.aload_n 3, 1) := by decide +kernel
theorem dX4_costsOf_69 : decode cX4_costsOf 69 = .ok (.getfield 77, 3) := by decide +kernel
theorem dX4_costsOf_72 : decode cX4_costsOf 72 = .ok (.iload 6, 2) := by decide +kernel
theorem dX4_costsOf_74 : decode cX4_costsOf 74 = .ok (.iaload, 1) := by decide +kernel
theorem dX4_costsOf_75 : decode cX4_costsOf 75 = .ok (.isub, 1) := by decide +kernel
theorem dX4_costsOf_76 : decode cX4_costsOf 76 = .ok (.invokevirtual 80, 3) := by decide +kernel
theorem dX4_costsOf_79 : decode cX4_costsOf 79 = .ok (.iadd, 1) := by decide +kernel
theorem dX4_costsOf_80 : decode cX4_costsOf 80 = .ok (.istore 5, 2) := by decide +kernel
theorem dX4_costsOf_82 : decode cX4_costsOf 82 = .ok (.iinc 6 1, 3) := by decide +kernel
theorem dX4_costsOf_85 : decode cX4_costsOf 85 = .ok (.goto (-79), 3) := by decide +kernel
theorem dX4_costsOf_88 : decode cX4_costsOf 88 = .ok (.iload 5, 2) := by decide +kernel
theorem dX4_costsOf_90 : decode cX4_costsOf 90 = .ok (.ireturn, 1) := by decide +kernel
set_option maxRecDepth 20000 in
theorem ggX4_wouldBreak_X4_costsOf : GoodIn wsX4_wouldBreak wsX4_costsOf := goodIn_r _ [6, 7, 8, 9, 10, 11, 12, 13, 14, 15, 16, 17, 18, 19, 5, 20, 21, 22, 23, 24, 25, 26, 27, 28, 29, 30, 31, 32] (by decide +kernel) (by decide +kernel)
set_option maxRecDepth 20000 in
theorem gX4_wouldBreak_X4_costsOf : GoodIn wsX4_wouldBreak (wsV RX4 84 RX4 yX4_costsOf wsX4_costsOf) := goodIn_app (goodIn_of _ (by decide +kernel)) ggX4_wouldBreak_X4_costsOf
theorem dX4_wouldBreak_0 : decode cX4_wouldBreak 0 = .ok (.aload_n 0, 1) := by decide +kernel
theorem dX4_wouldBreak_1 : decode cX4_wouldBreak 1 = .ok (.getfield 23, 3) := by decide +kernel
theorem dX4_wouldBreak_4 : decode cX4_wouldBreak 4 = .ok (.iload_n 1, 1) := by decide +kernel
theorem dX4_wouldBreak_5 : decode cX4_wouldBreak 5 = .ok (.aaload, 1) := by decide +kernel
theorem dX4_wouldBreak_6 : decode cX4_wouldBreak 6 = .ok (.iload_n 2, 1) := by decide +kernel
theorem dX4_wouldBreak_7 : decode cX4_wouldBreak 7 = .ok (.iaload, 1) := by decide +kernel
theorem dX4_wouldBreak_8 : decode cX4_wouldBreak 8 = .ok (.aload_n 0, 1) := by decide +kernel
theorem dX4_wouldBreak_9 : decode cX4_wouldBreak 9 = .ok (.iload_n 1, 1) := by decide +kernel
theorem dX4_wouldBreak_10 : decode cX4_wouldBreak 10 = .ok (.iload_n 2, 1) := by decide +kernel
theorem dX4_wouldBreak_11 : decode cX4_wouldBreak 11 = .ok (.aload_n 3, 1) := by decide +kernel
theorem dX4_wouldBreak_12 : decode cX4_wouldBreak 12 = .ok (.iload 4, 2) := by decide +kernel
theorem dX4_wouldBreak_14 : decode cX4_wouldBreak 14 = .ok (.invokevirtual 84, 3) := by decide +kernel
theorem dX4_wouldBreak_17 : decode cX4_wouldBreak 17 = .ok (.if_icmp .le 7, 3) := by decide +kernel
theorem dX4_wouldBreak_20 : decode cX4_wouldBreak 20 = .ok (.iconst 1, 1) := by decide +kernel
theorem dX4_wouldBreak_21 : decode cX4_wouldBreak 21 = .ok (.goto 4, 3) := by decide +kernel
theorem dX4_wouldBreak_24 : decode cX4_wouldBreak 24 = .ok (.iconst 0, 1) := by decide +kernel
theorem dX4_wouldBreak_25 : decode cX4_wouldBreak 25 = .ok (.ireturn, 1) := by decide +kernel
set_option maxRecDepth 20000 in
theorem ggX4_firstToBreak_X4_wouldBreak : GoodIn wsX4_firstToBreak wsX4_wouldBreak := goodIn_r _ [6, 7, 8, 9, 10, 5, 11, 12, 13, 14, 15, 16, 17, 18, 19, 20, 21, 22, 23, 24, 25, 26, 27, 28, 29, 30, 31, 32, 33, 34, 35, 36, 37] (by decide +kernel) (by decide +kernel)
set_option maxRecDepth 20000 in
theorem gX4_firstToBreak_X4_wouldBreak : GoodIn wsX4_firstToBreak (wsV RX4 88 RX4 yX4_wouldBreak wsX4_wouldBreak) := goodIn_app (goodIn_of _ (by decide +kernel)) ggX4_firstToBreak_X4_wouldBreak
theorem dX4_firstToBreak_0 : decode cX4_firstToBreak 0 = .ok (.iconst 0, 1) := by decide +kernel
theorem dX4_firstToBreak_1 : decode cX4_firstToBreak 1 = .ok (.istore 4, 2) := by decide +kernel
theorem dX4_firstToBreak_3 : decode cX4_firstToBreak 3 = .ok (.iload 4, 2) := by decide +kernel
theorem dX4_firstToBreak_5 : decode cX4_firstToBreak 5 = .ok (.aload_n 0, 1) := by decide +kernel
theorem dX4_firstToBreak_6 : decode cX4_firstToBreak 6 = .ok (.getfield 9, 3) := by decide +kernel
theorem dX4_firstToBreak_9 : decode cX4_firstToBreak 9 = .ok (.if_icmp .ge 24, 3) := by decide +kernel
theorem dX4_firstToBreak_12 : decode cX4_firstToBreak 12 = .ok (.aload_n 0, 1) := by decide +kernel
theorem dX4_firstToBreak_13 : decode cX4_firstToBreak 13 = .ok (.iload 4, 2) := by decide +kernel
theorem dX4_firstToBreak_15 : decode cX4_firstToBreak 15 = .ok (.iload_n 1, 1) := by decide +kernel
theorem dX4_firstToBreak_16 : decode cX4_firstToBreak 16 = .ok (.aload_n 2, 1) := by decide +kernel
theorem dX4_firstToBreak_17 : decode cX4_firstToBreak 17 = .ok (.iload_n 3, 1) := by decide +kernel
theorem dX4_firstToBreak_18 : decode cX4_firstToBreak 18 = .ok (.invokevirtual 88, 3) := by decide +kernel
theorem dX4_firstToBreak_21 : decode cX4_firstToBreak 21 = .ok (.ifCond .eq 6, 3) := by decide +kernel
theorem dX4_firstToBreak_24 : decode cX4_firstToBreak 24 = .ok (.iload 4, 2) := by decide +kernel
theorem dX4_firstToBreak_26 : decode cX4_firstToBreak 26 = .ok (.ireturn, 1) := by decide +kernel
theorem dX4_firstToBreak_27 : decode cX4_firstToBreak 27 = .ok (.iinc 4 1, 3) := by decide +kernel
theorem dX4_firstToBreak_30 : decode cX4_firstToBreak 30 = .ok (.goto (-27), 3) := by decide +kernel
theorem dX4_firstToBreak_33 : decode cX4_firstToBreak 33 = .ok (.bipush (-9), 2) := by decide +kernel
theorem dX4_firstToBreak_35 : decode cX4_firstToBreak 35 = .ok (.ireturn, 1) := by decide +kernel
set_option maxRecDepth 20000 in
theorem ggX4_breakYear_X4_firstToBreak : GoodIn wsX4_breakYear wsX4_firstToBreak := goodIn_r _ [6, 7, 8, 9, 10, 5, 11, 12, 13, 14, 15, 16, 17, 18, 19, 20, 21, 22, 23, 24, 25, 26, 27, 28, 29, 30, 31, 32, 33, 34, 35, 36, 37, 38, 39, 40, 41, 42] (by decide +kernel) (by decide +kernel)
set_option maxRecDepth 20000 in
theorem gX4_breakYear_X4_firstToBreak : GoodIn wsX4_breakYear (wsV RX4 92 RX4 yX4_firstToBreak wsX4_firstToBreak) := goodIn_app (goodIn_of _ (by decide +kernel)) ggX4_breakYear_X4_firstToBreak
theorem dX4_breakYear_0 : decode cX4_breakYear 0 = .ok (.iconst 0, 1) := by decide +kernel
theorem dX4_breakYear_1 : decode cX4_breakYear 1 = .ok (.istore_n 3, 1) := by decide +kernel
theorem dX4_breakYear_2 : decode cX4_breakYear 2 = .ok (.iload_n 3, 1) := by decide +kernel
theorem dX4_breakYear_3 : decode cX4_breakYear 3 = .ok (.aload_n 0, 1) := by decide +kernel
theorem dX4_breakYear_4 : decode cX4_breakYear 4 = .ok (.getfield 15, 3) := by decide +kernel
theorem dX4_breakYear_7 : decode cX4_breakYear 7 = .ok (.if_icmp .ge 23, 3) := by decide +kernel
theorem dX4_breakYear_10 : decode cX4_breakYear 10 = .ok (.aload_n 0, 1) := by decide +kernel
theorem dX4_breakYear_11 : decode cX4_breakYear 11 = .ok (.iload_n 3, 1) := by decide +kernel
theorem dX4_breakYear_12 : decode cX4_breakYear 12 = .ok (.aload_n 1, 1) := by decide +kernel
theorem dX4_breakYear_13 : decode cX4_breakYear 13 = .ok (.iload_n 2, 1) := by decide +kernel
theorem dX4_breakYear_14 : decode cX4_breakYear 14 = .ok (.invokevirtual 92, 3) := by decide +kernel
theorem dX4_breakYear_17 : decode cX4_breakYear 17 = .ok (.bipush (-9), 2) := by decide +kernel
theorem dX4_breakYear_19 : decode cX4_breakYear 19 = .ok (.if_icmp .eq 5, 3) := by decide +kernel
theorem dX4_breakYear_22 : decode cX4_breakYear 22 = .ok (.iload_n 3, 1) := by decide +kernel
theorem dX4_breakYear_23 : decode cX4_breakYear 23 = .ok (.ireturn, 1) := by decide +kernel
theorem dX4_breakYear_24 : decode cX4_breakYear 24 = .ok (.iinc 3 1, 3) := by decide +kernel
theorem dX4_breakYear_27 : decode cX4_breakYear 27 = .ok (.goto (-25), 3) := by decide +kernel
theorem dX4_breakYear_30 : decode cX4_breakYear 30 = .ok (.bipush (-9), 2) := by decide +kernel
theorem dX4_breakYear_32 : decode cX4_breakYear 32 = .ok (.ireturn, 1) := by decide +kernel
set_option maxRecDepth 20000 in
theorem ggX4_breakYearOf_X4_wouldBreak : GoodIn wsX4_breakYearOf wsX4_wouldBreak := goodIn_r _ [6, 7, 8, 9, 10, 5, 11, 12, 13, 14, 15, 16, 17, 18, 19, 20, 21, 22, 23, 24, 25, 26, 27, 28, 29, 30, 31, 32, 33, 34, 35, 36, 37] (by decide +kernel) (by decide +kernel)
set_option maxRecDepth 20000 in
theorem gX4_breakYearOf_X4_wouldBreak : GoodIn wsX4_breakYearOf (wsV RX4 88 RX4 yX4_wouldBreak wsX4_wouldBreak) := goodIn_app (goodIn_of _ (by decide +kernel)) ggX4_breakYearOf_X4_wouldBreak
theorem dX4_breakYearOf_0 : decode cX4_breakYearOf 0 = .ok (.iconst 0, 1) := by decide +kernel
theorem dX4_breakYearOf_1 : decode cX4_breakYearOf 1 = .ok (.istore_n 3, 1) := by decide +kernel
theorem dX4_breakYearOf_2 : decode cX4_breakYearOf 2 = .ok (.iload_n 3, 1) := by decide +kernel
theorem dX4_breakYearOf_3 : decode cX4_breakYearOf 3 = .ok (.aload_n 0, 1) := by decide +kernel
theorem dX4_breakYearOf_4 : decode cX4_breakYearOf 4 = .ok (.getfield 15, 3) := by decide +kernel
theorem dX4_breakYearOf_7 : decode cX4_breakYearOf 7 = .ok (.if_icmp .ge 22, 3) := by decide +kernel
theorem dX4_breakYearOf_10 : decode cX4_breakYearOf 10 = .ok (.aload_n 0, 1) := by decide +kernel
theorem dX4_breakYearOf_11 : decode cX4_breakYearOf 11 = .ok (.iload_n 1, 1) := by decide +kernel
theorem dX4_breakYearOf_12 : decode cX4_breakYearOf 12 = .ok (.iload_n 3, 1) := by decide +kernel
theorem dX4_breakYearOf_13 : decode cX4_breakYearOf 13 = .ok (.aload_n 2, 1) := by decide +kernel
theorem dX4_breakYearOf_14 : decode cX4_breakYearOf 14 = .ok (.iconst 0, 1) := by decide +kernel
theorem dX4_breakYearOf_15 : decode cX4_breakYearOf 15 = .ok (.invokevirtual 88, 3) := by decide +kernel
theorem dX4_breakYearOf_18 : decode cX4_breakYearOf 18 = .ok (.ifCond .eq 5, 3) := by decide +kernel
theorem dX4_breakYearOf_21 : decode cX4_breakYearOf 21 = .ok (.iload_n 3, 1) := by decide +kernel
theorem dX4_breakYearOf_22 : decode cX4_breakYearOf 22 = .ok (.ireturn, 1) := by decide +kernel
theorem dX4_breakYearOf_23 : decode cX4_breakYearOf 23 = .ok (.iinc 3 1, 3) := by decide +kernel
theorem dX4_breakYearOf_26 : decode cX4_breakYearOf 26 = .ok (.goto (-24), 3) := by decide +kernel
theorem dX4_breakYearOf_29 : decode cX4_breakYearOf 29 = .ok (.bipush (-9), 2) := by decide +kernel
theorem dX4_breakYearOf_31 : decode cX4_breakYearOf 31 = .ok (.ireturn, 1) := by decide +kernel
set_option maxRecDepth 20000 in
theorem ggX5_init_X3_init : GoodIn wsX5_init wsX3_init := goodIn_r _ [29, 30, 2, 3, 31, 32, 33, 34, 81, 82, 83] (by decide +kernel) (by decide +kernel)
set_option maxRecDepth 20000 in
theorem gX5_init_X3_init_n19 : GoodIn wsX5_init (wsX3_init) := ggX5_init_X3_init
set_option maxRecDepth 20000 in
theorem ggX5_init_X4_init : GoodIn wsX5_init wsX4_init := goodIn_r _ [36, 37, 2, 3, 38, 39, 40, 41, 31, 42, 43, 44, 45, 46, 84, 85, 86, 87, 88, 89, 90, 91] (by decide +kernel) (by decide +kernel)
set_option maxRecDepth 20000 in
theorem gX5_init_X4_init_n26 : GoodIn wsX5_init (wsX4_init) := ggX5_init_X4_init
set_option maxRecDepth 20000 in
theorem ggX5_init_X1_init : GoodIn wsX5_init wsX1_init := goodIn_r _ [49, 50, 2, 3, 31, 51, 52, 53, 54, 55, 17, 56, 92, 93] (by decide +kernel) (by decide +kernel)
set_option maxRecDepth 20000 in
theorem gX5_init_X1_init : GoodIn wsX5_init (wsX1_init) := ggX5_init_X1_init
set_option maxRecDepth 20000 in
theorem ggX5_init_X0_init : GoodIn wsX5_init wsX0_init := goodIn_r _ [58, 59, 2, 3, 31, 60, 61, 62, 63, 64, 94, 95, 96, 97] (by decide +kernel) (by decide +kernel)
set_option maxRecDepth 20000 in
theorem gX5_init_X0_init_n46 : GoodIn wsX5_init (wsX0_init) := ggX5_init_X0_init
set_option maxRecDepth 20000 in
theorem ggX5_init_X2_init : GoodIn wsX5_init wsX2_init := goodIn_r _ [66, 67, 2, 3, 31, 68, 69, 70, 71, 98, 99, 100, 101] (by decide +kernel) (by decide +kernel)
set_option maxRecDepth 20000 in
theorem gX5_init_X2_init_n58 : GoodIn wsX5_init (wsX2_init) := ggX5_init_X2_init
theorem dX5_init_0 : decode cX5_init 0 = .ok (.aload_n 0, 1) := by decide +kernel
theorem dX5_init_1 : decode cX5_init 1 = .ok (.invokespecial 3, 3) := by decide +kernel
theorem dX5_init_4 : decode cX5_init 4 = .ok (.aload_n 0, 1) := by decide +kernel
theorem dX5_init_5 : decode cX5_init 5 = .ok (.iconst 4, 1) := by decide +kernel
theorem dX5_init_6 : decode cX5_init 6 = .ok (.anewarray 11, 3) := by decide +kernel
theorem dX5_init_9 : decode cX5_init 9 = .ok (.putfield 13, 3) := by decide +kernel
theorem dX5_init_12 : decode cX5_init 12 = .ok (.aload_n 0, 1) := by decide +kernel
theorem dX5_init_13 : decode cX5_init 13 = .ok (.new 17, 3) := by decide +kernel
theorem dX5_init_16 : decode cX5_init 16 = .ok (.dup, 1) := by decide +kernel
theorem dX5_init_17 : decode cX5_init 17 = .ok (.invokespecial 19, 3) := by decide +kernel
theorem dX5_init_20 : decode cX5_init 20 = .ok (.putfield 20, 3) := by decide +kernel
theorem dX5_init_23 : decode cX5_init 23 = .ok (.aload_n 0, 1) := by decide +kernel
theorem dX5_init_24 : decode cX5_init 24 = .ok (.new 24, 3) := by decide +kernel
theorem dX5_init_27 : decode cX5_init 27 = .ok (.dup, 1) := by decide +kernel
theorem dX5_init_28 : decode cX5_init 28 = .ok (.invokespecial 26, 3) := by decide +kernel
theorem dX5_init_31 : decode cX5_init 31 = .ok (.putfield 27, 3) := by decide +kernel
theorem dX5_init_34 : decode cX5_init 34 = .ok (.aload_n 0, 1) := by decide +kernel
theorem dX5_init_35 : decode cX5_init 35 = .ok (.new 24, 3) := by decide +kernel
theorem dX5_init_38 : decode cX5_init 38 = .ok (.dup, 1) := by decide +kernel
theorem dX5_init_39 : decode cX5_init 39 = .ok (.invokespecial 26, 3) := by decide +kernel
theorem dX5_init_42 : decode cX5_init 42 = .ok (.putfield 31, 3) := by decide +kernel
theorem dX5_init_45 : decode cX5_init 45 = .ok (.aload_n 0, 1) := by decide +kernel
theorem dX5_init_46 : decode cX5_init 46 = .ok (.new 34, 3) := by decide +kernel
theorem dX5_init_49 : decode cX5_init 49 = .ok (.dup, 1) := by decide +kernel
theorem dX5_init_50 : decode cX5_init 50 = .ok (.invokespecial 36, 3) := by decide +kernel
theorem dX5_init_53 : decode cX5_init 53 = .ok (.putfield 37, 3) := by decide +kernel
theorem dX5_init_56 : decode cX5_init 56 = .ok (.aload_n 0, 1) := by decide +kernel
theorem dX5_init_57 : decode cX5_init 57 = .ok (.new 34, 3) := by decide +kernel
theorem dX5_init_60 : decode cX5_init 60 = .ok (.dup, 1) := by decide +kernel
theorem dX5_init_61 : decode cX5_init 61 = .ok (.invokespecial 36, 3) := by decide +kernel
theorem dX5_init_64 : decode cX5_init 64 = .ok (.putfield 41, 3) := by decide +kernel
theorem dX5_init_67 : decode cX5_init 67 = .ok (.aload_n 0, 1) := by decide +kernel
theorem dX5_init_68 : decode cX5_init 68 = .ok (.new 44, 3) := by decide +kernel
theorem dX5_init_71 : decode cX5_init 71 = .ok (.dup, 1) := by decide +kernel
theorem dX5_init_72 : decode cX5_init 72 = .ok (.invokespecial 46, 3) := by decide +kernel
theorem dX5_init_75 : decode cX5_init 75 = .ok (.putfield 47, 3) := by decide +kernel
theorem dX5_init_78 : decode cX5_init 78 = .ok (.aload_n 0, 1) := by decide +kernel
theorem dX5_init_79 : decode cX5_init 79 = .ok (.iconst 0, 1) := by decide +kernel
theorem dX5_init_80 : decode cX5_init 80 = .ok (.putfield 51, 3) := by decide +kernel
theorem dX5_init_83 : decode cX5_init 83 = .ok (.aload_n 0, 1) := by decide +kernel
theorem dX5_init_84 : decode cX5_init 84 = .ok (.iconst 0, 1) := by decide +kernel
theorem dX5_init_85 : decode cX5_init 85 = .ok (.putfield 55, 3) := by decide +kernel
theorem dX5_init_88 : decode cX5_init 88 = .ok (.iconst 0, 1) := by decide +kernel
theorem dX5_init_89 : decode cX5_init 89 = .ok (.istore_n 1, 1) := by decide +kernel
theorem dX5_init_90 : decode cX5_init 90 = .ok (.iload_n 1, 1) := by decide +kernel
theorem dX5_init_91 : decode cX5_init 91 = .ok (.iconst 4, 1) := by decide +kernel
theorem dX5_init_92 : decode cX5_init 92 = .ok (.if_icmp .ge 22, 3) := by decide +kernel
theorem dX5_init_95 : decode cX5_init 95 = .ok (.aload_n 0, 1) := by decide +kernel
theorem dX5_init_96 : decode cX5_init 96 = .ok (.getfield 13, 3) := by decide +kernel
theorem dX5_init_99 : decode cX5_init 99 = .ok (.iload_n 1, 1) := by decide +kernel
theorem dX5_init_100 : decode cX5_init 100 = .ok (.new 11, 3) := by decide +kernel
theorem dX5_init_103 : decode cX5_init 103 = .ok (.dup, 1) := by decide +kernel
theorem dX5_init_104 : decode cX5_init 104 = .ok (.invokespecial 58, 3) := by decide +kernel
theorem dX5_init_107 : decode cX5_init 107 = .ok (.aastore, 1) := by decide +kernel
theorem dX5_init_108 : decode cX5_init 108 = .ok (.iinc 1 1, 3) := by decide +kernel
theorem dX5_init_111 : decode cX5_init 111 = .ok (.goto (-21), 3) := by decide +kernel
theorem dX5_init_114 : decode cX5_init 114 = .ok (.return_, 1) := by decide +kernel
set_option maxRecDepth 20000 in
theorem ggX5_treaty_X5_isSheet : GoodIn wsX5_treaty wsX5_isSheet := goodIn_r _ [11] (by decide +kernel) (by decide +kernel)
set_option maxRecDepth 20000 in
theorem gX5_treaty_X5_isSheet : GoodIn wsX5_treaty (va_wsS RX5 59 yX5_isSheet wsX5_isSheet) := goodIn_app (goodIn_of _ (by decide +kernel)) ggX5_treaty_X5_isSheet
set_option maxRecDepth 20000 in
theorem ggX5_treaty_X5_isLane : GoodIn wsX5_treaty wsX5_isLane := goodIn_r _ [14] (by decide +kernel) (by decide +kernel)
set_option maxRecDepth 20000 in
theorem gX5_treaty_X5_isLane : GoodIn wsX5_treaty (va_wsS RX5 63 yX5_isLane wsX5_isLane) := goodIn_app (goodIn_of _ (by decide +kernel)) ggX5_treaty_X5_isLane
set_option maxRecDepth 20000 in
theorem ggX5_treaty_X5_rowFault : GoodIn wsX5_treaty wsX5_rowFault := goodIn_r _ [17, 18, 19, 10, 20, 21, 22, 23, 24, 25, 26, 27, 28, 141, 142, 143, 144] (by decide +kernel) (by decide +kernel)
set_option maxRecDepth 20000 in
theorem gX5_treaty_X5_rowFault : GoodIn wsX5_treaty (va_wsS RX5 66 yX5_rowFault wsX5_rowFault) := goodIn_app (goodIn_of _ (by decide +kernel)) ggX5_treaty_X5_rowFault
set_option maxRecDepth 20000 in
theorem ggX5_treaty_X5_faulted : GoodIn wsX5_treaty wsX5_faulted := goodIn_r _ [32, 1, 121, 122, 123, 124, 125, 126, 127, 128, 129] (by decide +kernel) (by decide +kernel)
set_option maxRecDepth 20000 in
theorem gX5_treaty_X5_faulted : GoodIn wsX5_treaty (wsV RX5 70 RX5 yX5_faulted wsX5_faulted) := goodIn_app (goodIn_of _ (by decide +kernel)) ggX5_treaty_X5_faulted
set_option maxRecDepth 20000 in
theorem ggX5_treaty_X3_open : GoodIn wsX5_treaty wsX3_open := goodIn_r _ [37, 38, 39, 40, 41, 42, 43, 44, 45, 46, 47, 48, 49, 50, 26, 51, 52, 53, 54, 55, 56, 28, 130, 131, 132, 141, 142, 143, 144] (by decide +kernel) (by decide +kernel)
set_option maxRecDepth 20000 in
theorem gX5_treaty_X3_open : GoodIn wsX5_treaty (wsV RX5 74 RX3 yX3_open wsX3_open) := goodIn_app (goodIn_of _ (by decide +kernel)) ggX5_treaty_X3_open
set_option maxRecDepth 20000 in
theorem ggX5_treaty_X4_readsAll : GoodIn wsX5_treaty wsX4_readsAll := goodIn_r _ [61, 62, 63, 64, 60, 65, 66, 67, 68, 69, 70, 36, 71, 72, 73, 74, 75, 46, 45, 47, 76, 77, 78, 79, 80, 81, 82, 83, 84, 85, 86, 87, 88, 89, 90, 91, 92, 93, 94, 95, 96, 97, 98, 99, 100, 101, 102, 103, 133, 134, 135, 136, 137, 138, 139, 140, 130, 131, 132] (by decide +kernel) (by decide +kernel)
set_option maxRecDepth 20000 in
theorem gX5_treaty_X4_readsAll : GoodIn wsX5_treaty (wsV RX5 78 RX4 yX4_readsAll wsX4_readsAll) := goodIn_app (goodIn_of _ (by decide +kernel)) ggX5_treaty_X4_readsAll
set_option maxRecDepth 20000 in
theorem ggX5_treaty_X5_beginAnew : GoodIn wsX5_treaty wsX5_beginAnew := goodIn_r _ [107, 6, 4, 108, 109, 110, 111, 112, 113, 114, 115, 116, 117, 118, 119, 120, 121, 122, 123, 124, 125, 126, 127, 128, 129, 145, 146, 147, 148, 149, 150] (by decide +kernel) (by decide +kernel)
set_option maxRecDepth 20000 in
theorem gX5_treaty_X5_beginAnew : GoodIn wsX5_treaty (wsV RX5 85 RX5 yX5_beginAnew wsX5_beginAnew) := goodIn_app (goodIn_of _ (by decide +kernel)) ggX5_treaty_X5_beginAnew
theorem dX5_treaty_0 : decode cX5_treaty 0 = .ok (.aload_n 0, 1) := by decide +kernel
theorem dX5_treaty_1 : decode cX5_treaty 1 = .ok (.iconst 0, 1) := by decide +kernel
theorem dX5_treaty_2 : decode cX5_treaty 2 = .ok (.putfield 55, 3) := by decide +kernel
theorem dX5_treaty_5 : decode cX5_treaty 5 = .ok (.iload_n 1, 1) := by decide +kernel
theorem dX5_treaty_6 : decode cX5_treaty 6 = .ok (.invokestatic 59, 3) := by decide +kernel
theorem dX5_treaty_9 : decode cX5_treaty 9 = .ok (.ifCond .ne 5, 3) := by decide +kernel
theorem dX5_treaty_12 : decode cX5_treaty 12 = .ok (.iconst (-1), 1) := by decide +kernel
end
section
theorem dX5_treaty_13 : decode cX5_treaty 13 = .ok (.ireturn, 1) := by decide +kernel
theorem dX5_treaty_14 : decode cX5_treaty 14 = .ok (.iload_n 2, 1) := by decide +kernel
theorem dX5_treaty_15 : decode cX5_treaty 15 = .ok (.invokestatic 63, 3) := by decide +kernel
theorem dX5_treaty_18 : decode cX5_treaty 18 = .ok (.ifCond .ne 6, 3) := by decide +kernel
theorem dX5_treaty_21 : decode cX5_treaty 21 = .ok (.bipush (-2), 2) := by decide +kernel
theorem dX5_treaty_23 : decode cX5_treaty 23 = .ok (.ireturn, 1) := by decide +kernel
theorem dX5_treaty_24 : decode cX5_treaty 24 = .ok (.aload_n 0, 1) := by decide +kernel
theorem dX5_treaty_25 : decode cX5_treaty 25 = .ok (.getfield 13, 3) := by decide +kernel
theorem dX5_treaty_28 : decode cX5_treaty 28 = .ok (.iload_n 1, 1) := by decide +kernel
theorem dX5_treaty_29 : decode cX5_treaty 29 = .ok (.aaload, 1) := by decide +kernel
theorem dX5_treaty_30 : decode cX5_treaty 30 = .ok (.iload_n 2, 1) := by decide +kernel
theorem dX5_treaty_31 : decode cX5_treaty 31 = .ok (.iload_n 3, 1) := by decide +kernel
theorem dX5_treaty_32 : decode cX5_treaty 32 = .ok (.iload 4, 2) := by decide +kernel
theorem dX5_treaty_34 : decode cX5_treaty 34 = .ok (.invokestatic 66, 3) := by decide +kernel
theorem dX5_treaty_37 : decode cX5_treaty 37 = .ok (.istore 5, 2) := by decide +kernel
theorem dX5_treaty_39 : decode cX5_treaty 39 = .ok (.iload 5, 2) := by decide +kernel
theorem dX5_treaty_41 : decode cX5_treaty 41 = .ok (.ifCond .eq 10, 3) := by decide +kernel
theorem dX5_treaty_44 : decode cX5_treaty 44 = .ok (.aload_n 0, 1) := by decide +kernel
theorem dX5_treaty_45 : decode cX5_treaty 45 = .ok (.iload 5, 2) := by decide +kernel
theorem dX5_treaty_47 : decode cX5_treaty 47 = .ok (.invokevirtual 70, 3) := by decide +kernel
theorem dX5_treaty_50 : decode cX5_treaty 50 = .ok (.ireturn, 1) := by decide +kernel
theorem dX5_treaty_51 : decode cX5_treaty 51 = .ok (.aload_n 0, 1) := by decide +kernel
theorem dX5_treaty_52 : decode cX5_treaty 52 = .ok (.getfield 20, 3) := by decide +kernel
theorem dX5_treaty_55 : decode cX5_treaty 55 = .ok (.aload_n 0, 1) := by decide +kernel
theorem dX5_treaty_56 : decode cX5_treaty 56 = .ok (.getfield 13, 3) := by decide +kernel
theorem dX5_treaty_59 : decode cX5_treaty 59 = .ok (.iload_n 1, 1) := by decide +kernel
theorem dX5_treaty_60 : decode cX5_treaty 60 = .ok (.aaload, 1) := by decide +kernel
theorem dX5_treaty_61 : decode cX5_treaty 61 = .ok (.iload_n 3, 1) := by decide +kernel
theorem dX5_treaty_62 : decode cX5_treaty 62 = .ok (.iload 4, 2) := by decide +kernel
theorem dX5_treaty_64 : decode cX5_treaty 64 = .ok (.invokevirtual 74, 3) := by decide +kernel
theorem dX5_treaty_67 : decode cX5_treaty 67 = .ok (.aload_n 0, 1) := by decide +kernel
theorem dX5_treaty_68 : decode cX5_treaty 68 = .ok (.getfield 31, 3) := by decide +kernel
theorem dX5_treaty_71 : decode cX5_treaty 71 = .ok (.aload_n 0, 1) := by decide +kernel
theorem dX5_treaty_72 : decode cX5_treaty 72 = .ok (.getfield 20, 3) := by decide +kernel
theorem dX5_treaty_75 : decode cX5_treaty 75 = .ok (.invokevirtual 78, 3) := by decide +kernel
theorem dX5_treaty_78 : decode cX5_treaty 78 = .ok (.ifCond .ne 14, 3) := by decide +kernel
theorem dX5_treaty_81 : decode cX5_treaty 81 = .ok (.bipush (-100), 2) := by decide +kernel
theorem dX5_treaty_83 : decode cX5_treaty 83 = .ok (.aload_n 0, 1) := by decide +kernel
theorem dX5_treaty_84 : decode cX5_treaty 84 = .ok (.getfield 20, 3) := by decide +kernel
theorem dX5_treaty_87 : decode cX5_treaty 87 = .ok (.getfield 82, 3) := by decide +kernel
theorem dX5_treaty_90 : decode cX5_treaty 90 = .ok (.isub, 1) := by decide +kernel
theorem dX5_treaty_91 : decode cX5_treaty 91 = .ok (.ireturn, 1) := by decide +kernel
theorem dX5_treaty_92 : decode cX5_treaty 92 = .ok (.aload_n 0, 1) := by decide +kernel
theorem dX5_treaty_93 : decode cX5_treaty 93 = .ok (.invokevirtual 85, 3) := by decide +kernel
theorem dX5_treaty_96 : decode cX5_treaty 96 = .ok (.aload_n 0, 1) := by decide +kernel
theorem dX5_treaty_97 : decode cX5_treaty 97 = .ok (.getfield 27, 3) := by decide +kernel
theorem dX5_treaty_100 : decode cX5_treaty 100 = .ok (.getfield 88, 3) := by decide +kernel
theorem dX5_treaty_103 : decode cX5_treaty 103 = .ok (.ireturn, 1) := by decide +kernel
set_option maxRecDepth 20000 in
theorem ggX5_beginAnew_X1_nobody : GoodIn wsX5_beginAnew wsX1_nobody := goodIn_r _ [10, 11, 12, 13, 9, 14, 15, 29, 30] (by decide +kernel) (by decide +kernel)
set_option maxRecDepth 20000 in
theorem gX5_beginAnew_X1_nobody : GoodIn wsX5_beginAnew (wsV RX5 91 RX1 yX1_nobody wsX1_nobody) := goodIn_app (goodIn_of _ (by decide +kernel)) ggX5_beginAnew_X1_nobody
theorem dX5_beginAnew_0 : decode cX5_beginAnew 0 = .ok (.aload_n 0, 1) := by decide +kernel
theorem dX5_beginAnew_1 : decode cX5_beginAnew 1 = .ok (.getfield 27, 3) := by decide +kernel
theorem dX5_beginAnew_4 : decode cX5_beginAnew 4 = .ok (.astore_n 1, 1) := by decide +kernel
theorem dX5_beginAnew_5 : decode cX5_beginAnew 5 = .ok (.aload_n 0, 1) := by decide +kernel
theorem dX5_beginAnew_6 : decode cX5_beginAnew 6 = .ok (.aload_n 0, 1) := by decide +kernel
theorem dX5_beginAnew_7 : decode cX5_beginAnew 7 = .ok (.getfield 31, 3) := by decide +kernel
theorem dX5_beginAnew_10 : decode cX5_beginAnew 10 = .ok (.putfield 27, 3) := by decide +kernel
theorem dX5_beginAnew_13 : decode cX5_beginAnew 13 = .ok (.aload_n 0, 1) := by decide +kernel
theorem dX5_beginAnew_14 : decode cX5_beginAnew 14 = .ok (.aload_n 1, 1) := by decide +kernel
theorem dX5_beginAnew_15 : decode cX5_beginAnew 15 = .ok (.putfield 31, 3) := by decide +kernel
theorem dX5_beginAnew_18 : decode cX5_beginAnew 18 = .ok (.aload_n 0, 1) := by decide +kernel
theorem dX5_beginAnew_19 : decode cX5_beginAnew 19 = .ok (.getfield 37, 3) := by decide +kernel
theorem dX5_beginAnew_22 : decode cX5_beginAnew 22 = .ok (.invokevirtual 91, 3) := by decide +kernel
theorem dX5_beginAnew_25 : decode cX5_beginAnew 25 = .ok (.aload_n 0, 1) := by decide +kernel
theorem dX5_beginAnew_26 : decode cX5_beginAnew 26 = .ok (.getfield 47, 3) := by decide +kernel
theorem dX5_beginAnew_29 : decode cX5_beginAnew 29 = .ok (.iconst 0, 1) := by decide +kernel
theorem dX5_beginAnew_30 : decode cX5_beginAnew 30 = .ok (.putfield 94, 3) := by decide +kernel
theorem dX5_beginAnew_33 : decode cX5_beginAnew 33 = .ok (.return_, 1) := by decide +kernel
set_option maxRecDepth 20000 in
theorem ggX5_ofSon_X5_isSon : GoodIn wsX5_ofSon wsX5_isSon := goodIn_r _ [13, 1, 14, 21, 22, 23, 24, 25, 26, 27, 28, 29, 30, 31, 32, 33, 34, 35, 36, 37] (by decide +kernel) (by decide +kernel)
set_option maxRecDepth 20000 in
theorem gX5_ofSon_X5_isSon : GoodIn wsX5_ofSon (wsV RX5 97 RX5 yX5_isSon wsX5_isSon) := goodIn_app (goodIn_of _ (by decide +kernel)) ggX5_ofSon_X5_isSon
set_option maxRecDepth 20000 in
theorem ggX5_ofSon_X1_ever : GoodIn wsX5_ofSon wsX1_ever := goodIn_r _ [19, 20, 38, 39] (by decide +kernel) (by decide +kernel)
set_option maxRecDepth 20000 in
theorem gX5_ofSon_X1_ever : GoodIn wsX5_ofSon (wsV RX5 113 RX1 yX1_ever wsX1_ever) := goodIn_app (goodIn_of _ (by decide +kernel)) ggX5_ofSon_X1_ever
theorem dX5_ofSon_0 : decode cX5_ofSon 0 = .ok (.aload_n 0, 1) := by decide +kernel
theorem dX5_ofSon_1 : decode cX5_ofSon 1 = .ok (.iload_n 1, 1) := by decide +kernel
theorem dX5_ofSon_2 : decode cX5_ofSon 2 = .ok (.invokevirtual 97, 3) := by decide +kernel
theorem dX5_ofSon_5 : decode cX5_ofSon 5 = .ok (.ifCond .ne 5, 3) := by decide +kernel
theorem dX5_ofSon_8 : decode cX5_ofSon 8 = .ok (.iconst (-1), 1) := by decide +kernel
theorem dX5_ofSon_9 : decode cX5_ofSon 9 = .ok (.ireturn, 1) := by decide +kernel
theorem dX5_ofSon_10 : decode cX5_ofSon 10 = .ok (.iload_n 2, 1) := by decide +kernel
theorem dX5_ofSon_11 : decode cX5_ofSon 11 = .ok (.tableswitch 129 0 5 #[37, 47, 57, 67, 77, 103], 37) := by decide +kernel
theorem dX5_ofSon_48 : decode cX5_ofSon 48 = .ok (.aload_n 0, 1) := by decide +kernel
theorem dX5_ofSon_49 : decode cX5_ofSon 49 = .ok (.getfield 27, 3) := by decide +kernel
theorem dX5_ofSon_52 : decode cX5_ofSon 52 = .ok (.getfield 100, 3) := by decide +kernel
theorem dX5_ofSon_55 : decode cX5_ofSon 55 = .ok (.iload_n 1, 1) := by decide +kernel
theorem dX5_ofSon_56 : decode cX5_ofSon 56 = .ok (.iaload, 1) := by decide +kernel
theorem dX5_ofSon_57 : decode cX5_ofSon 57 = .ok (.ireturn, 1) := by decide +kernel
theorem dX5_ofSon_58 : decode cX5_ofSon 58 = .ok (.aload_n 0, 1) := by decide +kernel
theorem dX5_ofSon_59 : decode cX5_ofSon 59 = .ok (.getfield 27, 3) := by decide +kernel
theorem dX5_ofSon_62 : decode cX5_ofSon 62 = .ok (.getfield 104, 3) := by decide +kernel
theorem dX5_ofSon_65 : decode cX5_ofSon 65 = .ok (.iload_n 1, 1) := by decide +kernel
theorem dX5_ofSon_66 : decode cX5_ofSon 66 = .ok (.iaload, 1) := by decide +kernel
theorem dX5_ofSon_67 : decode cX5_ofSon 67 = .ok (.ireturn, 1) := by decide +kernel
theorem dX5_ofSon_68 : decode cX5_ofSon 68 = .ok (.aload_n 0, 1) := by decide +kernel
theorem dX5_ofSon_69 : decode cX5_ofSon 69 = .ok (.getfield 27, 3) := by decide +kernel
theorem dX5_ofSon_72 : decode cX5_ofSon 72 = .ok (.getfield 107, 3) := by decide +kernel
theorem dX5_ofSon_75 : decode cX5_ofSon 75 = .ok (.iload_n 1, 1) := by decide +kernel
theorem dX5_ofSon_76 : decode cX5_ofSon 76 = .ok (.iaload, 1) := by decide +kernel
theorem dX5_ofSon_77 : decode cX5_ofSon 77 = .ok (.ireturn, 1) := by decide +kernel
theorem dX5_ofSon_78 : decode cX5_ofSon 78 = .ok (.aload_n 0, 1) := by decide +kernel
theorem dX5_ofSon_79 : decode cX5_ofSon 79 = .ok (.getfield 27, 3) := by decide +kernel
theorem dX5_ofSon_82 : decode cX5_ofSon 82 = .ok (.getfield 110, 3) := by decide +kernel
theorem dX5_ofSon_85 : decode cX5_ofSon 85 = .ok (.iload_n 1, 1) := by decide +kernel
theorem dX5_ofSon_86 : decode cX5_ofSon 86 = .ok (.iaload, 1) := by decide +kernel
theorem dX5_ofSon_87 : decode cX5_ofSon 87 = .ok (.ireturn, 1) := by decide +kernel
theorem dX5_ofSon_88 : decode cX5_ofSon 88 = .ok (.aload_n 0, 1) := by decide +kernel
theorem dX5_ofSon_89 : decode cX5_ofSon 89 = .ok (.getfield 37, 3) := by decide +kernel
theorem dX5_ofSon_92 : decode cX5_ofSon 92 = .ok (.iload_n 1, 1) := by decide +kernel
theorem dX5_ofSon_93 : decode cX5_ofSon 93 = .ok (.invokevirtual 113, 3) := by decide +kernel
theorem dX5_ofSon_96 : decode cX5_ofSon 96 = .ok (.ifCond .eq 15, 3) := by decide +kernel
theorem dX5_ofSon_99 : decode cX5_ofSon 99 = .ok (.aload_n 0, 1) := by decide +kernel
theorem dX5_ofSon_100 : decode cX5_ofSon 100 = .ok (.getfield 37, 3) := by decide +kernel
theorem dX5_ofSon_103 : decode cX5_ofSon 103 = .ok (.getfield 116, 3) := by decide +kernel
theorem dX5_ofSon_106 : decode cX5_ofSon 106 = .ok (.iload_n 1, 1) := by decide +kernel
theorem dX5_ofSon_107 : decode cX5_ofSon 107 = .ok (.iaload, 1) := by decide +kernel
theorem dX5_ofSon_108 : decode cX5_ofSon 108 = .ok (.goto 5, 3) := by decide +kernel
theorem dX5_ofSon_111 : decode cX5_ofSon 111 = .ok (.bipush (-9), 2) := by decide +kernel
theorem dX5_ofSon_113 : decode cX5_ofSon 113 = .ok (.ireturn, 1) := by decide +kernel
theorem dX5_ofSon_114 : decode cX5_ofSon 114 = .ok (.aload_n 0, 1) := by decide +kernel
theorem dX5_ofSon_115 : decode cX5_ofSon 115 = .ok (.getfield 37, 3) := by decide +kernel
theorem dX5_ofSon_118 : decode cX5_ofSon 118 = .ok (.iload_n 1, 1) := by decide +kernel
theorem dX5_ofSon_119 : decode cX5_ofSon 119 = .ok (.invokevirtual 113, 3) := by decide +kernel
theorem dX5_ofSon_122 : decode cX5_ofSon 122 = .ok (.ifCond .eq 15, 3) := by decide +kernel
theorem dX5_ofSon_125 : decode cX5_ofSon 125 = .ok (.aload_n 0, 1) := by decide +kernel
theorem dX5_ofSon_126 : decode cX5_ofSon 126 = .ok (.getfield 37, 3) := by decide +kernel
theorem dX5_ofSon_129 : decode cX5_ofSon 129 = .ok (.getfield 119, 3) := by decide +kernel
theorem dX5_ofSon_132 : decode cX5_ofSon 132 = .ok (.iload_n 1, 1) := by decide +kernel
theorem dX5_ofSon_133 : decode cX5_ofSon 133 = .ok (.iaload, 1) := by decide +kernel
theorem dX5_ofSon_134 : decode cX5_ofSon 134 = .ok (.goto 5, 3) := by decide +kernel
theorem dX5_ofSon_137 : decode cX5_ofSon 137 = .ok (.bipush (-9), 2) := by decide +kernel
theorem dX5_ofSon_139 : decode cX5_ofSon 139 = .ok (.ireturn, 1) := by decide +kernel
theorem dX5_ofSon_140 : decode cX5_ofSon 140 = .ok (.bipush (-2), 2) := by decide +kernel
theorem dX5_ofSon_142 : decode cX5_ofSon 142 = .ok (.ireturn, 1) := by decide +kernel
set_option maxRecDepth 20000 in
theorem ggX5_gain_X5_isCourt : GoodIn wsX5_gain wsX5_isCourt := goodIn_r _ [7, 1, 8, 14, 15, 16, 17, 18, 19, 20, 21, 22, 23, 24, 25, 26, 27, 28, 29, 30] (by decide +kernel) (by decide +kernel)
set_option maxRecDepth 20000 in
theorem gX5_gain_X5_isCourt : GoodIn wsX5_gain (wsV RX5 122 RX5 yX5_isCourt wsX5_isCourt) := goodIn_app (goodIn_of _ (by decide +kernel)) ggX5_gain_X5_isCourt
set_option maxRecDepth 20000 in
theorem ggX5_gain_X5_isYear : GoodIn wsX5_gain wsX5_isYear := goodIn_r _ [12, 1, 13, 14, 15, 16, 17, 18, 19, 20, 21, 22, 23, 24, 25, 26, 27, 28, 29, 30] (by decide +kernel) (by decide +kernel)
set_option maxRecDepth 20000 in
theorem gX5_gain_X5_isYear : GoodIn wsX5_gain (wsV RX5 125 RX5 yX5_isYear wsX5_isYear) := goodIn_app (goodIn_of _ (by decide +kernel)) ggX5_gain_X5_isYear
theorem dX5_gain_0 : decode cX5_gain 0 = .ok (.aload_n 0, 1) := by decide +kernel
theorem dX5_gain_1 : decode cX5_gain 1 = .ok (.iload_n 1, 1) := by decide +kernel
theorem dX5_gain_2 : decode cX5_gain 2 = .ok (.invokevirtual 122, 3) := by decide +kernel
theorem dX5_gain_5 : decode cX5_gain 5 = .ok (.ifCond .ne 5, 3) := by decide +kernel
theorem dX5_gain_8 : decode cX5_gain 8 = .ok (.iconst (-1), 1) := by decide +kernel
theorem dX5_gain_9 : decode cX5_gain 9 = .ok (.ireturn, 1) := by decide +kernel
theorem dX5_gain_10 : decode cX5_gain 10 = .ok (.aload_n 0, 1) := by decide +kernel
theorem dX5_gain_11 : decode cX5_gain 11 = .ok (.iload_n 2, 1) := by decide +kernel
theorem dX5_gain_12 : decode cX5_gain 12 = .ok (.invokevirtual 125, 3) := by decide +kernel
theorem dX5_gain_15 : decode cX5_gain 15 = .ok (.ifCond .ne 6, 3) := by decide +kernel
theorem dX5_gain_18 : decode cX5_gain 18 = .ok (.bipush (-2), 2) := by decide +kernel
theorem dX5_gain_20 : decode cX5_gain 20 = .ok (.ireturn, 1) := by decide +kernel
theorem dX5_gain_21 : decode cX5_gain 21 = .ok (.aload_n 0, 1) := by decide +kernel
theorem dX5_gain_22 : decode cX5_gain 22 = .ok (.getfield 27, 3) := by decide +kernel
theorem dX5_gain_25 : decode cX5_gain 25 = .ok (.getfield 128, 3) := by decide +kernel
theorem dX5_gain_28 : decode cX5_gain 28 = .ok (.iload_n 1, 1) := by decide +kernel
theorem dX5_gain_29 : decode cX5_gain 29 = .ok (.aaload, 1) := by decide +kernel
theorem dX5_gain_30 : decode cX5_gain 30 = .ok (.iload_n 2, 1) := by decide +kernel
theorem dX5_gain_31 : decode cX5_gain 31 = .ok (.iaload, 1) := by decide +kernel
theorem dX5_gain_32 : decode cX5_gain 32 = .ok (.ireturn, 1) := by decide +kernel
set_option maxRecDepth 20000 in
theorem ggX5_tempt_X5_isCourt : GoodIn wsX5_tempt wsX5_isCourt := goodIn_r _ [7, 1, 8, 14, 15, 16, 17, 18, 19, 20, 21, 22, 23, 24, 25, 26, 27, 28, 29, 30] (by decide +kernel) (by decide +kernel)
set_option maxRecDepth 20000 in
theorem gX5_tempt_X5_isCourt : GoodIn wsX5_tempt (wsV RX5 122 RX5 yX5_isCourt wsX5_isCourt) := goodIn_app (goodIn_of _ (by decide +kernel)) ggX5_tempt_X5_isCourt
set_option maxRecDepth 20000 in
theorem ggX5_tempt_X5_isYear : GoodIn wsX5_tempt wsX5_isYear := goodIn_r _ [12, 1, 13, 14, 15, 16, 17, 18, 19, 20, 21, 22, 23, 24, 25, 26, 27, 28, 29, 30] (by decide +kernel) (by decide +kernel)
set_option maxRecDepth 20000 in
theorem gX5_tempt_X5_isYear : GoodIn wsX5_tempt (wsV RX5 125 RX5 yX5_isYear wsX5_isYear) := goodIn_app (goodIn_of _ (by decide +kernel)) ggX5_tempt_X5_isYear
theorem dX5_tempt_0 : decode cX5_tempt 0 = .ok (.aload_n 0, 1) := by decide +kernel
theorem dX5_tempt_1 : decode cX5_tempt 1 = .ok (.iload_n 1, 1) := by decide +kernel
theorem dX5_tempt_2 : decode cX5_tempt 2 = .ok (.invokevirtual 122, 3) := by decide +kernel
theorem dX5_tempt_5 : decode cX5_tempt 5 = .ok (.ifCond .ne 5, 3) := by decide +kernel
theorem dX5_tempt_8 : decode cX5_tempt 8 = .ok (.iconst (-1), 1) := by decide +kernel
theorem dX5_tempt_9 : decode cX5_tempt 9 = .ok (.ireturn, 1) := by decide +kernel
theorem dX5_tempt_10 : decode cX5_tempt 10 = .ok (.aload_n 0, 1) := by decide +kernel
theorem dX5_tempt_11 : decode cX5_tempt 11 = .ok (.iload_n 2, 1) := by decide +kernel
theorem dX5_tempt_12 : decode cX5_tempt 12 = .ok (.invokevirtual 125, 3) := by decide +kernel
theorem dX5_tempt_15 : decode cX5_tempt 15 = .ok (.ifCond .eq 13, 3) := by decide +kernel
theorem dX5_tempt_18 : decode cX5_tempt 18 = .ok (.iload_n 3, 1) := by decide +kernel
theorem dX5_tempt_19 : decode cX5_tempt 19 = .ok (.ifCond .lt 9, 3) := by decide +kernel
theorem dX5_tempt_22 : decode cX5_tempt 22 = .ok (.iload_n 3, 1) := by decide +kernel
theorem dX5_tempt_23 : decode cX5_tempt 23 = .ok (.bipush 9, 2) := by decide +kernel
theorem dX5_tempt_25 : decode cX5_tempt 25 = .ok (.if_icmp .le 6, 3) := by decide +kernel
theorem dX5_tempt_28 : decode cX5_tempt 28 = .ok (.bipush (-2), 2) := by decide +kernel
theorem dX5_tempt_30 : decode cX5_tempt 30 = .ok (.ireturn, 1) := by decide +kernel
theorem dX5_tempt_31 : decode cX5_tempt 31 = .ok (.aload_n 0, 1) := by decide +kernel
theorem dX5_tempt_32 : decode cX5_tempt 32 = .ok (.getfield 27, 3) := by decide +kernel
theorem dX5_tempt_35 : decode cX5_tempt 35 = .ok (.getfield 128, 3) := by decide +kernel
theorem dX5_tempt_38 : decode cX5_tempt 38 = .ok (.iload_n 1, 1) := by decide +kernel
theorem dX5_tempt_39 : decode cX5_tempt 39 = .ok (.aaload, 1) := by decide +kernel
theorem dX5_tempt_40 : decode cX5_tempt 40 = .ok (.iload_n 2, 1) := by decide +kernel
theorem dX5_tempt_41 : decode cX5_tempt 41 = .ok (.iaload, 1) := by decide +kernel
theorem dX5_tempt_42 : decode cX5_tempt 42 = .ok (.istore 4, 2) := by decide +kernel
theorem dX5_tempt_44 : decode cX5_tempt 44 = .ok (.aload_n 0, 1) := by decide +kernel
theorem dX5_tempt_45 : decode cX5_tempt 45 = .ok (.getfield 27, 3) := by decide +kernel
theorem dX5_tempt_48 : decode cX5_tempt 48 = .ok (.getfield 128, 3) := by decide +kernel
theorem dX5_tempt_51 : decode cX5_tempt 51 = .ok (.iload_n 1, 1) := by decide +kernel
theorem dX5_tempt_52 : decode cX5_tempt 52 = .ok (.aaload, 1) := by decide +kernel
theorem dX5_tempt_53 : decode cX5_tempt 53 = .ok (.iload_n 2, 1) := by decide +kernel
theorem dX5_tempt_54 : decode cX5_tempt 54 = .ok (.iload_n 3, 1) := by decide +kernel
theorem dX5_tempt_55 : decode cX5_tempt 55 = .ok (.iastore, 1) := by decide +kernel
theorem dX5_tempt_56 : decode cX5_tempt 56 = .ok (.iload 4, 2) := by decide +kernel
theorem dX5_tempt_58 : decode cX5_tempt 58 = .ok (.ireturn, 1) := by decide +kernel
set_option maxRecDepth 20000 in
theorem ggX5_send_X5_isSon : GoodIn wsX5_send wsX5_isSon := goodIn_r _ [10, 1, 11, 28, 29, 30, 31, 32, 33, 34, 35, 36, 37, 38, 39, 40, 41, 42, 43, 44] (by decide +kernel) (by decide +kernel)
set_option maxRecDepth 20000 in
theorem gX5_send_X5_isSon : GoodIn wsX5_send (wsV RX5 97 RX5 yX5_isSon wsX5_isSon) := goodIn_app (goodIn_of _ (by decide +kernel)) ggX5_send_X5_isSon
set_option maxRecDepth 20000 in
theorem ggX5_send_X5_isCourt : GoodIn wsX5_send wsX5_isCourt := goodIn_r _ [15, 1, 16, 28, 29, 30, 31, 32, 33, 34, 35, 36, 37, 38, 39, 40, 41, 42, 43, 44] (by decide +kernel) (by decide +kernel)
set_option maxRecDepth 20000 in
theorem gX5_send_X5_isCourt : GoodIn wsX5_send (wsV RX5 122 RX5 yX5_isCourt wsX5_isCourt) := goodIn_app (goodIn_of _ (by decide +kernel)) ggX5_send_X5_isCourt
set_option maxRecDepth 20000 in
theorem ggX5_send_X5_isYear : GoodIn wsX5_send wsX5_isYear := goodIn_r _ [20, 1, 21, 28, 29, 30, 31, 32, 33, 34, 35, 36, 37, 38, 39, 40, 41, 42, 43, 44] (by decide +kernel) (by decide +kernel)
set_option maxRecDepth 20000 in
theorem gX5_send_X5_isYear : GoodIn wsX5_send (wsV RX5 125 RX5 yX5_isYear wsX5_isYear) := goodIn_app (goodIn_of _ (by decide +kernel)) ggX5_send_X5_isYear
set_option maxRecDepth 20000 in
theorem ggX5_send_X1_ever : GoodIn wsX5_send wsX1_ever := goodIn_r _ [26, 27, 45, 46] (by decide +kernel) (by decide +kernel)
set_option maxRecDepth 20000 in
theorem gX5_send_X1_ever : GoodIn wsX5_send (wsV RX5 113 RX1 yX1_ever wsX1_ever) := goodIn_app (goodIn_of _ (by decide +kernel)) ggX5_send_X1_ever
theorem dX5_send_0 : decode cX5_send 0 = .ok (.aload_n 0, 1) := by decide +kernel
theorem dX5_send_1 : decode cX5_send 1 = .ok (.iload_n 1, 1) := by decide +kernel
theorem dX5_send_2 : decode cX5_send 2 = .ok (.invokevirtual 97, 3) := by decide +kernel
theorem dX5_send_5 : decode cX5_send 5 = .ok (.ifCond .eq 11, 3) := by decide +kernel
theorem dX5_send_8 : decode cX5_send 8 = .ok (.aload_n 0, 1) := by decide +kernel
theorem dX5_send_9 : decode cX5_send 9 = .ok (.iload_n 2, 1) := by decide +kernel
theorem dX5_send_10 : decode cX5_send 10 = .ok (.invokevirtual 122, 3) := by decide +kernel
theorem dX5_send_13 : decode cX5_send 13 = .ok (.ifCond .ne 5, 3) := by decide +kernel
theorem dX5_send_16 : decode cX5_send 16 = .ok (.iconst (-1), 1) := by decide +kernel
theorem dX5_send_17 : decode cX5_send 17 = .ok (.ireturn, 1) := by decide +kernel
theorem dX5_send_18 : decode cX5_send 18 = .ok (.aload_n 0, 1) := by decide +kernel
theorem dX5_send_19 : decode cX5_send 19 = .ok (.iload_n 3, 1) := by decide +kernel
theorem dX5_send_20 : decode cX5_send 20 = .ok (.invokevirtual 125, 3) := by decide +kernel
theorem dX5_send_23 : decode cX5_send 23 = .ok (.ifCond .ne 6, 3) := by decide +kernel
theorem dX5_send_26 : decode cX5_send 26 = .ok (.bipush (-2), 2) := by decide +kernel
theorem dX5_send_28 : decode cX5_send 28 = .ok (.ireturn, 1) := by decide +kernel
theorem dX5_send_29 : decode cX5_send 29 = .ok (.iload_n 2, 1) := by decide +kernel
theorem dX5_send_30 : decode cX5_send 30 = .ok (.aload_n 0, 1) := by decide +kernel
theorem dX5_send_31 : decode cX5_send 31 = .ok (.getfield 27, 3) := by decide +kernel
theorem dX5_send_34 : decode cX5_send 34 = .ok (.getfield 104, 3) := by decide +kernel
theorem dX5_send_37 : decode cX5_send 37 = .ok (.iload_n 1, 1) := by decide +kernel
theorem dX5_send_38 : decode cX5_send 38 = .ok (.iaload, 1) := by decide +kernel
theorem dX5_send_39 : decode cX5_send 39 = .ok (.if_icmp .ne 6, 3) := by decide +kernel
theorem dX5_send_42 : decode cX5_send 42 = .ok (.bipush (-3), 2) := by decide +kernel
theorem dX5_send_44 : decode cX5_send 44 = .ok (.ireturn, 1) := by decide +kernel
theorem dX5_send_45 : decode cX5_send 45 = .ok (.aload_n 0, 1) := by decide +kernel
theorem dX5_send_46 : decode cX5_send 46 = .ok (.getfield 37, 3) := by decide +kernel
theorem dX5_send_49 : decode cX5_send 49 = .ok (.iload_n 1, 1) := by decide +kernel
theorem dX5_send_50 : decode cX5_send 50 = .ok (.invokevirtual 113, 3) := by decide +kernel
theorem dX5_send_53 : decode cX5_send 53 = .ok (.ifCond .eq 33, 3) := by decide +kernel
theorem dX5_send_56 : decode cX5_send 56 = .ok (.aload_n 0, 1) := by decide +kernel
theorem dX5_send_57 : decode cX5_send 57 = .ok (.getfield 37, 3) := by decide +kernel
theorem dX5_send_60 : decode cX5_send 60 = .ok (.getfield 116, 3) := by decide +kernel
theorem dX5_send_63 : decode cX5_send 63 = .ok (.iload_n 1, 1) := by decide +kernel
theorem dX5_send_64 : decode cX5_send 64 = .ok (.iaload, 1) := by decide +kernel
theorem dX5_send_65 : decode cX5_send 65 = .ok (.iload_n 2, 1) := by decide +kernel
theorem dX5_send_66 : decode cX5_send 66 = .ok (.if_icmp .ne 16, 3) := by decide +kernel
theorem dX5_send_69 : decode cX5_send 69 = .ok (.aload_n 0, 1) := by decide +kernel
theorem dX5_send_70 : decode cX5_send 70 = .ok (.getfield 37, 3) := by decide +kernel
theorem dX5_send_73 : decode cX5_send 73 = .ok (.getfield 119, 3) := by decide +kernel
theorem dX5_send_76 : decode cX5_send 76 = .ok (.iload_n 1, 1) := by decide +kernel
theorem dX5_send_77 : decode cX5_send 77 = .ok (.iaload, 1) := by decide +kernel
theorem dX5_send_78 : decode cX5_send 78 = .ok (.iload_n 3, 1) := by decide +kernel
theorem dX5_send_79 : decode cX5_send 79 = .ok (.if_icmp .eq 7, 3) := by decide +kernel
theorem dX5_send_82 : decode cX5_send 82 = .ok (.iconst 1, 1) := by decide +kernel
theorem dX5_send_83 : decode cX5_send 83 = .ok (.goto 4, 3) := by decide +kernel
theorem dX5_send_86 : decode cX5_send 86 = .ok (.iconst 0, 1) := by decide +kernel
theorem dX5_send_87 : decode cX5_send 87 = .ok (.istore 4, 2) := by decide +kernel
theorem dX5_send_89 : decode cX5_send 89 = .ok (.aload_n 0, 1) := by decide +kernel
theorem dX5_send_90 : decode cX5_send 90 = .ok (.getfield 37, 3) := by decide +kernel
theorem dX5_send_93 : decode cX5_send 93 = .ok (.getfield 116, 3) := by decide +kernel
theorem dX5_send_96 : decode cX5_send 96 = .ok (.iload_n 1, 1) := by decide +kernel
theorem dX5_send_97 : decode cX5_send 97 = .ok (.iload_n 2, 1) := by decide +kernel
theorem dX5_send_98 : decode cX5_send 98 = .ok (.iastore, 1) := by decide +kernel
theorem dX5_send_99 : decode cX5_send 99 = .ok (.aload_n 0, 1) := by decide +kernel
theorem dX5_send_100 : decode cX5_send 100 = .ok (.getfield 37, 3) := by decide +kernel
theorem dX5_send_103 : decode cX5_send 103 = .ok (.getfield 119, 3) := by decide +kernel
theorem dX5_send_106 : decode cX5_send 106 = .ok (.iload_n 1, 1) := by decide +kernel
theorem dX5_send_107 : decode cX5_send 107 = .ok (.iload_n 3, 1) := by decide +kernel
theorem dX5_send_108 : decode cX5_send 108 = .ok (.iastore, 1) := by decide +kernel
theorem dX5_send_109 : decode cX5_send 109 = .ok (.iload 4, 2) := by decide +kernel
theorem dX5_send_111 : decode cX5_send 111 = .ok (.ifCond .eq 7, 3) := by decide +kernel
theorem dX5_send_114 : decode cX5_send 114 = .ok (.iconst 0, 1) := by decide +kernel
theorem dX5_send_115 : decode cX5_send 115 = .ok (.goto 4, 3) := by decide +kernel
theorem dX5_send_118 : decode cX5_send 118 = .ok (.iconst 1, 1) := by decide +kernel
theorem dX5_send_119 : decode cX5_send 119 = .ok (.ireturn, 1) := by decide +kernel
set_option maxRecDepth 20000 in
theorem ggX5_home_X5_isSon : GoodIn wsX5_home wsX5_isSon := goodIn_r _ [7, 8, 9, 16, 17, 18, 19, 20, 21, 22, 23, 24, 27, 28, 29, 30, 31, 32, 33, 34] (by decide +kernel) (by decide +kernel)
set_option maxRecDepth 20000 in
theorem gX5_home_X5_isSon : GoodIn wsX5_home (wsV RX5 97 RX5 yX5_isSon wsX5_isSon) := goodIn_app (goodIn_of _ (by decide +kernel)) ggX5_home_X5_isSon
set_option maxRecDepth 20000 in
theorem ggX5_home_X1_ever : GoodIn wsX5_home wsX1_ever := goodIn_r _ [14, 15, 25, 26] (by decide +kernel) (by decide +kernel)
set_option maxRecDepth 20000 in
theorem gX5_home_X1_ever : GoodIn wsX5_home (wsV RX5 113 RX1 yX1_ever wsX1_ever) := goodIn_app (goodIn_of _ (by decide +kernel)) ggX5_home_X1_ever
theorem dX5_home_0 : decode cX5_home 0 = .ok (.aload_n 0, 1) := by decide +kernel
theorem dX5_home_1 : decode cX5_home 1 = .ok (.iload_n 1, 1) := by decide +kernel
theorem dX5_home_2 : decode cX5_home 2 = .ok (.invokevirtual 97, 3) := by decide +kernel
theorem dX5_home_5 : decode cX5_home 5 = .ok (.ifCond .ne 5, 3) := by decide +kernel
theorem dX5_home_8 : decode cX5_home 8 = .ok (.iconst (-1), 1) := by decide +kernel
theorem dX5_home_9 : decode cX5_home 9 = .ok (.ireturn, 1) := by decide +kernel
theorem dX5_home_10 : decode cX5_home 10 = .ok (.aload_n 0, 1) := by decide +kernel
theorem dX5_home_11 : decode cX5_home 11 = .ok (.getfield 37, 3) := by decide +kernel
theorem dX5_home_14 : decode cX5_home 14 = .ok (.iload_n 1, 1) := by decide +kernel
theorem dX5_home_15 : decode cX5_home 15 = .ok (.invokevirtual 113, 3) := by decide +kernel
theorem dX5_home_18 : decode cX5_home 18 = .ok (.ifCond .ne 5, 3) := by decide +kernel
theorem dX5_home_21 : decode cX5_home 21 = .ok (.iconst 0, 1) := by decide +kernel
theorem dX5_home_22 : decode cX5_home 22 = .ok (.ireturn, 1) := by decide +kernel
theorem dX5_home_23 : decode cX5_home 23 = .ok (.aload_n 0, 1) := by decide +kernel
theorem dX5_home_24 : decode cX5_home 24 = .ok (.getfield 37, 3) := by decide +kernel
theorem dX5_home_27 : decode cX5_home 27 = .ok (.getfield 119, 3) := by decide +kernel
theorem dX5_home_30 : decode cX5_home 30 = .ok (.iload_n 1, 1) := by decide +kernel
theorem dX5_home_31 : decode cX5_home 31 = .ok (.bipush 6, 2) := by decide +kernel
theorem dX5_home_33 : decode cX5_home 33 = .ok (.iastore, 1) := by decide +kernel
theorem dX5_home_34 : decode cX5_home 34 = .ok (.iconst 1, 1) := by decide +kernel
theorem dX5_home_35 : decode cX5_home 35 = .ok (.ireturn, 1) := by decide +kernel
set_option maxRecDepth 20000 in
theorem ggX5_stake_X5_isSon : GoodIn wsX5_stake wsX5_isSon := goodIn_r _ [9, 2, 10, 29, 30, 31, 32, 33, 34, 35, 36, 37, 38, 39, 40, 41, 42, 43, 44, 45] (by decide +kernel) (by decide +kernel)
set_option maxRecDepth 20000 in
theorem gX5_stake_X5_isSon : GoodIn wsX5_stake (wsV RX5 97 RX5 yX5_isSon wsX5_isSon) := goodIn_app (goodIn_of _ (by decide +kernel)) ggX5_stake_X5_isSon
set_option maxRecDepth 20000 in
theorem ggX5_stake_X5_isYear : GoodIn wsX5_stake wsX5_isYear := goodIn_r _ [14, 2, 15, 29, 30, 31, 32, 33, 34, 35, 36, 37, 38, 39, 40, 41, 42, 43, 44, 45] (by decide +kernel) (by decide +kernel)
set_option maxRecDepth 20000 in
theorem gX5_stake_X5_isYear : GoodIn wsX5_stake (wsV RX5 125 RX5 yX5_isYear wsX5_isYear) := goodIn_app (goodIn_of _ (by decide +kernel)) ggX5_stake_X5_isYear
set_option maxRecDepth 20000 in
theorem ggX5_stake_X1_isAway : GoodIn wsX5_stake wsX1_isAway := goodIn_r _ [20, 21, 46, 47] (by decide +kernel) (by decide +kernel)
set_option maxRecDepth 20000 in
theorem gX5_stake_X1_isAway : GoodIn wsX5_stake (wsV RX5 132 RX1 yX1_isAway wsX1_isAway) := goodIn_app (goodIn_of _ (by decide +kernel)) ggX5_stake_X1_isAway
set_option maxRecDepth 20000 in
theorem ggX5_stake_X4_costOf : GoodIn wsX5_stake wsX4_costOf := goodIn_r _ [26, 27, 28, 38, 39, 40, 41, 42, 43, 44, 45] (by decide +kernel) (by decide +kernel)
set_option maxRecDepth 20000 in
theorem gX5_stake_X4_costOf : GoodIn wsX5_stake (wsV RX5 136 RX4 yX4_costOf wsX4_costOf) := goodIn_app (goodIn_of _ (by decide +kernel)) ggX5_stake_X4_costOf
theorem dX5_stake_0 : decode cX5_stake 0 = .ok (.aload_n 0, 1) := by decide +kernel
theorem dX5_stake_1 : decode cX5_stake 1 = .ok (.iload_n 1, 1) := by decide +kernel
theorem dX5_stake_2 : decode cX5_stake 2 = .ok (.invokevirtual 97, 3) := by decide +kernel
theorem dX5_stake_5 : decode cX5_stake 5 = .ok (.ifCond .ne 5, 3) := by decide +kernel
theorem dX5_stake_8 : decode cX5_stake 8 = .ok (.iconst (-1), 1) := by decide +kernel
theorem dX5_stake_9 : decode cX5_stake 9 = .ok (.ireturn, 1) := by decide +kernel
theorem dX5_stake_10 : decode cX5_stake 10 = .ok (.aload_n 0, 1) := by decide +kernel
theorem dX5_stake_11 : decode cX5_stake 11 = .ok (.iload_n 2, 1) := by decide +kernel
theorem dX5_stake_12 : decode cX5_stake 12 = .ok (.invokevirtual 125, 3) := by decide +kernel
theorem dX5_stake_15 : decode cX5_stake 15 = .ok (.ifCond .ne 6, 3) := by decide +kernel
theorem dX5_stake_18 : decode cX5_stake 18 = .ok (.bipush (-2), 2) := by decide +kernel
theorem dX5_stake_20 : decode cX5_stake 20 = .ok (.ireturn, 1) := by decide +kernel
theorem dX5_stake_21 : decode cX5_stake 21 = .ok (.aload_n 0, 1) := by decide +kernel
theorem dX5_stake_22 : decode cX5_stake 22 = .ok (.getfield 37, 3) := by decide +kernel
theorem dX5_stake_25 : decode cX5_stake 25 = .ok (.iload_n 1, 1) := by decide +kernel
theorem dX5_stake_26 : decode cX5_stake 26 = .ok (.iload_n 2, 1) := by decide +kernel
theorem dX5_stake_27 : decode cX5_stake 27 = .ok (.invokevirtual 132, 3) := by decide +kernel
theorem dX5_stake_30 : decode cX5_stake 30 = .ok (.ifCond .ne 6, 3) := by decide +kernel
theorem dX5_stake_33 : decode cX5_stake 33 = .ok (.bipush (-9), 2) := by decide +kernel
theorem dX5_stake_35 : decode cX5_stake 35 = .ok (.ireturn, 1) := by decide +kernel
theorem dX5_stake_36 : decode cX5_stake 36 = .ok (.aload_n 0, 1) := by decide +kernel
theorem dX5_stake_37 : decode cX5_stake 37 = .ok (.getfield 27, 3) := by decide +kernel
theorem dX5_stake_40 : decode cX5_stake 40 = .ok (.iload_n 1, 1) := by decide +kernel
theorem dX5_stake_41 : decode cX5_stake 41 = .ok (.aload_n 0, 1) := by decide +kernel
theorem dX5_stake_42 : decode cX5_stake 42 = .ok (.getfield 27, 3) := by decide +kernel
theorem dX5_stake_45 : decode cX5_stake 45 = .ok (.getfield 100, 3) := by decide +kernel
theorem dX5_stake_48 : decode cX5_stake 48 = .ok (.iload_n 1, 1) := by decide +kernel
theorem dX5_stake_49 : decode cX5_stake 49 = .ok (.iaload, 1) := by decide +kernel
theorem dX5_stake_50 : decode cX5_stake 50 = .ok (.iload_n 2, 1) := by decide +kernel
theorem dX5_stake_51 : decode cX5_stake 51 = .ok (.aload_n 0, 1) := by decide +kernel
theorem dX5_stake_52 : decode cX5_stake 52 = .ok (.getfield 37, 3) := by decide +kernel
theorem dX5_stake_55 : decode cX5_stake 55 = .ok (.getfield 119, 3) := by decide +kernel
theorem dX5_stake_58 : decode cX5_stake 58 = .ok (.iload_n 1, 1) := by decide +kernel
theorem dX5_stake_59 : decode cX5_stake 59 = .ok (.iaload, 1) := by decide +kernel
theorem dX5_stake_60 : decode cX5_stake 60 = .ok (.isub, 1) := by decide +kernel
theorem dX5_stake_61 : decode cX5_stake 61 = .ok (.invokevirtual 136, 3) := by decide +kernel
theorem dX5_stake_64 : decode cX5_stake 64 = .ok (.ireturn, 1) := by decide +kernel
set_option maxRecDepth 20000 in
theorem ggX5_stakes_X5_isCourt : GoodIn wsX5_stakes wsX5_isCourt := goodIn_r _ [7, 1, 8, 35, 36, 37, 38, 39, 40, 41, 42, 43, 44, 45, 46, 47, 48, 49, 50, 51] (by decide +kernel) (by decide +kernel)
set_option maxRecDepth 20000 in
theorem gX5_stakes_X5_isCourt : GoodIn wsX5_stakes (wsV RX5 122 RX5 yX5_isCourt wsX5_isCourt) := goodIn_app (goodIn_of _ (by decide +kernel)) ggX5_stakes_X5_isCourt
set_option maxRecDepth 20000 in
theorem ggX5_stakes_X5_isYear : GoodIn wsX5_stakes wsX5_isYear := goodIn_r _ [12, 1, 13, 35, 36, 37, 38, 39, 40, 41, 42, 43, 44, 45, 46, 47, 48, 49, 50, 51] (by decide +kernel) (by decide +kernel)
set_option maxRecDepth 20000 in
theorem gX5_stakes_X5_isYear : GoodIn wsX5_stakes (wsV RX5 125 RX5 yX5_isYear wsX5_isYear) := goodIn_app (goodIn_of _ (by decide +kernel)) ggX5_stakes_X5_isYear
set_option maxRecDepth 20000 in
theorem ggX5_stakes_X4_costsOf : GoodIn wsX5_stakes wsX4_costsOf := goodIn_r _ [18, 19, 20, 21, 22, 23, 24, 25, 26, 27, 28, 29, 30, 31, 17, 32, 33, 34, 44, 45, 46, 47, 48, 49, 50, 51, 52, 53] (by decide +kernel) (by decide +kernel)
set_option maxRecDepth 20000 in
theorem gX5_stakes_X4_costsOf : GoodIn wsX5_stakes (wsV RX5 140 RX4 yX4_costsOf wsX4_costsOf) := goodIn_app (goodIn_of _ (by decide +kernel)) ggX5_stakes_X4_costsOf
theorem dX5_stakes_0 : decode cX5_stakes 0 = .ok (.aload_n 0, 1) := by decide +kernel
theorem dX5_stakes_1 : decode cX5_stakes 1 = .ok (.iload_n 1, 1) := by decide +kernel
theorem dX5_stakes_2 : decode cX5_stakes 2 = .ok (.invokevirtual 122, 3) := by decide +kernel
theorem dX5_stakes_5 : decode cX5_stakes 5 = .ok (.ifCond .ne 5, 3) := by decide +kernel
theorem dX5_stakes_8 : decode cX5_stakes 8 = .ok (.iconst (-1), 1) := by decide +kernel
theorem dX5_stakes_9 : decode cX5_stakes 9 = .ok (.ireturn, 1) := by decide +kernel
theorem dX5_stakes_10 : decode cX5_stakes 10 = .ok (.aload_n 0, 1) := by decide +kernel
theorem dX5_stakes_11 : decode cX5_stakes 11 = .ok (.iload_n 2, 1) := by decide +kernel
theorem dX5_stakes_12 : decode cX5_stakes 12 = .ok (.invokevirtual 125, 3) := by decide +kernel
theorem dX5_stakes_15 : decode cX5_stakes 15 = .ok (.ifCond .ne 6, 3) := by decide +kernel
theorem dX5_stakes_18 : decode cX5_stakes 18 = .ok (.bipush (-2), 2) := by decide +kernel
theorem dX5_stakes_20 : decode cX5_stakes 20 = .ok (.ireturn, 1) := by decide +kernel
theorem dX5_stakes_21 : decode cX5_stakes 21 = .ok (.aload_n 0, 1) := by decide +kernel
theorem dX5_stakes_22 : decode cX5_stakes 22 = .ok (.getfield 27, 3) := by decide +kernel
theorem dX5_stakes_25 : decode cX5_stakes 25 = .ok (.iload_n 1, 1) := by decide +kernel
theorem dX5_stakes_26 : decode cX5_stakes 26 = .ok (.iload_n 2, 1) := by decide +kernel
theorem dX5_stakes_27 : decode cX5_stakes 27 = .ok (.aload_n 0, 1) := by decide +kernel
theorem dX5_stakes_28 : decode cX5_stakes 28 = .ok (.getfield 37, 3) := by decide +kernel
theorem dX5_stakes_31 : decode cX5_stakes 31 = .ok (.iconst 0, 1) := by decide +kernel
theorem dX5_stakes_32 : decode cX5_stakes 32 = .ok (.invokevirtual 140, 3) := by decide +kernel
theorem dX5_stakes_35 : decode cX5_stakes 35 = .ok (.ireturn, 1) := by decide +kernel
set_option maxRecDepth 20000 in
theorem ggX5_tempted_X5_hasTreaty : GoodIn wsX5_tempted wsX5_hasTreaty := goodIn_r _ [8, 1, 9, 41, 42, 43, 44, 45, 46, 47, 48, 49, 50, 51, 52, 53, 54, 55, 56, 57] (by decide +kernel) (by decide +kernel)
set_option maxRecDepth 20000 in
theorem gX5_tempted_X5_hasTreaty : GoodIn wsX5_tempted (wsV RX5 144 RX5 yX5_hasTreaty wsX5_hasTreaty) := goodIn_app (goodIn_of _ (by decide +kernel)) ggX5_tempted_X5_hasTreaty
set_option maxRecDepth 20000 in
theorem ggX5_tempted_X5_isYear : GoodIn wsX5_tempted wsX5_isYear := goodIn_r _ [13, 1, 14, 41, 42, 43, 44, 45, 46, 47, 48, 49, 50, 51, 52, 53, 54, 55, 56, 57] (by decide +kernel) (by decide +kernel)
set_option maxRecDepth 20000 in
theorem gX5_tempted_X5_isYear : GoodIn wsX5_tempted (wsV RX5 125 RX5 yX5_isYear wsX5_isYear) := goodIn_app (goodIn_of _ (by decide +kernel)) ggX5_tempted_X5_isYear
set_option maxRecDepth 20000 in
theorem ggX5_tempted_X4_wouldBreak : GoodIn wsX5_tempted wsX4_wouldBreak := goodIn_r _ [19, 20, 21, 22, 23, 18, 24, 25, 26, 27, 28, 29, 30, 31, 32, 33, 34, 35, 36, 37, 38, 39, 40, 50, 51, 52, 53, 54, 55, 56, 57, 58, 59] (by decide +kernel) (by decide +kernel)
set_option maxRecDepth 20000 in
theorem gX5_tempted_X4_wouldBreak : GoodIn wsX5_tempted (wsV RX5 151 RX4 yX4_wouldBreak wsX4_wouldBreak) := goodIn_app (goodIn_of _ (by decide +kernel)) ggX5_tempted_X4_wouldBreak
theorem dX5_tempted_0 : decode cX5_tempted 0 = .ok (.aload_n 0, 1) := by decide +kernel
theorem dX5_tempted_1 : decode cX5_tempted 1 = .ok (.invokevirtual 144, 3) := by decide +kernel
theorem dX5_tempted_4 : decode cX5_tempted 4 = .ok (.ifCond .ne 6, 3) := by decide +kernel
theorem dX5_tempted_7 : decode cX5_tempted 7 = .ok (.bipush (-3), 2) := by decide +kernel
theorem dX5_tempted_9 : decode cX5_tempted 9 = .ok (.ireturn, 1) := by decide +kernel
theorem dX5_tempted_10 : decode cX5_tempted 10 = .ok (.aload_n 0, 1) := by decide +kernel
theorem dX5_tempted_11 : decode cX5_tempted 11 = .ok (.iload_n 1, 1) := by decide +kernel
theorem dX5_tempted_12 : decode cX5_tempted 12 = .ok (.invokevirtual 125, 3) := by decide +kernel
theorem dX5_tempted_15 : decode cX5_tempted 15 = .ok (.ifCond .ne 6, 3) := by decide +kernel
theorem dX5_tempted_18 : decode cX5_tempted 18 = .ok (.bipush (-2), 2) := by decide +kernel
theorem dX5_tempted_20 : decode cX5_tempted 20 = .ok (.ireturn, 1) := by decide +kernel
theorem dX5_tempted_21 : decode cX5_tempted 21 = .ok (.iconst 0, 1) := by decide +kernel
theorem dX5_tempted_22 : decode cX5_tempted 22 = .ok (.istore_n 2, 1) := by decide +kernel
theorem dX5_tempted_23 : decode cX5_tempted 23 = .ok (.iconst 0, 1) := by decide +kernel
theorem dX5_tempted_24 : decode cX5_tempted 24 = .ok (.istore_n 3, 1) := by decide +kernel
theorem dX5_tempted_25 : decode cX5_tempted 25 = .ok (.iload_n 3, 1) := by decide +kernel
theorem dX5_tempted_26 : decode cX5_tempted 26 = .ok (.aload_n 0, 1) := by decide +kernel
theorem dX5_tempted_27 : decode cX5_tempted 27 = .ok (.getfield 27, 3) := by decide +kernel
theorem dX5_tempted_30 : decode cX5_tempted 30 = .ok (.getfield 148, 3) := by decide +kernel
theorem dX5_tempted_33 : decode cX5_tempted 33 = .ok (.if_icmp .ge 32, 3) := by decide +kernel
theorem dX5_tempted_36 : decode cX5_tempted 36 = .ok (.aload_n 0, 1) := by decide +kernel
theorem dX5_tempted_37 : decode cX5_tempted 37 = .ok (.getfield 27, 3) := by decide +kernel
theorem dX5_tempted_40 : decode cX5_tempted 40 = .ok (.iload_n 3, 1) := by decide +kernel
theorem dX5_tempted_41 : decode cX5_tempted 41 = .ok (.iload_n 1, 1) := by decide +kernel
theorem dX5_tempted_42 : decode cX5_tempted 42 = .ok (.aload_n 0, 1) := by decide +kernel
theorem dX5_tempted_43 : decode cX5_tempted 43 = .ok (.getfield 37, 3) := by decide +kernel
theorem dX5_tempted_46 : decode cX5_tempted 46 = .ok (.iconst 0, 1) := by decide +kernel
theorem dX5_tempted_47 : decode cX5_tempted 47 = .ok (.invokevirtual 151, 3) := by decide +kernel
theorem dX5_tempted_50 : decode cX5_tempted 50 = .ok (.ifCond .eq 9, 3) := by decide +kernel
theorem dX5_tempted_53 : decode cX5_tempted 53 = .ok (.iload_n 2, 1) := by decide +kernel
theorem dX5_tempted_54 : decode cX5_tempted 54 = .ok (.iconst 1, 1) := by decide +kernel
theorem dX5_tempted_55 : decode cX5_tempted 55 = .ok (.iload_n 3, 1) := by decide +kernel
theorem dX5_tempted_56 : decode cX5_tempted 56 = .ok (.ishl, 1) := by decide +kernel
theorem dX5_tempted_57 : decode cX5_tempted 57 = .ok (.ior, 1) := by decide +kernel
theorem dX5_tempted_58 : decode cX5_tempted 58 = .ok (.istore_n 2, 1) := by decide +kernel
theorem dX5_tempted_59 : decode cX5_tempted 59 = .ok (.iinc 3 1, 3) := by decide +kernel
theorem dX5_tempted_62 : decode cX5_tempted 62 = .ok (.goto (-37), 3) := by decide +kernel
theorem dX5_tempted_65 : decode cX5_tempted 65 = .ok (.iload_n 2, 1) := by decide +kernel
theorem dX5_tempted_66 : decode cX5_tempted 66 = .ok (.ireturn, 1) := by decide +kernel
set_option maxRecDepth 20000 in
theorem ggX5_broken_X5_hasTreaty : GoodIn wsX5_broken wsX5_hasTreaty := goodIn_r _ [6, 7, 8, 50, 51, 52, 53, 54, 55, 56, 57, 58, 59, 60, 61, 62, 63, 64, 65, 66] (by decide +kernel) (by decide +kernel)
set_option maxRecDepth 20000 in
theorem gX5_broken_X5_hasTreaty : GoodIn wsX5_broken (wsV RX5 144 RX5 yX5_hasTreaty wsX5_hasTreaty) := goodIn_app (goodIn_of _ (by decide +kernel)) ggX5_broken_X5_hasTreaty
set_option maxRecDepth 20000 in
theorem ggX5_broken_X5_ofBreak : GoodIn wsX5_broken wsX5_ofBreak := goodIn_r _ [12, 7, 13, 14, 15, 16, 17, 18, 19, 20, 21, 22, 23, 24, 25, 26, 27, 28, 29, 30, 31, 32, 33, 34, 35, 36, 37, 38, 39, 40, 41, 42, 43, 44, 45, 46, 47, 48, 49, 50, 51, 52, 53, 54, 55, 56, 57, 58, 59, 60, 61, 62, 63, 64, 65, 66, 67, 68] (by decide +kernel) (by decide +kernel)
set_option maxRecDepth 20000 in
theorem gX5_broken_X5_ofBreak : GoodIn wsX5_broken (wsV RX5 155 RX5 yX5_ofBreak wsX5_ofBreak) := goodIn_app (goodIn_of _ (by decide +kernel)) ggX5_broken_X5_ofBreak
theorem dX5_broken_0 : decode cX5_broken 0 = .ok (.iload_n 1, 1) := by decide +kernel
theorem dX5_broken_1 : decode cX5_broken 1 = .ok (.ifCond .eq 11, 3) := by decide +kernel
theorem dX5_broken_4 : decode cX5_broken 4 = .ok (.iload_n 1, 1) := by decide +kernel
theorem dX5_broken_5 : decode cX5_broken 5 = .ok (.iconst 1, 1) := by decide +kernel
theorem dX5_broken_6 : decode cX5_broken 6 = .ok (.if_icmp .eq 6, 3) := by decide +kernel
theorem dX5_broken_9 : decode cX5_broken 9 = .ok (.bipush (-2), 2) := by decide +kernel
theorem dX5_broken_11 : decode cX5_broken 11 = .ok (.ireturn, 1) := by decide +kernel
theorem dX5_broken_12 : decode cX5_broken 12 = .ok (.aload_n 0, 1) := by decide +kernel
theorem dX5_broken_13 : decode cX5_broken 13 = .ok (.invokevirtual 144, 3) := by decide +kernel
theorem dX5_broken_16 : decode cX5_broken 16 = .ok (.ifCond .ne 6, 3) := by decide +kernel
theorem dX5_broken_19 : decode cX5_broken 19 = .ok (.bipush (-3), 2) := by decide +kernel
theorem dX5_broken_21 : decode cX5_broken 21 = .ok (.ireturn, 1) := by decide +kernel
theorem dX5_broken_22 : decode cX5_broken 22 = .ok (.aload_n 0, 1) := by decide +kernel
theorem dX5_broken_23 : decode cX5_broken 23 = .ok (.aload_n 0, 1) := by decide +kernel
theorem dX5_broken_24 : decode cX5_broken 24 = .ok (.getfield 37, 3) := by decide +kernel
theorem dX5_broken_27 : decode cX5_broken 27 = .ok (.iload_n 1, 1) := by decide +kernel
theorem dX5_broken_28 : decode cX5_broken 28 = .ok (.invokevirtual 155, 3) := by decide +kernel
theorem dX5_broken_31 : decode cX5_broken 31 = .ok (.ireturn, 1) := by decide +kernel
set_option maxRecDepth 20000 in
theorem ggX5_ofBreak_X4_breakYear : GoodIn wsX5_ofBreak wsX4_breakYear := goodIn_r _ [6, 7, 8, 9, 10, 5, 11, 12, 13, 14, 15, 16, 17, 18, 19, 20, 21, 22, 23, 24, 25, 26, 27, 28, 29, 30, 31, 32, 33, 34, 35, 36, 37, 48, 49, 50, 51, 52, 53, 54, 55, 56, 57] (by decide +kernel) (by decide +kernel)
set_option maxRecDepth 20000 in
theorem gX5_ofBreak_X4_breakYear : GoodIn wsX5_ofBreak (wsV RX5 159 RX4 yX4_breakYear wsX4_breakYear) := goodIn_app (goodIn_of _ (by decide +kernel)) ggX5_ofBreak_X4_breakYear
set_option maxRecDepth 20000 in
theorem ggX5_ofBreak_X4_firstToBreak : GoodIn wsX5_ofBreak wsX4_firstToBreak := goodIn_r _ [11, 12, 13, 14, 15, 5, 16, 17, 18, 19, 20, 21, 22, 23, 24, 25, 26, 27, 28, 29, 30, 31, 32, 33, 34, 35, 36, 37, 48, 49, 50, 51, 52, 53, 54, 55, 56, 57] (by decide +kernel) (by decide +kernel)
set_option maxRecDepth 20000 in
theorem gX5_ofBreak_X4_firstToBreak : GoodIn wsX5_ofBreak (wsV RX5 162 RX4 yX4_firstToBreak wsX4_firstToBreak) := goodIn_app (goodIn_of _ (by decide +kernel)) ggX5_ofBreak_X4_firstToBreak
theorem dX5_ofBreak_0 : decode cX5_ofBreak 0 = .ok (.aload_n 0, 1) := by decide +kernel
theorem dX5_ofBreak_1 : decode cX5_ofBreak 1 = .ok (.getfield 27, 3) := by decide +kernel
theorem dX5_ofBreak_4 : decode cX5_ofBreak 4 = .ok (.aload_n 1, 1) := by decide +kernel
theorem dX5_ofBreak_5 : decode cX5_ofBreak 5 = .ok (.iconst 0, 1) := by decide +kernel
theorem dX5_ofBreak_6 : decode cX5_ofBreak 6 = .ok (.invokevirtual 159, 3) := by decide +kernel
theorem dX5_ofBreak_9 : decode cX5_ofBreak 9 = .ok (.istore_n 3, 1) := by decide +kernel
theorem dX5_ofBreak_10 : decode cX5_ofBreak 10 = .ok (.iload_n 2, 1) := by decide +kernel
theorem dX5_ofBreak_11 : decode cX5_ofBreak 11 = .ok (.ifCond .eq 9, 3) := by decide +kernel
theorem dX5_ofBreak_14 : decode cX5_ofBreak 14 = .ok (.iload_n 3, 1) := by decide +kernel
theorem dX5_ofBreak_15 : decode cX5_ofBreak 15 = .ok (.bipush (-9), 2) := by decide +kernel
theorem dX5_ofBreak_17 : decode cX5_ofBreak 17 = .ok (.if_icmp .ne 7, 3) := by decide +kernel
theorem dX5_ofBreak_20 : decode cX5_ofBreak 20 = .ok (.iload_n 3, 1) := by decide +kernel
theorem dX5_ofBreak_21 : decode cX5_ofBreak 21 = .ok (.goto 13, 3) := by decide +kernel
theorem dX5_ofBreak_24 : decode cX5_ofBreak 24 = .ok (.aload_n 0, 1) := by decide +kernel
theorem dX5_ofBreak_25 : decode cX5_ofBreak 25 = .ok (.getfield 27, 3) := by decide +kernel
theorem dX5_ofBreak_28 : decode cX5_ofBreak 28 = .ok (.iload_n 3, 1) := by decide +kernel
theorem dX5_ofBreak_29 : decode cX5_ofBreak 29 = .ok (.aload_n 1, 1) := by decide +kernel
theorem dX5_ofBreak_30 : decode cX5_ofBreak 30 = .ok (.iconst 0, 1) := by decide +kernel
theorem dX5_ofBreak_31 : decode cX5_ofBreak 31 = .ok (.invokevirtual 162, 3) := by decide +kernel
theorem dX5_ofBreak_34 : decode cX5_ofBreak 34 = .ok (.ireturn, 1) := by decide +kernel
set_option maxRecDepth 20000 in
theorem ggX5_plan_X5_isSheet : GoodIn wsX5_plan wsX5_isSheet := goodIn_r _ [8] (by decide +kernel) (by decide +kernel)
set_option maxRecDepth 20000 in
theorem gX5_plan_X5_isSheet : GoodIn wsX5_plan (va_wsS RX5 59 yX5_isSheet wsX5_isSheet) := goodIn_app (goodIn_of _ (by decide +kernel)) ggX5_plan_X5_isSheet
set_option maxRecDepth 20000 in
theorem ggX5_plan_X5_isLane : GoodIn wsX5_plan wsX5_isLane := goodIn_r _ [11] (by decide +kernel) (by decide +kernel)
set_option maxRecDepth 20000 in
theorem gX5_plan_X5_isLane : GoodIn wsX5_plan (va_wsS RX5 63 yX5_isLane wsX5_isLane) := goodIn_app (goodIn_of _ (by decide +kernel)) ggX5_plan_X5_isLane
set_option maxRecDepth 20000 in
theorem ggX5_plan_X5_isOfPlan : GoodIn wsX5_plan wsX5_isOfPlan := goodIn_r _ [14] (by decide +kernel) (by decide +kernel)
set_option maxRecDepth 20000 in
theorem gX5_plan_X5_isOfPlan : GoodIn wsX5_plan (va_wsS RX5 166 yX5_isOfPlan wsX5_isOfPlan) := goodIn_app (goodIn_of _ (by decide +kernel)) ggX5_plan_X5_isOfPlan
set_option maxRecDepth 20000 in
theorem ggX5_plan_X5_rowFault : GoodIn wsX5_plan wsX5_rowFault := goodIn_r _ [17, 18, 19, 7, 20, 21, 22, 23, 24, 25, 26, 27, 28, 134, 135, 136, 137] (by decide +kernel) (by decide +kernel)
set_option maxRecDepth 20000 in
theorem gX5_plan_X5_rowFault : GoodIn wsX5_plan (va_wsS RX5 66 yX5_rowFault wsX5_rowFault) := goodIn_app (goodIn_of _ (by decide +kernel)) ggX5_plan_X5_rowFault
set_option maxRecDepth 20000 in
theorem ggX5_plan_X5_faulted : GoodIn wsX5_plan wsX5_faulted := goodIn_r _ [32, 1, 117, 118, 119, 120, 121, 122, 123, 124, 125] (by decide +kernel) (by decide +kernel)
set_option maxRecDepth 20000 in
theorem gX5_plan_X5_faulted : GoodIn wsX5_plan (wsV RX5 70 RX5 yX5_faulted wsX5_faulted) := goodIn_app (goodIn_of _ (by decide +kernel)) ggX5_plan_X5_faulted
set_option maxRecDepth 20000 in
theorem ggX5_plan_X5_hasTreaty : GoodIn wsX5_plan wsX5_hasTreaty := goodIn_r _ [36, 3, 4, 117, 118, 119, 120, 121, 122, 123, 124, 125, 126, 127, 128, 129, 130, 131, 132, 133] (by decide +kernel) (by decide +kernel)
set_option maxRecDepth 20000 in
theorem gX5_plan_X5_hasTreaty : GoodIn wsX5_plan (wsV RX5 144 RX5 yX5_hasTreaty wsX5_hasTreaty) := goodIn_app (goodIn_of _ (by decide +kernel)) ggX5_plan_X5_hasTreaty
set_option maxRecDepth 20000 in
theorem ggX5_plan_X5_tryPlan : GoodIn wsX5_plan wsX5_tryPlan := goodIn_r _ [40, 41, 3, 4, 42, 43, 44, 45, 46, 47, 48, 49, 50, 51, 52, 53, 54, 55, 56, 26, 57, 58, 59, 60, 61, 62, 28, 117, 118, 119, 120, 121, 122, 123, 124, 125, 126, 127, 128, 129, 130, 131, 132, 133, 138, 139, 134, 135, 136, 137] (by decide +kernel) (by decide +kernel)
set_option maxRecDepth 20000 in
theorem gX5_plan_X5_tryPlan : GoodIn wsX5_plan (wsV RX5 169 RX5 yX5_tryPlan wsX5_tryPlan) := goodIn_app (goodIn_of _ (by decide +kernel)) ggX5_plan_X5_tryPlan
set_option maxRecDepth 20000 in
theorem ggX5_plan_X5_ofTrial : GoodIn wsX5_plan wsX5_ofTrial := goodIn_r _ [66, 3, 42, 41, 67, 68, 69, 7, 70, 71, 72, 73, 74, 75, 76, 77, 78, 79, 80, 81, 82, 83, 84, 85, 86, 87, 88, 89, 90, 91, 92, 93, 94, 95, 96, 97, 47, 98, 53, 99, 100, 101, 102, 103, 104, 105, 106, 107, 108, 109, 110, 111, 112, 113, 114, 115, 116, 117, 118, 119, 120, 121, 122, 123, 124, 125, 126, 127, 128, 129, 130, 131, 132, 133, 138, 139] (by decide +kernel) (by decide +kernel)
set_option maxRecDepth 20000 in
theorem gX5_plan_X5_ofTrial : GoodIn wsX5_plan (wsV RX5 173 RX5 yX5_ofTrial wsX5_ofTrial) := goodIn_app (goodIn_of _ (by decide +kernel)) ggX5_plan_X5_ofTrial
theorem dX5_plan_0 : decode cX5_plan 0 = .ok (.aload_n 0, 1) := by decide +kernel
theorem dX5_plan_1 : decode cX5_plan 1 = .ok (.iconst 0, 1) := by decide +kernel
theorem dX5_plan_2 : decode cX5_plan 2 = .ok (.putfield 55, 3) := by decide +kernel
theorem dX5_plan_5 : decode cX5_plan 5 = .ok (.iload_n 1, 1) := by decide +kernel
theorem dX5_plan_6 : decode cX5_plan 6 = .ok (.invokestatic 59, 3) := by decide +kernel
theorem dX5_plan_9 : decode cX5_plan 9 = .ok (.ifCond .ne 5, 3) := by decide +kernel
theorem dX5_plan_12 : decode cX5_plan 12 = .ok (.iconst (-1), 1) := by decide +kernel
theorem dX5_plan_13 : decode cX5_plan 13 = .ok (.ireturn, 1) := by decide +kernel
theorem dX5_plan_14 : decode cX5_plan 14 = .ok (.iload_n 2, 1) := by decide +kernel
theorem dX5_plan_15 : decode cX5_plan 15 = .ok (.invokestatic 63, 3) := by decide +kernel
theorem dX5_plan_18 : decode cX5_plan 18 = .ok (.ifCond .eq 11, 3) := by decide +kernel
theorem dX5_plan_21 : decode cX5_plan 21 = .ok (.iload 5, 2) := by decide +kernel
theorem dX5_plan_23 : decode cX5_plan 23 = .ok (.invokestatic 166, 3) := by decide +kernel
theorem dX5_plan_26 : decode cX5_plan 26 = .ok (.ifCond .ne 6, 3) := by decide +kernel
theorem dX5_plan_29 : decode cX5_plan 29 = .ok (.bipush (-2), 2) := by decide +kernel
theorem dX5_plan_31 : decode cX5_plan 31 = .ok (.ireturn, 1) := by decide +kernel
theorem dX5_plan_32 : decode cX5_plan 32 = .ok (.aload_n 0, 1) := by decide +kernel
theorem dX5_plan_33 : decode cX5_plan 33 = .ok (.getfield 13, 3) := by decide +kernel
theorem dX5_plan_36 : decode cX5_plan 36 = .ok (.iload_n 1, 1) := by decide +kernel
theorem dX5_plan_37 : decode cX5_plan 37 = .ok (.aaload, 1) := by decide +kernel
theorem dX5_plan_38 : decode cX5_plan 38 = .ok (.iload_n 2, 1) := by decide +kernel
theorem dX5_plan_39 : decode cX5_plan 39 = .ok (.iload_n 3, 1) := by decide +kernel
theorem dX5_plan_40 : decode cX5_plan 40 = .ok (.iload 4, 2) := by decide +kernel
theorem dX5_plan_42 : decode cX5_plan 42 = .ok (.invokestatic 66, 3) := by decide +kernel
theorem dX5_plan_45 : decode cX5_plan 45 = .ok (.istore 6, 2) := by decide +kernel
theorem dX5_plan_47 : decode cX5_plan 47 = .ok (.iload 6, 2) := by decide +kernel
theorem dX5_plan_49 : decode cX5_plan 49 = .ok (.ifCond .eq 10, 3) := by decide +kernel
theorem dX5_plan_52 : decode cX5_plan 52 = .ok (.aload_n 0, 1) := by decide +kernel
theorem dX5_plan_53 : decode cX5_plan 53 = .ok (.iload 6, 2) := by decide +kernel
theorem dX5_plan_55 : decode cX5_plan 55 = .ok (.invokevirtual 70, 3) := by decide +kernel
theorem dX5_plan_58 : decode cX5_plan 58 = .ok (.ireturn, 1) := by decide +kernel
theorem dX5_plan_59 : decode cX5_plan 59 = .ok (.aload_n 0, 1) := by decide +kernel
theorem dX5_plan_60 : decode cX5_plan 60 = .ok (.invokevirtual 144, 3) := by decide +kernel
theorem dX5_plan_63 : decode cX5_plan 63 = .ok (.ifCond .ne 6, 3) := by decide +kernel
theorem dX5_plan_66 : decode cX5_plan 66 = .ok (.bipush (-3), 2) := by decide +kernel
theorem dX5_plan_68 : decode cX5_plan 68 = .ok (.ireturn, 1) := by decide +kernel
theorem dX5_plan_69 : decode cX5_plan 69 = .ok (.iload 4, 2) := by decide +kernel
theorem dX5_plan_71 : decode cX5_plan 71 = .ok (.aload_n 0, 1) := by decide +kernel
theorem dX5_plan_72 : decode cX5_plan 72 = .ok (.getfield 27, 3) := by decide +kernel
theorem dX5_plan_75 : decode cX5_plan 75 = .ok (.getfield 88, 3) := by decide +kernel
theorem dX5_plan_78 : decode cX5_plan 78 = .ok (.if_icmp .ne 17, 3) := by decide +kernel
theorem dX5_plan_81 : decode cX5_plan 81 = .ok (.aload_n 0, 1) := by decide +kernel
theorem dX5_plan_82 : decode cX5_plan 82 = .ok (.aload_n 0, 1) := by decide +kernel
theorem dX5_plan_83 : decode cX5_plan 83 = .ok (.getfield 13, 3) := by decide +kernel
theorem dX5_plan_86 : decode cX5_plan 86 = .ok (.iload_n 1, 1) := by decide +kernel
theorem dX5_plan_87 : decode cX5_plan 87 = .ok (.aaload, 1) := by decide +kernel
theorem dX5_plan_88 : decode cX5_plan 88 = .ok (.iload_n 3, 1) := by decide +kernel
theorem dX5_plan_89 : decode cX5_plan 89 = .ok (.invokevirtual 169, 3) := by decide +kernel
theorem dX5_plan_92 : decode cX5_plan 92 = .ok (.ifCond .ne 6, 3) := by decide +kernel
theorem dX5_plan_95 : decode cX5_plan 95 = .ok (.bipush (-2), 2) := by decide +kernel
theorem dX5_plan_97 : decode cX5_plan 97 = .ok (.ireturn, 1) := by decide +kernel
theorem dX5_plan_98 : decode cX5_plan 98 = .ok (.aload_n 0, 1) := by decide +kernel
theorem dX5_plan_99 : decode cX5_plan 99 = .ok (.iload 5, 2) := by decide +kernel
theorem dX5_plan_101 : decode cX5_plan 101 = .ok (.invokevirtual 173, 3) := by decide +kernel
theorem dX5_plan_104 : decode cX5_plan 104 = .ok (.ireturn, 1) := by decide +kernel
theorem dX5_isOfPlan_0 : decode cX5_isOfPlan 0 = .ok (.iload_n 0, 1) := by decide +kernel
theorem dX5_isOfPlan_1 : decode cX5_isOfPlan 1 = .ok (.ifCond .lt 8, 3) := by decide +kernel
theorem dX5_isOfPlan_4 : decode cX5_isOfPlan 4 = .ok (.iload_n 0, 1) := by decide +kernel
theorem dX5_isOfPlan_5 : decode cX5_isOfPlan 5 = .ok (.iconst 2, 1) := by decide +kernel
theorem dX5_isOfPlan_6 : decode cX5_isOfPlan 6 = .ok (.if_icmp .le 15, 3) := by decide +kernel
theorem dX5_isOfPlan_9 : decode cX5_isOfPlan 9 = .ok (.iload_n 0, 1) := by decide +kernel
theorem dX5_isOfPlan_10 : decode cX5_isOfPlan 10 = .ok (.bipush 10, 2) := by decide +kernel
theorem dX5_isOfPlan_12 : decode cX5_isOfPlan 12 = .ok (.if_icmp .lt 13, 3) := by decide +kernel
theorem dX5_isOfPlan_15 : decode cX5_isOfPlan 15 = .ok (.iload_n 0, 1) := by decide +kernel
theorem dX5_isOfPlan_16 : decode cX5_isOfPlan 16 = .ok (.bipush 14, 2) := by decide +kernel
theorem dX5_isOfPlan_18 : decode cX5_isOfPlan 18 = .ok (.if_icmp .ge 7, 3) := by decide +kernel
theorem dX5_isOfPlan_21 : decode cX5_isOfPlan 21 = .ok (.iconst 1, 1) := by decide +kernel
theorem dX5_isOfPlan_22 : decode cX5_isOfPlan 22 = .ok (.goto 4, 3) := by decide +kernel
theorem dX5_isOfPlan_25 : decode cX5_isOfPlan 25 = .ok (.iconst 0, 1) := by decide +kernel
theorem dX5_isOfPlan_26 : decode cX5_isOfPlan 26 = .ok (.ireturn, 1) := by decide +kernel
set_option maxRecDepth 20000 in
theorem ggX5_tryPlan_X1_nobody : GoodIn wsX5_tryPlan wsX1_nobody := goodIn_r _ [10, 11, 12, 13, 9, 14, 15, 44, 45] (by decide +kernel) (by decide +kernel)
set_option maxRecDepth 20000 in
theorem gX5_tryPlan_X1_nobody : GoodIn wsX5_tryPlan (wsV RX5 91 RX1 yX1_nobody wsX1_nobody) := goodIn_app (goodIn_of _ (by decide +kernel)) ggX5_tryPlan_X1_nobody
set_option maxRecDepth 20000 in
theorem ggX5_tryPlan_X2_at : GoodIn wsX5_tryPlan wsX2_at := goodIn_r _ [20, 21, 22, 23, 24, 19, 25, 26, 46, 47, 48, 49] (by decide +kernel) (by decide +kernel)
set_option maxRecDepth 20000 in
theorem gX5_tryPlan_X2_at : GoodIn wsX5_tryPlan (wsV RX5 176 RX2 yX2_at wsX2_at) := goodIn_app (goodIn_of _ (by decide +kernel)) ggX5_tryPlan_X2_at
theorem dX5_tryPlan_0 : decode cX5_tryPlan 0 = .ok (.aload_n 0, 1) := by decide +kernel
theorem dX5_tryPlan_1 : decode cX5_tryPlan 1 = .ok (.getfield 41, 3) := by decide +kernel
theorem dX5_tryPlan_4 : decode cX5_tryPlan 4 = .ok (.invokevirtual 91, 3) := by decide +kernel
theorem dX5_tryPlan_7 : decode cX5_tryPlan 7 = .ok (.iconst 0, 1) := by decide +kernel
theorem dX5_tryPlan_8 : decode cX5_tryPlan 8 = .ok (.istore_n 3, 1) := by decide +kernel
theorem dX5_tryPlan_9 : decode cX5_tryPlan 9 = .ok (.iload_n 3, 1) := by decide +kernel
theorem dX5_tryPlan_10 : decode cX5_tryPlan 10 = .ok (.aload_n 0, 1) := by decide +kernel
theorem dX5_tryPlan_11 : decode cX5_tryPlan 11 = .ok (.getfield 27, 3) := by decide +kernel
theorem dX5_tryPlan_14 : decode cX5_tryPlan 14 = .ok (.getfield 88, 3) := by decide +kernel
theorem dX5_tryPlan_17 : decode cX5_tryPlan 17 = .ok (.if_icmp .ge 48, 3) := by decide +kernel
theorem dX5_tryPlan_20 : decode cX5_tryPlan 20 = .ok (.aload_n 1, 1) := by decide +kernel
theorem dX5_tryPlan_21 : decode cX5_tryPlan 21 = .ok (.iload_n 2, 1) := by decide +kernel
theorem dX5_tryPlan_22 : decode cX5_tryPlan 22 = .ok (.iload_n 3, 1) := by decide +kernel
theorem dX5_tryPlan_23 : decode cX5_tryPlan 23 = .ok (.iadd, 1) := by decide +kernel
theorem dX5_tryPlan_24 : decode cX5_tryPlan 24 = .ok (.invokevirtual 176, 3) := by decide +kernel
theorem dX5_tryPlan_27 : decode cX5_tryPlan 27 = .ok (.istore 4, 2) := by decide +kernel
theorem dX5_tryPlan_29 : decode cX5_tryPlan 29 = .ok (.iload 4, 2) := by decide +kernel
theorem dX5_tryPlan_31 : decode cX5_tryPlan 31 = .ok (.ifCond .lt 15, 3) := by decide +kernel
theorem dX5_tryPlan_34 : decode cX5_tryPlan 34 = .ok (.iload 4, 2) := by decide +kernel
theorem dX5_tryPlan_36 : decode cX5_tryPlan 36 = .ok (.aload_n 0, 1) := by decide +kernel
theorem dX5_tryPlan_37 : decode cX5_tryPlan 37 = .ok (.getfield 27, 3) := by decide +kernel
theorem dX5_tryPlan_40 : decode cX5_tryPlan 40 = .ok (.getfield 179, 3) := by decide +kernel
theorem dX5_tryPlan_43 : decode cX5_tryPlan 43 = .ok (.if_icmp .le 5, 3) := by decide +kernel
theorem dX5_tryPlan_46 : decode cX5_tryPlan 46 = .ok (.iconst 0, 1) := by decide +kernel
theorem dX5_tryPlan_47 : decode cX5_tryPlan 47 = .ok (.ireturn, 1) := by decide +kernel
theorem dX5_tryPlan_48 : decode cX5_tryPlan 48 = .ok (.aload_n 0, 1) := by decide +kernel
theorem dX5_tryPlan_49 : decode cX5_tryPlan 49 = .ok (.getfield 41, 3) := by decide +kernel
theorem dX5_tryPlan_52 : decode cX5_tryPlan 52 = .ok (.getfield 119, 3) := by decide +kernel
theorem dX5_tryPlan_55 : decode cX5_tryPlan 55 = .ok (.iload_n 3, 1) := by decide +kernel
theorem dX5_tryPlan_56 : decode cX5_tryPlan 56 = .ok (.iload 4, 2) := by decide +kernel
theorem dX5_tryPlan_58 : decode cX5_tryPlan 58 = .ok (.iastore, 1) := by decide +kernel
theorem dX5_tryPlan_59 : decode cX5_tryPlan 59 = .ok (.iinc 3 1, 3) := by decide +kernel
theorem dX5_tryPlan_62 : decode cX5_tryPlan 62 = .ok (.goto (-53), 3) := by decide +kernel
theorem dX5_tryPlan_65 : decode cX5_tryPlan 65 = .ok (.iconst 1, 1) := by decide +kernel
theorem dX5_tryPlan_66 : decode cX5_tryPlan 66 = .ok (.ireturn, 1) := by decide +kernel
set_option maxRecDepth 20000 in
theorem ggX5_ofTrial_X5_ofBreak : GoodIn wsX5_ofTrial wsX5_ofBreak := goodIn_r _ [8, 1, 9, 10, 11, 12, 13, 14, 15, 16, 17, 18, 19, 20, 21, 22, 23, 24, 25, 26, 27, 28, 29, 30, 31, 32, 33, 34, 35, 36, 37, 38, 39, 40, 41, 42, 43, 44, 45, 57, 58, 59, 60, 61, 62, 63, 64, 65, 66, 67, 68, 69, 70, 71, 72, 73, 74, 75] (by decide +kernel) (by decide +kernel)
set_option maxRecDepth 20000 in
theorem gX5_ofTrial_X5_ofBreak : GoodIn wsX5_ofTrial (wsV RX5 155 RX5 yX5_ofBreak wsX5_ofBreak) := goodIn_app (goodIn_of _ (by decide +kernel)) ggX5_ofTrial_X5_ofBreak
set_option maxRecDepth 20000 in
theorem ggX5_ofTrial_X1_howManyBy : GoodIn wsX5_ofTrial wsX1_howManyBy := goodIn_r _ [49, 50, 34, 35, 36, 37, 38, 74, 75] (by decide +kernel) (by decide +kernel)
set_option maxRecDepth 20000 in
theorem gX5_ofTrial_X1_howManyBy : GoodIn wsX5_ofTrial (wsV RX5 182 RX1 yX1_howManyBy wsX1_howManyBy) := goodIn_app (goodIn_of _ (by decide +kernel)) ggX5_ofTrial_X1_howManyBy
set_option maxRecDepth 20000 in
theorem ggX5_ofTrial_X5_isCourt : GoodIn wsX5_ofTrial wsX5_isCourt := goodIn_r _ [54, 1, 55, 57, 58, 59, 60, 61, 62, 63, 64, 65, 66, 67, 68, 69, 70, 71, 72, 73] (by decide +kernel) (by decide +kernel)
set_option maxRecDepth 20000 in
theorem gX5_ofTrial_X5_isCourt : GoodIn wsX5_ofTrial (wsV RX5 122 RX5 yX5_isCourt wsX5_isCourt) := goodIn_app (goodIn_of _ (by decide +kernel)) ggX5_ofTrial_X5_isCourt
set_option maxRecDepth 20000 in
theorem ggX5_ofTrial_X4_costsOf : GoodIn wsX5_ofTrial wsX4_costsOf := goodIn_r _ [28, 29, 30, 31, 32, 33, 34, 35, 36, 37, 38, 39, 40, 41, 12, 42, 43, 44, 66, 67, 68, 69, 70, 71, 72, 73, 74, 75] (by decide +kernel) (by decide +kernel)
set_option maxRecDepth 20000 in
theorem gX5_ofTrial_X4_costsOf : GoodIn wsX5_ofTrial (wsV RX5 140 RX4 yX4_costsOf wsX4_costsOf) := goodIn_app (goodIn_of _ (by decide +kernel)) ggX5_ofTrial_X4_costsOf
theorem dX5_ofTrial_0 : decode cX5_ofTrial 0 = .ok (.aload_n 0, 1) := by decide +kernel
theorem dX5_ofTrial_1 : decode cX5_ofTrial 1 = .ok (.getfield 27, 3) := by decide +kernel
theorem dX5_ofTrial_4 : decode cX5_ofTrial 4 = .ok (.getfield 179, 3) := by decide +kernel
theorem dX5_ofTrial_7 : decode cX5_ofTrial 7 = .ok (.iconst 1, 1) := by decide +kernel
theorem dX5_ofTrial_8 : decode cX5_ofTrial 8 = .ok (.isub, 1) := by decide +kernel
theorem dX5_ofTrial_9 : decode cX5_ofTrial 9 = .ok (.istore_n 2, 1) := by decide +kernel
theorem dX5_ofTrial_10 : decode cX5_ofTrial 10 = .ok (.iload_n 1, 1) := by decide +kernel
theorem dX5_ofTrial_11 : decode cX5_ofTrial 11 = .ok (.iconst 2, 1) := by decide +kernel
theorem dX5_ofTrial_12 : decode cX5_ofTrial 12 = .ok (.if_icmp .ge 13, 3) := by decide +kernel
theorem dX5_ofTrial_15 : decode cX5_ofTrial 15 = .ok (.aload_n 0, 1) := by decide +kernel
theorem dX5_ofTrial_16 : decode cX5_ofTrial 16 = .ok (.aload_n 0, 1) := by decide +kernel
theorem dX5_ofTrial_17 : decode cX5_ofTrial 17 = .ok (.getfield 41, 3) := by decide +kernel
theorem dX5_ofTrial_20 : decode cX5_ofTrial 20 = .ok (.iload_n 1, 1) := by decide +kernel
theorem dX5_ofTrial_21 : decode cX5_ofTrial 21 = .ok (.invokevirtual 155, 3) := by decide +kernel
theorem dX5_ofTrial_24 : decode cX5_ofTrial 24 = .ok (.ireturn, 1) := by decide +kernel
theorem dX5_ofTrial_25 : decode cX5_ofTrial 25 = .ok (.iload_n 1, 1) := by decide +kernel
theorem dX5_ofTrial_26 : decode cX5_ofTrial 26 = .ok (.iconst 2, 1) := by decide +kernel
theorem dX5_ofTrial_27 : decode cX5_ofTrial 27 = .ok (.if_icmp .ne 12, 3) := by decide +kernel
theorem dX5_ofTrial_30 : decode cX5_ofTrial 30 = .ok (.aload_n 0, 1) := by decide +kernel
theorem dX5_ofTrial_31 : decode cX5_ofTrial 31 = .ok (.getfield 41, 3) := by decide +kernel
theorem dX5_ofTrial_34 : decode cX5_ofTrial 34 = .ok (.iload_n 2, 1) := by decide +kernel
theorem dX5_ofTrial_35 : decode cX5_ofTrial 35 = .ok (.invokevirtual 182, 3) := by decide +kernel
theorem dX5_ofTrial_38 : decode cX5_ofTrial 38 = .ok (.ireturn, 1) := by decide +kernel
theorem dX5_ofTrial_39 : decode cX5_ofTrial 39 = .ok (.aload_n 0, 1) := by decide +kernel
theorem dX5_ofTrial_40 : decode cX5_ofTrial 40 = .ok (.iload_n 1, 1) := by decide +kernel
theorem dX5_ofTrial_41 : decode cX5_ofTrial 41 = .ok (.bipush 10, 2) := by decide +kernel
theorem dX5_ofTrial_43 : decode cX5_ofTrial 43 = .ok (.isub, 1) := by decide +kernel
theorem dX5_ofTrial_44 : decode cX5_ofTrial 44 = .ok (.invokevirtual 122, 3) := by decide +kernel
theorem dX5_ofTrial_47 : decode cX5_ofTrial 47 = .ok (.ifCond .eq 23, 3) := by decide +kernel
theorem dX5_ofTrial_50 : decode cX5_ofTrial 50 = .ok (.aload_n 0, 1) := by decide +kernel
theorem dX5_ofTrial_51 : decode cX5_ofTrial 51 = .ok (.getfield 27, 3) := by decide +kernel
theorem dX5_ofTrial_54 : decode cX5_ofTrial 54 = .ok (.iload_n 1, 1) := by decide +kernel
theorem dX5_ofTrial_55 : decode cX5_ofTrial 55 = .ok (.bipush 10, 2) := by decide +kernel
theorem dX5_ofTrial_57 : decode cX5_ofTrial 57 = .ok (.isub, 1) := by decide +kernel
theorem dX5_ofTrial_58 : decode cX5_ofTrial 58 = .ok (.iload_n 2, 1) := by decide +kernel
theorem dX5_ofTrial_59 : decode cX5_ofTrial 59 = .ok (.aload_n 0, 1) := by decide +kernel
theorem dX5_ofTrial_60 : decode cX5_ofTrial 60 = .ok (.getfield 41, 3) := by decide +kernel
theorem dX5_ofTrial_63 : decode cX5_ofTrial 63 = .ok (.iconst 0, 1) := by decide +kernel
theorem dX5_ofTrial_64 : decode cX5_ofTrial 64 = .ok (.invokevirtual 140, 3) := by decide +kernel
theorem dX5_ofTrial_67 : decode cX5_ofTrial 67 = .ok (.goto 5, 3) := by decide +kernel
theorem dX5_ofTrial_70 : decode cX5_ofTrial 70 = .ok (.bipush (-9), 2) := by decide +kernel
theorem dX5_ofTrial_72 : decode cX5_ofTrial 72 = .ok (.ireturn, 1) := by decide +kernel
set_option maxRecDepth 20000 in
theorem ggX5_least_X5_hasTreaty : GoodIn wsX5_least wsX5_hasTreaty := goodIn_r _ [8, 1, 2, 56, 57, 58, 59, 60, 61, 62, 63, 64, 65, 66, 67, 68, 69, 70, 71, 72] (by decide +kernel) (by decide +kernel)
set_option maxRecDepth 20000 in
theorem gX5_least_X5_hasTreaty : GoodIn wsX5_least (wsV RX5 144 RX5 yX5_hasTreaty wsX5_hasTreaty) := goodIn_app (goodIn_of _ (by decide +kernel)) ggX5_least_X5_hasTreaty
set_option maxRecDepth 20000 in
theorem ggX5_least_J6_bitCount_0f7a4 : GoodIn wsX5_least wsJ6_bitCount_0f7a4 := goodIn_r _ [12, 13, 14, 15] (by decide +kernel) (by decide +kernel)
set_option maxRecDepth 20000 in
theorem gX5_least_J6_bitCount_0f7a4 : GoodIn wsX5_least (va_wsS RX5 185 yJ6_bitCount_0f7a4 wsJ6_bitCount_0f7a4) := goodIn_app (goodIn_of _ (by decide +kernel)) ggX5_least_J6_bitCount_0f7a4
set_option maxRecDepth 20000 in
theorem ggX5_least_X1_fromTheStart : GoodIn wsX5_least wsX1_fromTheStart := goodIn_r _ [20, 21, 73, 74] (by decide +kernel) (by decide +kernel)
set_option maxRecDepth 20000 in
theorem gX5_least_X1_fromTheStart : GoodIn wsX5_least (wsV RX5 190 RX1 yX1_fromTheStart wsX1_fromTheStart) := goodIn_app (goodIn_of _ (by decide +kernel)) ggX5_least_X1_fromTheStart
set_option maxRecDepth 20000 in
theorem ggX5_least_X4_breakYear : GoodIn wsX5_least wsX4_breakYear := goodIn_r _ [26, 27, 28, 29, 30, 25, 31, 32, 33, 34, 35, 36, 37, 38, 39, 40, 41, 42, 43, 44, 45, 46, 47, 48, 19, 49, 21, 50, 51, 52, 53, 54, 55, 65, 66, 67, 68, 69, 70, 71, 72, 73, 74] (by decide +kernel) (by decide +kernel)
set_option maxRecDepth 20000 in
theorem gX5_least_X4_breakYear : GoodIn wsX5_least (wsV RX5 159 RX4 yX4_breakYear wsX4_breakYear) := goodIn_app (goodIn_of _ (by decide +kernel)) ggX5_least_X4_breakYear
theorem dX5_least_0 : decode cX5_least 0 = .ok (.aload_n 0, 1) := by decide +kernel
theorem dX5_least_1 : decode cX5_least 1 = .ok (.invokevirtual 144, 3) := by decide +kernel
theorem dX5_least_4 : decode cX5_least 4 = .ok (.ifCond .ne 6, 3) := by decide +kernel
theorem dX5_least_7 : decode cX5_least 7 = .ok (.bipush (-3), 2) := by decide +kernel
theorem dX5_least_9 : decode cX5_least 9 = .ok (.ireturn, 1) := by decide +kernel
theorem dX5_least_10 : decode cX5_least 10 = .ok (.bipush (-9), 2) := by decide +kernel
theorem dX5_least_12 : decode cX5_least 12 = .ok (.istore_n 1, 1) := by decide +kernel
theorem dX5_least_13 : decode cX5_least 13 = .ok (.iconst 0, 1) := by decide +kernel
theorem dX5_least_14 : decode cX5_least 14 = .ok (.istore_n 2, 1) := by decide +kernel
theorem dX5_least_15 : decode cX5_least 15 = .ok (.iload_n 2, 1) := by decide +kernel
theorem dX5_least_16 : decode cX5_least 16 = .ok (.iconst 1, 1) := by decide +kernel
theorem dX5_least_17 : decode cX5_least 17 = .ok (.aload_n 0, 1) := by decide +kernel
theorem dX5_least_18 : decode cX5_least 18 = .ok (.getfield 27, 3) := by decide +kernel
theorem dX5_least_21 : decode cX5_least 21 = .ok (.getfield 88, 3) := by decide +kernel
theorem dX5_least_24 : decode cX5_least 24 = .ok (.ishl, 1) := by decide +kernel
theorem dX5_least_25 : decode cX5_least 25 = .ok (.if_icmp .ge 67, 3) := by decide +kernel
theorem dX5_least_28 : decode cX5_least 28 = .ok (.iload_n 1, 1) := by decide +kernel
theorem dX5_least_29 : decode cX5_least 29 = .ok (.bipush (-9), 2) := by decide +kernel
theorem dX5_least_31 : decode cX5_least 31 = .ok (.if_icmp .eq 14, 3) := by decide +kernel
theorem dX5_least_34 : decode cX5_least 34 = .ok (.iload_n 2, 1) := by decide +kernel
theorem dX5_least_35 : decode cX5_least 35 = .ok (.invokestatic 185, 3) := by decide +kernel
theorem dX5_least_38 : decode cX5_least 38 = .ok (.iload_n 1, 1) := by decide +kernel
theorem dX5_least_39 : decode cX5_least 39 = .ok (.invokestatic 185, 3) := by decide +kernel
theorem dX5_least_42 : decode cX5_least 42 = .ok (.if_icmp .ge 7, 3) := by decide +kernel
theorem dX5_least_45 : decode cX5_least 45 = .ok (.iconst 1, 1) := by decide +kernel
theorem dX5_least_46 : decode cX5_least 46 = .ok (.goto 4, 3) := by decide +kernel
theorem dX5_least_49 : decode cX5_least 49 = .ok (.iconst 0, 1) := by decide +kernel
theorem dX5_least_50 : decode cX5_least 50 = .ok (.istore_n 3, 1) := by decide +kernel
theorem dX5_least_51 : decode cX5_least 51 = .ok (.iload_n 3, 1) := by decide +kernel
theorem dX5_least_52 : decode cX5_least 52 = .ok (.ifCond .eq 34, 3) := by decide +kernel
theorem dX5_least_55 : decode cX5_least 55 = .ok (.aload_n 0, 1) := by decide +kernel
theorem dX5_least_56 : decode cX5_least 56 = .ok (.getfield 41, 3) := by decide +kernel
theorem dX5_least_59 : decode cX5_least 59 = .ok (.iload_n 2, 1) := by decide +kernel
theorem dX5_least_60 : decode cX5_least 60 = .ok (.invokevirtual 190, 3) := by decide +kernel
theorem dX5_least_63 : decode cX5_least 63 = .ok (.aload_n 0, 1) := by decide +kernel
theorem dX5_least_64 : decode cX5_least 64 = .ok (.getfield 27, 3) := by decide +kernel
theorem dX5_least_67 : decode cX5_least 67 = .ok (.aload_n 0, 1) := by decide +kernel
theorem dX5_least_68 : decode cX5_least 68 = .ok (.getfield 41, 3) := by decide +kernel
theorem dX5_least_71 : decode cX5_least 71 = .ok (.iconst 0, 1) := by decide +kernel
theorem dX5_least_72 : decode cX5_least 72 = .ok (.invokevirtual 159, 3) := by decide +kernel
theorem dX5_least_75 : decode cX5_least 75 = .ok (.bipush (-9), 2) := by decide +kernel
theorem dX5_least_77 : decode cX5_least 77 = .ok (.if_icmp .ne 7, 3) := by decide +kernel
theorem dX5_least_80 : decode cX5_least 80 = .ok (.iload_n 2, 1) := by decide +kernel
theorem dX5_least_81 : decode cX5_least 81 = .ok (.goto 4, 3) := by decide +kernel
theorem dX5_least_84 : decode cX5_least 84 = .ok (.iload_n 1, 1) := by decide +kernel
theorem dX5_least_85 : decode cX5_least 85 = .ok (.istore_n 1, 1) := by decide +kernel
theorem dX5_least_86 : decode cX5_least 86 = .ok (.iinc 2 1, 3) := by decide +kernel
theorem dX5_least_89 : decode cX5_least 89 = .ok (.goto (-74), 3) := by decide +kernel
theorem dX5_least_92 : decode cX5_least 92 = .ok (.iload_n 1, 1) := by decide +kernel
theorem dX5_least_93 : decode cX5_least 93 = .ok (.ireturn, 1) := by decide +kernel
set_option maxRecDepth 20000 in
theorem ggX5_hole_X5_isCourt : GoodIn wsX5_hole wsX5_isCourt := goodIn_r _ [7, 2, 8, 49, 50, 51, 52, 53, 54, 55, 56, 57, 58, 59, 60, 61, 62, 63, 64, 65] (by decide +kernel) (by decide +kernel)
set_option maxRecDepth 20000 in
theorem gX5_hole_X5_isCourt : GoodIn wsX5_hole (wsV RX5 122 RX5 yX5_isCourt wsX5_isCourt) := goodIn_app (goodIn_of _ (by decide +kernel)) ggX5_hole_X5_isCourt
set_option maxRecDepth 20000 in
theorem ggX5_hole_X5_everySon : GoodIn wsX5_hole wsX5_everySon := goodIn_r _ [12, 2, 13, 49, 50, 51, 52, 53, 54, 55, 56, 57, 58, 59, 60, 61, 62, 63, 64, 65] (by decide +kernel) (by decide +kernel)
set_option maxRecDepth 20000 in
theorem gX5_hole_X5_everySon : GoodIn wsX5_hole (wsV RX5 194 RX5 yX5_everySon wsX5_everySon) := goodIn_app (goodIn_of _ (by decide +kernel)) ggX5_hole_X5_everySon
set_option maxRecDepth 20000 in
theorem ggX5_hole_X1_fromTheStart : GoodIn wsX5_hole wsX1_fromTheStart := goodIn_r _ [18, 19, 66, 67] (by decide +kernel) (by decide +kernel)
set_option maxRecDepth 20000 in
theorem gX5_hole_X1_fromTheStart : GoodIn wsX5_hole (wsV RX5 190 RX1 yX1_fromTheStart wsX1_fromTheStart) := goodIn_app (goodIn_of _ (by decide +kernel)) ggX5_hole_X1_fromTheStart
set_option maxRecDepth 20000 in
theorem ggX5_hole_X4_breakYearOf : GoodIn wsX5_hole wsX4_breakYearOf := goodIn_r _ [24, 25, 26, 27, 28, 23, 29, 30, 31, 32, 33, 34, 35, 36, 37, 38, 39, 40, 41, 17, 42, 19, 43, 44, 45, 46, 47, 48, 58, 59, 60, 61, 62, 63, 64, 65, 66, 67] (by decide +kernel) (by decide +kernel)
set_option maxRecDepth 20000 in
theorem gX5_hole_X4_breakYearOf : GoodIn wsX5_hole (wsV RX5 198 RX4 yX4_breakYearOf wsX4_breakYearOf) := goodIn_app (goodIn_of _ (by decide +kernel)) ggX5_hole_X4_breakYearOf
theorem dX5_hole_0 : decode cX5_hole 0 = .ok (.aload_n 0, 1) := by decide +kernel
theorem dX5_hole_1 : decode cX5_hole 1 = .ok (.iload_n 1, 1) := by decide +kernel
theorem dX5_hole_2 : decode cX5_hole 2 = .ok (.invokevirtual 122, 3) := by decide +kernel
theorem dX5_hole_5 : decode cX5_hole 5 = .ok (.ifCond .ne 5, 3) := by decide +kernel
theorem dX5_hole_8 : decode cX5_hole 8 = .ok (.iconst (-1), 1) := by decide +kernel
theorem dX5_hole_9 : decode cX5_hole 9 = .ok (.ireturn, 1) := by decide +kernel
theorem dX5_hole_10 : decode cX5_hole 10 = .ok (.aload_n 0, 1) := by decide +kernel
theorem dX5_hole_11 : decode cX5_hole 11 = .ok (.getfield 41, 3) := by decide +kernel
theorem dX5_hole_14 : decode cX5_hole 14 = .ok (.aload_n 0, 1) := by decide +kernel
theorem dX5_hole_15 : decode cX5_hole 15 = .ok (.invokevirtual 194, 3) := by decide +kernel
theorem dX5_hole_18 : decode cX5_hole 18 = .ok (.invokevirtual 190, 3) := by decide +kernel
theorem dX5_hole_21 : decode cX5_hole 21 = .ok (.aload_n 0, 1) := by decide +kernel
theorem dX5_hole_22 : decode cX5_hole 22 = .ok (.getfield 27, 3) := by decide +kernel
theorem dX5_hole_25 : decode cX5_hole 25 = .ok (.iload_n 1, 1) := by decide +kernel
theorem dX5_hole_26 : decode cX5_hole 26 = .ok (.aload_n 0, 1) := by decide +kernel
theorem dX5_hole_27 : decode cX5_hole 27 = .ok (.getfield 41, 3) := by decide +kernel
theorem dX5_hole_30 : decode cX5_hole 30 = .ok (.invokevirtual 198, 3) := by decide +kernel
theorem dX5_hole_33 : decode cX5_hole 33 = .ok (.ireturn, 1) := by decide +kernel
set_option maxRecDepth 20000 in
theorem ggX5_when_X5_isSon : GoodIn wsX5_when wsX5_isSon := goodIn_r _ [10, 2, 11, 51, 52, 53, 54, 55, 56, 57, 58, 59, 60, 61, 62, 63, 64, 65, 66, 67] (by decide +kernel) (by decide +kernel)
set_option maxRecDepth 20000 in
theorem gX5_when_X5_isSon : GoodIn wsX5_when (wsV RX5 97 RX5 yX5_isSon wsX5_isSon) := goodIn_app (goodIn_of _ (by decide +kernel)) ggX5_when_X5_isSon
set_option maxRecDepth 20000 in
theorem ggX5_when_X5_everySon : GoodIn wsX5_when wsX5_everySon := goodIn_r _ [15, 2, 11, 51, 52, 53, 54, 55, 56, 57, 58, 59, 60, 61, 62, 63, 64, 65, 66, 67] (by decide +kernel) (by decide +kernel)
set_option maxRecDepth 20000 in
theorem gX5_when_X5_everySon : GoodIn wsX5_when (wsV RX5 194 RX5 yX5_everySon wsX5_everySon) := goodIn_app (goodIn_of _ (by decide +kernel)) ggX5_when_X5_everySon
set_option maxRecDepth 20000 in
theorem ggX5_when_X1_fromTheStart : GoodIn wsX5_when wsX1_fromTheStart := goodIn_r _ [20, 21, 68, 69] (by decide +kernel) (by decide +kernel)
set_option maxRecDepth 20000 in
theorem gX5_when_X1_fromTheStart : GoodIn wsX5_when (wsV RX5 190 RX1 yX1_fromTheStart wsX1_fromTheStart) := goodIn_app (goodIn_of _ (by decide +kernel)) ggX5_when_X1_fromTheStart
set_option maxRecDepth 20000 in
theorem ggX5_when_X4_breakYearOf : GoodIn wsX5_when wsX4_breakYearOf := goodIn_r _ [26, 27, 28, 29, 30, 25, 31, 32, 33, 34, 35, 36, 37, 38, 39, 40, 41, 42, 43, 19, 44, 21, 45, 46, 47, 48, 49, 50, 60, 61, 62, 63, 64, 65, 66, 67, 68, 69] (by decide +kernel) (by decide +kernel)
set_option maxRecDepth 20000 in
theorem gX5_when_X4_breakYearOf : GoodIn wsX5_when (wsV RX5 198 RX4 yX4_breakYearOf wsX4_breakYearOf) := goodIn_app (goodIn_of _ (by decide +kernel)) ggX5_when_X4_breakYearOf
theorem dX5_when_0 : decode cX5_when 0 = .ok (.aload_n 0, 1) := by decide +kernel
theorem dX5_when_1 : decode cX5_when 1 = .ok (.iload_n 1, 1) := by decide +kernel
theorem dX5_when_2 : decode cX5_when 2 = .ok (.invokevirtual 97, 3) := by decide +kernel
theorem dX5_when_5 : decode cX5_when 5 = .ok (.ifCond .ne 5, 3) := by decide +kernel
theorem dX5_when_8 : decode cX5_when 8 = .ok (.iconst (-1), 1) := by decide +kernel
theorem dX5_when_9 : decode cX5_when 9 = .ok (.ireturn, 1) := by decide +kernel
theorem dX5_when_10 : decode cX5_when 10 = .ok (.aload_n 0, 1) := by decide +kernel
theorem dX5_when_11 : decode cX5_when 11 = .ok (.getfield 41, 3) := by decide +kernel
theorem dX5_when_14 : decode cX5_when 14 = .ok (.aload_n 0, 1) := by decide +kernel
theorem dX5_when_15 : decode cX5_when 15 = .ok (.invokevirtual 194, 3) := by decide +kernel
theorem dX5_when_18 : decode cX5_when 18 = .ok (.invokevirtual 190, 3) := by decide +kernel
theorem dX5_when_21 : decode cX5_when 21 = .ok (.aload_n 0, 1) := by decide +kernel
theorem dX5_when_22 : decode cX5_when 22 = .ok (.getfield 27, 3) := by decide +kernel
theorem dX5_when_25 : decode cX5_when 25 = .ok (.getfield 179, 3) := by decide +kernel
theorem dX5_when_28 : decode cX5_when 28 = .ok (.istore_n 2, 1) := by decide +kernel
theorem dX5_when_29 : decode cX5_when 29 = .ok (.iload_n 2, 1) := by decide +kernel
theorem dX5_when_30 : decode cX5_when 30 = .ok (.ifCond .lt 46, 3) := by decide +kernel
theorem dX5_when_33 : decode cX5_when 33 = .ok (.aload_n 0, 1) := by decide +kernel
theorem dX5_when_34 : decode cX5_when 34 = .ok (.getfield 41, 3) := by decide +kernel
theorem dX5_when_37 : decode cX5_when 37 = .ok (.getfield 119, 3) := by decide +kernel
theorem dX5_when_40 : decode cX5_when 40 = .ok (.iload_n 1, 1) := by decide +kernel
theorem dX5_when_41 : decode cX5_when 41 = .ok (.iload_n 2, 1) := by decide +kernel
theorem dX5_when_42 : decode cX5_when 42 = .ok (.iastore, 1) := by decide +kernel
theorem dX5_when_43 : decode cX5_when 43 = .ok (.aload_n 0, 1) := by decide +kernel
theorem dX5_when_44 : decode cX5_when 44 = .ok (.getfield 27, 3) := by decide +kernel
theorem dX5_when_47 : decode cX5_when 47 = .ok (.aload_n 0, 1) := by decide +kernel
theorem dX5_when_48 : decode cX5_when 48 = .ok (.getfield 27, 3) := by decide +kernel
theorem dX5_when_51 : decode cX5_when 51 = .ok (.getfield 104, 3) := by decide +kernel
theorem dX5_when_54 : decode cX5_when 54 = .ok (.iload_n 1, 1) := by decide +kernel
theorem dX5_when_55 : decode cX5_when 55 = .ok (.iaload, 1) := by decide +kernel
theorem dX5_when_56 : decode cX5_when 56 = .ok (.aload_n 0, 1) := by decide +kernel
theorem dX5_when_57 : decode cX5_when 57 = .ok (.getfield 41, 3) := by decide +kernel
theorem dX5_when_60 : decode cX5_when 60 = .ok (.invokevirtual 198, 3) := by decide +kernel
theorem dX5_when_63 : decode cX5_when 63 = .ok (.bipush (-9), 2) := by decide +kernel
theorem dX5_when_65 : decode cX5_when 65 = .ok (.if_icmp .ne 5, 3) := by decide +kernel
theorem dX5_when_68 : decode cX5_when 68 = .ok (.iload_n 2, 1) := by decide +kernel
theorem dX5_when_69 : decode cX5_when 69 = .ok (.ireturn, 1) := by decide +kernel
theorem dX5_when_70 : decode cX5_when 70 = .ok (.iinc 2 (-1), 3) := by decide +kernel
theorem dX5_when_73 : decode cX5_when 73 = .ok (.goto (-44), 3) := by decide +kernel
theorem dX5_when_76 : decode cX5_when 76 = .ok (.bipush (-9), 2) := by decide +kernel
theorem dX5_when_78 : decode cX5_when 78 = .ok (.ireturn, 1) := by decide +kernel
theorem dX5_everySon_0 : decode cX5_everySon 0 = .ok (.iconst 1, 1) := by decide +kernel
theorem dX5_everySon_1 : decode cX5_everySon 1 = .ok (.aload_n 0, 1) := by decide +kernel
theorem dX5_everySon_2 : decode cX5_everySon 2 = .ok (.getfield 27, 3) := by decide +kernel
theorem dX5_everySon_5 : decode cX5_everySon 5 = .ok (.getfield 88, 3) := by decide +kernel
theorem dX5_everySon_8 : decode cX5_everySon 8 = .ok (.ishl, 1) := by decide +kernel
theorem dX5_everySon_9 : decode cX5_everySon 9 = .ok (.iconst 1, 1) := by decide +kernel
theorem dX5_everySon_10 : decode cX5_everySon 10 = .ok (.isub, 1) := by decide +kernel
theorem dX5_everySon_11 : decode cX5_everySon 11 = .ok (.ireturn, 1) := by decide +kernel
set_option maxRecDepth 20000 in
theorem ggX5_reading_X5_isCourt : GoodIn wsX5_reading wsX5_isCourt := goodIn_r _ [6, 7, 8, 23, 24, 25, 26, 27, 28, 29, 30, 31, 32, 33, 34, 35, 36, 37, 38, 39] (by decide +kernel) (by decide +kernel)
set_option maxRecDepth 20000 in
theorem gX5_reading_X5_isCourt : GoodIn wsX5_reading (wsV RX5 122 RX5 yX5_isCourt wsX5_isCourt) := goodIn_app (goodIn_of _ (by decide +kernel)) ggX5_reading_X5_isCourt
set_option maxRecDepth 20000 in
theorem ggX5_reading_X5_isYear : GoodIn wsX5_reading wsX5_isYear := goodIn_r _ [12, 7, 13, 23, 24, 25, 26, 27, 28, 29, 30, 31, 32, 33, 34, 35, 36, 37, 38, 39] (by decide +kernel) (by decide +kernel)
set_option maxRecDepth 20000 in
theorem gX5_reading_X5_isYear : GoodIn wsX5_reading (wsV RX5 125 RX5 yX5_isYear wsX5_isYear) := goodIn_app (goodIn_of _ (by decide +kernel)) ggX5_reading_X5_isYear
set_option maxRecDepth 20000 in
theorem ggX5_reading_X0_note : GoodIn wsX5_reading wsX0_note := goodIn_r _ [18, 19, 20, 21, 22, 40, 41, 42, 43] (by decide +kernel) (by decide +kernel)
set_option maxRecDepth 20000 in
theorem gX5_reading_X0_note : GoodIn wsX5_reading (wsV RX5 202 RX0 yX0_note wsX0_note) := goodIn_app (goodIn_of _ (by decide +kernel)) ggX5_reading_X0_note
theorem dX5_reading_0 : decode cX5_reading 0 = .ok (.aload_n 0, 1) := by decide +kernel
theorem dX5_reading_1 : decode cX5_reading 1 = .ok (.iload_n 1, 1) := by decide +kernel
theorem dX5_reading_2 : decode cX5_reading 2 = .ok (.invokevirtual 122, 3) := by decide +kernel
theorem dX5_reading_5 : decode cX5_reading 5 = .ok (.ifCond .ne 5, 3) := by decide +kernel
theorem dX5_reading_8 : decode cX5_reading 8 = .ok (.iconst (-1), 1) := by decide +kernel
theorem dX5_reading_9 : decode cX5_reading 9 = .ok (.ireturn, 1) := by decide +kernel
theorem dX5_reading_10 : decode cX5_reading 10 = .ok (.aload_n 0, 1) := by decide +kernel
theorem dX5_reading_11 : decode cX5_reading 11 = .ok (.iload_n 2, 1) := by decide +kernel
theorem dX5_reading_12 : decode cX5_reading 12 = .ok (.invokevirtual 125, 3) := by decide +kernel
theorem dX5_reading_15 : decode cX5_reading 15 = .ok (.ifCond .ne 6, 3) := by decide +kernel
theorem dX5_reading_18 : decode cX5_reading 18 = .ok (.bipush (-2), 2) := by decide +kernel
theorem dX5_reading_20 : decode cX5_reading 20 = .ok (.ireturn, 1) := by decide +kernel
theorem dX5_reading_21 : decode cX5_reading 21 = .ok (.aload_n 0, 1) := by decide +kernel
theorem dX5_reading_22 : decode cX5_reading 22 = .ok (.getfield 47, 3) := by decide +kernel
theorem dX5_reading_25 : decode cX5_reading 25 = .ok (.iload_n 1, 1) := by decide +kernel
theorem dX5_reading_26 : decode cX5_reading 26 = .ok (.iload_n 2, 1) := by decide +kernel
theorem dX5_reading_27 : decode cX5_reading 27 = .ok (.iload_n 3, 1) := by decide +kernel
theorem dX5_reading_28 : decode cX5_reading 28 = .ok (.invokevirtual 202, 3) := by decide +kernel
theorem dX5_reading_31 : decode cX5_reading 31 = .ok (.ireturn, 1) := by decide +kernel
theorem dX5_back_0 : decode cX5_back 0 = .ok (.iload_n 1, 1) := by decide +kernel
theorem dX5_back_1 : decode cX5_back 1 = .ok (.ifCond .lt 14, 3) := by decide +kernel
theorem dX5_back_4 : decode cX5_back 4 = .ok (.iload_n 1, 1) := by decide +kernel
theorem dX5_back_5 : decode cX5_back 5 = .ok (.aload_n 0, 1) := by decide +kernel
theorem dX5_back_6 : decode cX5_back 6 = .ok (.getfield 47, 3) := by decide +kernel
theorem dX5_back_9 : decode cX5_back 9 = .ok (.getfield 94, 3) := by decide +kernel
theorem dX5_back_12 : decode cX5_back 12 = .ok (.if_icmp .le 6, 3) := by decide +kernel
theorem dX5_back_15 : decode cX5_back 15 = .ok (.bipush (-2), 2) := by decide +kernel
theorem dX5_back_17 : decode cX5_back 17 = .ok (.ireturn, 1) := by decide +kernel
theorem dX5_back_18 : decode cX5_back 18 = .ok (.aload_n 0, 1) := by decide +kernel
theorem dX5_back_19 : decode cX5_back 19 = .ok (.getfield 47, 3) := by decide +kernel
theorem dX5_back_22 : decode cX5_back 22 = .ok (.dup, 1) := by decide +kernel
theorem dX5_back_23 : decode cX5_back 23 = .ok (.getfield 94, 3) := by decide +kernel
theorem dX5_back_26 : decode cX5_back 26 = .ok (.iload_n 1, 1) := by decide +kernel
theorem dX5_back_27 : decode cX5_back 27 = .ok (.isub, 1) := by decide +kernel
theorem dX5_back_28 : decode cX5_back 28 = .ok (.putfield 94, 3) := by decide +kernel
theorem dX5_back_31 : decode cX5_back 31 = .ok (.aload_n 0, 1) := by decide +kernel
theorem dX5_back_32 : decode cX5_back 32 = .ok (.getfield 47, 3) := by decide +kernel
theorem dX5_back_35 : decode cX5_back 35 = .ok (.getfield 94, 3) := by decide +kernel
theorem dX5_back_38 : decode cX5_back 38 = .ok (.ireturn, 1) := by decide +kernel
set_option maxRecDepth 20000 in
theorem ggX5_worths_X5_isSon : GoodIn wsX5_worths wsX5_isSon := goodIn_r _ [7, 1, 8, 50, 51, 52, 53, 54, 55, 56, 57, 58, 59, 60, 61, 62, 63, 64, 65, 66] (by decide +kernel) (by decide +kernel)
set_option maxRecDepth 20000 in
theorem gX5_worths_X5_isSon : GoodIn wsX5_worths (wsV RX5 97 RX5 yX5_isSon wsX5_isSon) := goodIn_app (goodIn_of _ (by decide +kernel)) ggX5_worths_X5_isSon
set_option maxRecDepth 20000 in
theorem ggX5_worths_X5_fitting : GoodIn wsX5_worths wsX5_fitting := goodIn_r _ [12, 13, 1, 14, 15, 16, 17, 18, 19, 20, 21, 22, 23, 24, 25, 26, 27, 28, 29, 30, 31, 32, 33, 34, 35, 36, 37, 38, 39, 40, 41, 42, 43, 44, 45, 46, 47, 48, 49, 50, 51, 52, 53, 54, 55, 56, 57, 58, 67, 68, 69, 70, 59, 60, 61, 62, 63, 64, 65, 66, 71, 72] (by decide +kernel) (by decide +kernel)
set_option maxRecDepth 20000 in
theorem gX5_worths_X5_fitting : GoodIn wsX5_worths (wsV RX5 206 RX5 yX5_fitting wsX5_fitting) := goodIn_app (goodIn_of _ (by decide +kernel)) ggX5_worths_X5_fitting
theorem dX5_worths_0 : decode cX5_worths 0 = .ok (.aload_n 0, 1) := by decide +kernel
theorem dX5_worths_1 : decode cX5_worths 1 = .ok (.iload_n 1, 1) := by decide +kernel
theorem dX5_worths_2 : decode cX5_worths 2 = .ok (.invokevirtual 97, 3) := by decide +kernel
theorem dX5_worths_5 : decode cX5_worths 5 = .ok (.ifCond .eq 20, 3) := by decide +kernel
theorem dX5_worths_8 : decode cX5_worths 8 = .ok (.aload_n 0, 1) := by decide +kernel
theorem dX5_worths_9 : decode cX5_worths 9 = .ok (.aload_n 0, 1) := by decide +kernel
theorem dX5_worths_10 : decode cX5_worths 10 = .ok (.getfield 27, 3) := by decide +kernel
theorem dX5_worths_13 : decode cX5_worths 13 = .ok (.getfield 107, 3) := by decide +kernel
theorem dX5_worths_16 : decode cX5_worths 16 = .ok (.iload_n 1, 1) := by decide +kernel
theorem dX5_worths_17 : decode cX5_worths 17 = .ok (.bipush 9, 2) := by decide +kernel
theorem dX5_worths_19 : decode cX5_worths 19 = .ok (.invokevirtual 206, 3) := by decide +kernel
theorem dX5_worths_22 : decode cX5_worths 22 = .ok (.goto 4, 3) := by decide +kernel
theorem dX5_worths_25 : decode cX5_worths 25 = .ok (.iconst (-1), 1) := by decide +kernel
theorem dX5_worths_26 : decode cX5_worths 26 = .ok (.ireturn, 1) := by decide +kernel
set_option maxRecDepth 20000 in
theorem ggX5_kinds_X5_isSon : GoodIn wsX5_kinds wsX5_isSon := goodIn_r _ [7, 1, 8, 50, 51, 52, 53, 54, 55, 56, 57, 58, 59, 60, 61, 62, 63, 64, 65, 66] (by decide +kernel) (by decide +kernel)
set_option maxRecDepth 20000 in
theorem gX5_kinds_X5_isSon : GoodIn wsX5_kinds (wsV RX5 97 RX5 yX5_isSon wsX5_isSon) := goodIn_app (goodIn_of _ (by decide +kernel)) ggX5_kinds_X5_isSon
set_option maxRecDepth 20000 in
theorem ggX5_kinds_X5_fitting : GoodIn wsX5_kinds wsX5_fitting := goodIn_r _ [12, 13, 1, 14, 15, 16, 17, 18, 19, 20, 21, 22, 23, 24, 25, 26, 27, 28, 29, 30, 31, 32, 33, 34, 35, 36, 37, 38, 39, 40, 41, 42, 43, 44, 45, 46, 47, 48, 49, 50, 51, 52, 53, 54, 55, 56, 57, 58, 67, 68, 69, 70, 59, 60, 61, 62, 63, 64, 65, 66, 71, 72] (by decide +kernel) (by decide +kernel)
set_option maxRecDepth 20000 in
theorem gX5_kinds_X5_fitting : GoodIn wsX5_kinds (wsV RX5 206 RX5 yX5_fitting wsX5_fitting) := goodIn_app (goodIn_of _ (by decide +kernel)) ggX5_kinds_X5_fitting
theorem dX5_kinds_0 : decode cX5_kinds 0 = .ok (.aload_n 0, 1) := by decide +kernel
theorem dX5_kinds_1 : decode cX5_kinds 1 = .ok (.iload_n 1, 1) := by decide +kernel
theorem dX5_kinds_2 : decode cX5_kinds 2 = .ok (.invokevirtual 97, 3) := by decide +kernel
theorem dX5_kinds_5 : decode cX5_kinds 5 = .ok (.ifCond .eq 19, 3) := by decide +kernel
theorem dX5_kinds_8 : decode cX5_kinds 8 = .ok (.aload_n 0, 1) := by decide +kernel
theorem dX5_kinds_9 : decode cX5_kinds 9 = .ok (.aload_n 0, 1) := by decide +kernel
theorem dX5_kinds_10 : decode cX5_kinds 10 = .ok (.getfield 27, 3) := by decide +kernel
theorem dX5_kinds_13 : decode cX5_kinds 13 = .ok (.getfield 100, 3) := by decide +kernel
theorem dX5_kinds_16 : decode cX5_kinds 16 = .ok (.iload_n 1, 1) := by decide +kernel
theorem dX5_kinds_17 : decode cX5_kinds 17 = .ok (.iconst 2, 1) := by decide +kernel
theorem dX5_kinds_18 : decode cX5_kinds 18 = .ok (.invokevirtual 206, 3) := by decide +kernel
theorem dX5_kinds_21 : decode cX5_kinds 21 = .ok (.goto 4, 3) := by decide +kernel
theorem dX5_kinds_24 : decode cX5_kinds 24 = .ok (.iconst (-1), 1) := by decide +kernel
theorem dX5_kinds_25 : decode cX5_kinds 25 = .ok (.ireturn, 1) := by decide +kernel
set_option maxRecDepth 20000 in
theorem ggX5_fondness_X5_isSon : GoodIn wsX5_fondness wsX5_isSon := goodIn_r _ [7, 1, 8, 50, 51, 52, 53, 54, 55, 56, 57, 58, 59, 60, 61, 62, 63, 64, 65, 66] (by decide +kernel) (by decide +kernel)
set_option maxRecDepth 20000 in
theorem gX5_fondness_X5_isSon : GoodIn wsX5_fondness (wsV RX5 97 RX5 yX5_isSon wsX5_isSon) := goodIn_app (goodIn_of _ (by decide +kernel)) ggX5_fondness_X5_isSon
set_option maxRecDepth 20000 in
theorem ggX5_fondness_X5_fitting : GoodIn wsX5_fondness wsX5_fitting := goodIn_r _ [12, 13, 1, 14, 15, 16, 17, 18, 19, 20, 21, 22, 23, 24, 25, 26, 27, 28, 29, 30, 31, 32, 33, 34, 35, 36, 37, 38, 39, 40, 41, 42, 43, 44, 45, 46, 47, 48, 49, 50, 51, 52, 53, 54, 55, 56, 57, 58, 67, 68, 69, 70, 59, 60, 61, 62, 63, 64, 65, 66, 71, 72] (by decide +kernel) (by decide +kernel)
set_option maxRecDepth 20000 in
theorem gX5_fondness_X5_fitting : GoodIn wsX5_fondness (wsV RX5 206 RX5 yX5_fitting wsX5_fitting) := goodIn_app (goodIn_of _ (by decide +kernel)) ggX5_fondness_X5_fitting
theorem dX5_fondness_0 : decode cX5_fondness 0 = .ok (.aload_n 0, 1) := by decide +kernel
theorem dX5_fondness_1 : decode cX5_fondness 1 = .ok (.iload_n 1, 1) := by decide +kernel
theorem dX5_fondness_2 : decode cX5_fondness 2 = .ok (.invokevirtual 97, 3) := by decide +kernel
theorem dX5_fondness_5 : decode cX5_fondness 5 = .ok (.ifCond .eq 19, 3) := by decide +kernel
theorem dX5_fondness_8 : decode cX5_fondness 8 = .ok (.aload_n 0, 1) := by decide +kernel
theorem dX5_fondness_9 : decode cX5_fondness 9 = .ok (.aload_n 0, 1) := by decide +kernel
theorem dX5_fondness_10 : decode cX5_fondness 10 = .ok (.getfield 27, 3) := by decide +kernel
theorem dX5_fondness_13 : decode cX5_fondness 13 = .ok (.getfield 110, 3) := by decide +kernel
theorem dX5_fondness_16 : decode cX5_fondness 16 = .ok (.iload_n 1, 1) := by decide +kernel
theorem dX5_fondness_17 : decode cX5_fondness 17 = .ok (.iconst 3, 1) := by decide +kernel
theorem dX5_fondness_18 : decode cX5_fondness 18 = .ok (.invokevirtual 206, 3) := by decide +kernel
theorem dX5_fondness_21 : decode cX5_fondness 21 = .ok (.goto 4, 3) := by decide +kernel
theorem dX5_fondness_24 : decode cX5_fondness 24 = .ok (.iconst (-1), 1) := by decide +kernel
theorem dX5_fondness_25 : decode cX5_fondness 25 = .ok (.ireturn, 1) := by decide +kernel
set_option maxRecDepth 20000 in
theorem ggX5_fitting_X0_allSo : GoodIn wsX5_fitting wsX0_allSo := goodIn_r _ [8, 9, 10, 11, 12, 13, 14, 15, 16, 17, 18, 19, 20, 21, 22, 23, 24, 25, 26, 27, 28, 29, 30, 31, 32, 33, 34, 35, 36, 37, 38, 48, 49, 50, 51, 52, 53, 54, 55, 56, 57, 58, 59, 60, 61] (by decide +kernel) (by decide +kernel)
set_option maxRecDepth 20000 in
theorem gX5_fitting_X0_allSo : GoodIn wsX5_fitting (wsV RX5 210 RX0 yX0_allSo wsX0_allSo) := goodIn_app (goodIn_of _ (by decide +kernel)) ggX5_fitting_X0_allSo
end
section
theorem dX5_fitting_0 : decode cX5_fitting 0 = .ok (.aload_n 1, 1) := by decide +kernel
theorem dX5_fitting_1 : decode cX5_fitting 1 = .ok (.iload_n 2, 1) := by decide +kernel
theorem dX5_fitting_2 : decode cX5_fitting 2 = .ok (.iaload, 1) := by decide +kernel
theorem dX5_fitting_3 : decode cX5_fitting 3 = .ok (.istore 4, 2) := by decide +kernel
theorem dX5_fitting_5 : decode cX5_fitting 5 = .ok (.iconst 0, 1) := by decide +kernel
theorem dX5_fitting_6 : decode cX5_fitting 6 = .ok (.istore 5, 2) := by decide +kernel
theorem dX5_fitting_8 : decode cX5_fitting 8 = .ok (.iconst 0, 1) := by decide +kernel
theorem dX5_fitting_9 : decode cX5_fitting 9 = .ok (.istore 6, 2) := by decide +kernel
theorem dX5_fitting_11 : decode cX5_fitting 11 = .ok (.iload 6, 2) := by decide +kernel
theorem dX5_fitting_13 : decode cX5_fitting 13 = .ok (.iload_n 3, 1) := by decide +kernel
theorem dX5_fitting_14 : decode cX5_fitting 14 = .ok (.if_icmp .gt 41, 3) := by decide +kernel
theorem dX5_fitting_17 : decode cX5_fitting 17 = .ok (.aload_n 1, 1) := by decide +kernel
theorem dX5_fitting_18 : decode cX5_fitting 18 = .ok (.iload_n 2, 1) := by decide +kernel
theorem dX5_fitting_19 : decode cX5_fitting 19 = .ok (.iload 6, 2) := by decide +kernel
theorem dX5_fitting_21 : decode cX5_fitting 21 = .ok (.iastore, 1) := by decide +kernel
theorem dX5_fitting_22 : decode cX5_fitting 22 = .ok (.aload_n 0, 1) := by decide +kernel
theorem dX5_fitting_23 : decode cX5_fitting 23 = .ok (.getfield 47, 3) := by decide +kernel
theorem dX5_fitting_26 : decode cX5_fitting 26 = .ok (.aload_n 0, 1) := by decide +kernel
theorem dX5_fitting_27 : decode cX5_fitting 27 = .ok (.getfield 27, 3) := by decide +kernel
theorem dX5_fitting_30 : decode cX5_fitting 30 = .ok (.aload_n 0, 1) := by decide +kernel
theorem dX5_fitting_31 : decode cX5_fitting 31 = .ok (.getfield 37, 3) := by decide +kernel
theorem dX5_fitting_34 : decode cX5_fitting 34 = .ok (.invokevirtual 210, 3) := by decide +kernel
theorem dX5_fitting_37 : decode cX5_fitting 37 = .ok (.ifCond .eq 12, 3) := by decide +kernel
theorem dX5_fitting_40 : decode cX5_fitting 40 = .ok (.iload 5, 2) := by decide +kernel
theorem dX5_fitting_42 : decode cX5_fitting 42 = .ok (.iconst 1, 1) := by decide +kernel
theorem dX5_fitting_43 : decode cX5_fitting 43 = .ok (.iload 6, 2) := by decide +kernel
theorem dX5_fitting_45 : decode cX5_fitting 45 = .ok (.ishl, 1) := by decide +kernel
theorem dX5_fitting_46 : decode cX5_fitting 46 = .ok (.ior, 1) := by decide +kernel
theorem dX5_fitting_47 : decode cX5_fitting 47 = .ok (.istore 5, 2) := by decide +kernel
theorem dX5_fitting_49 : decode cX5_fitting 49 = .ok (.iinc 6 1, 3) := by decide +kernel
theorem dX5_fitting_52 : decode cX5_fitting 52 = .ok (.goto (-41), 3) := by decide +kernel
theorem dX5_fitting_55 : decode cX5_fitting 55 = .ok (.aload_n 1, 1) := by decide +kernel
theorem dX5_fitting_56 : decode cX5_fitting 56 = .ok (.iload_n 2, 1) := by decide +kernel
theorem dX5_fitting_57 : decode cX5_fitting 57 = .ok (.iload 4, 2) := by decide +kernel
theorem dX5_fitting_59 : decode cX5_fitting 59 = .ok (.iastore, 1) := by decide +kernel
theorem dX5_fitting_60 : decode cX5_fitting 60 = .ok (.iload 5, 2) := by decide +kernel
theorem dX5_fitting_62 : decode cX5_fitting 62 = .ok (.ireturn, 1) := by decide +kernel
set_option maxRecDepth 20000 in
theorem ggX5_odds_X5_hasTreaty : GoodIn wsX5_odds wsX5_hasTreaty := goodIn_r _ [9, 3, 4, 63, 64, 65, 66, 67, 68, 69, 70, 71, 72, 73, 74, 75, 76, 77, 78, 79] (by decide +kernel) (by decide +kernel)
set_option maxRecDepth 20000 in
theorem gX5_odds_X5_hasTreaty : GoodIn wsX5_odds (wsV RX5 144 RX5 yX5_hasTreaty wsX5_hasTreaty) := goodIn_app (goodIn_of _ (by decide +kernel)) ggX5_odds_X5_hasTreaty
set_option maxRecDepth 20000 in
theorem ggX5_odds_X5_isYear : GoodIn wsX5_odds wsX5_isYear := goodIn_r _ [13, 3, 14, 63, 64, 65, 66, 67, 68, 69, 70, 71, 72, 73, 74, 75, 76, 77, 78, 79] (by decide +kernel) (by decide +kernel)
set_option maxRecDepth 20000 in
theorem gX5_odds_X5_isYear : GoodIn wsX5_odds (wsV RX5 125 RX5 yX5_isYear wsX5_isYear) := goodIn_app (goodIn_of _ (by decide +kernel)) ggX5_odds_X5_isYear
set_option maxRecDepth 20000 in
theorem ggX5_odds_X1_setOf : GoodIn wsX5_odds wsX1_setOf := goodIn_r _ [19, 20, 21, 22, 18, 23, 24, 80, 81] (by decide +kernel) (by decide +kernel)
set_option maxRecDepth 20000 in
theorem gX5_odds_X1_setOf : GoodIn wsX5_odds (wsV RX5 216 RX1 yX1_setOf wsX1_setOf) := goodIn_app (goodIn_of _ (by decide +kernel)) ggX5_odds_X1_setOf
set_option maxRecDepth 20000 in
theorem ggX5_odds_X5_breaksBy : GoodIn wsX5_odds wsX5_breaksBy := goodIn_r _ [28, 3, 2, 29, 30, 31, 32, 33, 34, 35, 36, 37, 38, 39, 40, 41, 42, 43, 44, 45, 46, 47, 48, 49, 50, 51, 52, 53, 54, 55, 18, 56, 24, 57, 58, 59, 60, 61, 62, 63, 64, 65, 66, 67, 68, 69, 70, 71, 72, 73, 74, 75, 76, 77, 78, 79, 80, 81] (by decide +kernel) (by decide +kernel)
set_option maxRecDepth 20000 in
theorem gX5_odds_X5_breaksBy : GoodIn wsX5_odds (wsV RX5 219 RX5 yX5_breaksBy wsX5_breaksBy) := goodIn_app (goodIn_of _ (by decide +kernel)) ggX5_odds_X5_breaksBy
theorem dX5_odds_0 : decode cX5_odds 0 = .ok (.aload_n 0, 1) := by decide +kernel
theorem dX5_odds_1 : decode cX5_odds 1 = .ok (.invokevirtual 144, 3) := by decide +kernel
theorem dX5_odds_4 : decode cX5_odds 4 = .ok (.ifCond .eq 20, 3) := by decide +kernel
theorem dX5_odds_7 : decode cX5_odds 7 = .ok (.aload_n 0, 1) := by decide +kernel
theorem dX5_odds_8 : decode cX5_odds 8 = .ok (.iload_n 1, 1) := by decide +kernel
theorem dX5_odds_9 : decode cX5_odds 9 = .ok (.invokevirtual 125, 3) := by decide +kernel
theorem dX5_odds_12 : decode cX5_odds 12 = .ok (.ifCond .eq 12, 3) := by decide +kernel
theorem dX5_odds_15 : decode cX5_odds 15 = .ok (.iload_n 2, 1) := by decide +kernel
theorem dX5_odds_16 : decode cX5_odds 16 = .ok (.ifCond .eq 12, 3) := by decide +kernel
theorem dX5_odds_19 : decode cX5_odds 19 = .ok (.iload_n 2, 1) := by decide +kernel
theorem dX5_odds_20 : decode cX5_odds 20 = .ok (.iconst 1, 1) := by decide +kernel
theorem dX5_odds_21 : decode cX5_odds 21 = .ok (.if_icmp .eq 7, 3) := by decide +kernel
theorem dX5_odds_24 : decode cX5_odds 24 = .ok (.ldc2_w 214, 3) := by decide +kernel
theorem dX5_odds_27 : decode cX5_odds 27 = .ok (.lreturn, 1) := by decide +kernel
theorem dX5_odds_28 : decode cX5_odds 28 = .ok (.aload_n 0, 1) := by decide +kernel
theorem dX5_odds_29 : decode cX5_odds 29 = .ok (.getfield 37, 3) := by decide +kernel
theorem dX5_odds_32 : decode cX5_odds 32 = .ok (.invokevirtual 216, 3) := by decide +kernel
theorem dX5_odds_35 : decode cX5_odds 35 = .ok (.istore_n 3, 1) := by decide +kernel
theorem dX5_odds_36 : decode cX5_odds 36 = .ok (.iconst 0, 1) := by decide +kernel
theorem dX5_odds_37 : decode cX5_odds 37 = .ok (.istore 4, 2) := by decide +kernel
theorem dX5_odds_39 : decode cX5_odds 39 = .ok (.iconst 0, 1) := by decide +kernel
theorem dX5_odds_40 : decode cX5_odds 40 = .ok (.istore 5, 2) := by decide +kernel
theorem dX5_odds_42 : decode cX5_odds 42 = .ok (.iconst 0, 1) := by decide +kernel
theorem dX5_odds_43 : decode cX5_odds 43 = .ok (.istore 6, 2) := by decide +kernel
theorem dX5_odds_45 : decode cX5_odds 45 = .ok (.iload 6, 2) := by decide +kernel
theorem dX5_odds_47 : decode cX5_odds 47 = .ok (.iconst 1, 1) := by decide +kernel
theorem dX5_odds_48 : decode cX5_odds 48 = .ok (.aload_n 0, 1) := by decide +kernel
theorem dX5_odds_49 : decode cX5_odds 49 = .ok (.getfield 27, 3) := by decide +kernel
theorem dX5_odds_52 : decode cX5_odds 52 = .ok (.getfield 88, 3) := by decide +kernel
theorem dX5_odds_55 : decode cX5_odds 55 = .ok (.ishl, 1) := by decide +kernel
theorem dX5_odds_56 : decode cX5_odds 56 = .ok (.if_icmp .ge 41, 3) := by decide +kernel
theorem dX5_odds_59 : decode cX5_odds 59 = .ok (.iload 6, 2) := by decide +kernel
theorem dX5_odds_61 : decode cX5_odds 61 = .ok (.iload_n 3, 1) := by decide +kernel
theorem dX5_odds_62 : decode cX5_odds 62 = .ok (.iand, 1) := by decide +kernel
theorem dX5_odds_63 : decode cX5_odds 63 = .ok (.iload 6, 2) := by decide +kernel
theorem dX5_odds_65 : decode cX5_odds 65 = .ok (.if_icmp .ne 26, 3) := by decide +kernel
theorem dX5_odds_68 : decode cX5_odds 68 = .ok (.iinc 5 1, 3) := by decide +kernel
theorem dX5_odds_71 : decode cX5_odds 71 = .ok (.iload 4, 2) := by decide +kernel
theorem dX5_odds_73 : decode cX5_odds 73 = .ok (.aload_n 0, 1) := by decide +kernel
theorem dX5_odds_74 : decode cX5_odds 74 = .ok (.iload_n 1, 1) := by decide +kernel
theorem dX5_odds_75 : decode cX5_odds 75 = .ok (.iload 6, 2) := by decide +kernel
theorem dX5_odds_77 : decode cX5_odds 77 = .ok (.invokevirtual 219, 3) := by decide +kernel
theorem dX5_odds_80 : decode cX5_odds 80 = .ok (.ifCond .eq 7, 3) := by decide +kernel
theorem dX5_odds_83 : decode cX5_odds 83 = .ok (.iconst 1, 1) := by decide +kernel
theorem dX5_odds_84 : decode cX5_odds 84 = .ok (.goto 4, 3) := by decide +kernel
theorem dX5_odds_87 : decode cX5_odds 87 = .ok (.iconst 0, 1) := by decide +kernel
theorem dX5_odds_88 : decode cX5_odds 88 = .ok (.iadd, 1) := by decide +kernel
theorem dX5_odds_89 : decode cX5_odds 89 = .ok (.istore 4, 2) := by decide +kernel
theorem dX5_odds_91 : decode cX5_odds 91 = .ok (.iinc 6 1, 3) := by decide +kernel
theorem dX5_odds_94 : decode cX5_odds 94 = .ok (.goto (-49), 3) := by decide +kernel
theorem dX5_odds_97 : decode cX5_odds 97 = .ok (.iconst 0, 1) := by decide +kernel
theorem dX5_odds_98 : decode cX5_odds 98 = .ok (.istore 6, 2) := by decide +kernel
theorem dX5_odds_100 : decode cX5_odds 100 = .ok (.iload 6, 2) := by decide +kernel
theorem dX5_odds_102 : decode cX5_odds 102 = .ok (.iconst 5, 1) := by decide +kernel
theorem dX5_odds_103 : decode cX5_odds 103 = .ok (.if_icmp .ge 35, 3) := by decide +kernel
theorem dX5_odds_106 : decode cX5_odds 106 = .ok (.iload 4, 2) := by decide +kernel
theorem dX5_odds_108 : decode cX5_odds 108 = .ok (.iconst 2, 1) := by decide +kernel
theorem dX5_odds_109 : decode cX5_odds 109 = .ok (.irem, 1) := by decide +kernel
theorem dX5_odds_110 : decode cX5_odds 110 = .ok (.ifCond .ne 28, 3) := by decide +kernel
theorem dX5_odds_113 : decode cX5_odds 113 = .ok (.iload 5, 2) := by decide +kernel
theorem dX5_odds_115 : decode cX5_odds 115 = .ok (.iconst 2, 1) := by decide +kernel
theorem dX5_odds_116 : decode cX5_odds 116 = .ok (.irem, 1) := by decide +kernel
theorem dX5_odds_117 : decode cX5_odds 117 = .ok (.ifCond .ne 21, 3) := by decide +kernel
theorem dX5_odds_120 : decode cX5_odds 120 = .ok (.iload 4, 2) := by decide +kernel
theorem dX5_odds_122 : decode cX5_odds 122 = .ok (.iconst 2, 1) := by decide +kernel
theorem dX5_odds_123 : decode cX5_odds 123 = .ok (.idiv, 1) := by decide +kernel
theorem dX5_odds_124 : decode cX5_odds 124 = .ok (.istore 4, 2) := by decide +kernel
theorem dX5_odds_126 : decode cX5_odds 126 = .ok (.iload 5, 2) := by decide +kernel
theorem dX5_odds_128 : decode cX5_odds 128 = .ok (.iconst 2, 1) := by decide +kernel
theorem dX5_odds_129 : decode cX5_odds 129 = .ok (.idiv, 1) := by decide +kernel
theorem dX5_odds_130 : decode cX5_odds 130 = .ok (.istore 5, 2) := by decide +kernel
theorem dX5_odds_132 : decode cX5_odds 132 = .ok (.iinc 6 1, 3) := by decide +kernel
theorem dX5_odds_135 : decode cX5_odds 135 = .ok (.goto (-35), 3) := by decide +kernel
theorem dX5_odds_138 : decode cX5_odds 138 = .ok (.iload_n 2, 1) := by decide +kernel
theorem dX5_odds_139 : decode cX5_odds 139 = .ok (.ifCond .ne 9, 3) := by decide +kernel
theorem dX5_odds_142 : decode cX5_odds 142 = .ok (.iload 4, 2) := by decide +kernel
theorem dX5_odds_144 : decode cX5_odds 144 = .ok (.i2l, 1) := by decide +kernel
theorem dX5_odds_145 : decode cX5_odds 145 = .ok (.goto 6, 3) := by decide +kernel
theorem dX5_odds_148 : decode cX5_odds 148 = .ok (.iload 5, 2) := by decide +kernel
theorem dX5_odds_150 : decode cX5_odds 150 = .ok (.i2l, 1) := by decide +kernel
theorem dX5_odds_151 : decode cX5_odds 151 = .ok (.lreturn, 1) := by decide +kernel
set_option maxRecDepth 20000 in
theorem ggX5_breaksBy_X4_breakYear : GoodIn wsX5_breaksBy wsX4_breakYear := goodIn_r _ [7, 8, 9, 10, 11, 6, 12, 13, 14, 15, 16, 17, 18, 19, 20, 21, 22, 23, 24, 25, 26, 27, 28, 29, 30, 31, 32, 33, 34, 35, 36, 37, 38, 48, 49, 50, 51, 52, 53, 54, 55, 56, 57] (by decide +kernel) (by decide +kernel)
set_option maxRecDepth 20000 in
theorem gX5_breaksBy_X4_breakYear : GoodIn wsX5_breaksBy (wsV RX5 159 RX4 yX4_breakYear wsX4_breakYear) := goodIn_app (goodIn_of _ (by decide +kernel)) ggX5_breaksBy_X4_breakYear
theorem dX5_breaksBy_0 : decode cX5_breaksBy 0 = .ok (.aload_n 0, 1) := by decide +kernel
theorem dX5_breaksBy_1 : decode cX5_breaksBy 1 = .ok (.getfield 27, 3) := by decide +kernel
theorem dX5_breaksBy_4 : decode cX5_breaksBy 4 = .ok (.aload_n 0, 1) := by decide +kernel
theorem dX5_breaksBy_5 : decode cX5_breaksBy 5 = .ok (.getfield 37, 3) := by decide +kernel
theorem dX5_breaksBy_8 : decode cX5_breaksBy 8 = .ok (.iload_n 2, 1) := by decide +kernel
theorem dX5_breaksBy_9 : decode cX5_breaksBy 9 = .ok (.invokevirtual 159, 3) := by decide +kernel
theorem dX5_breaksBy_12 : decode cX5_breaksBy 12 = .ok (.istore_n 3, 1) := by decide +kernel
theorem dX5_breaksBy_13 : decode cX5_breaksBy 13 = .ok (.iload_n 3, 1) := by decide +kernel
theorem dX5_breaksBy_14 : decode cX5_breaksBy 14 = .ok (.bipush (-9), 2) := by decide +kernel
theorem dX5_breaksBy_16 : decode cX5_breaksBy 16 = .ok (.if_icmp .eq 12, 3) := by decide +kernel
theorem dX5_breaksBy_19 : decode cX5_breaksBy 19 = .ok (.iload_n 3, 1) := by decide +kernel
theorem dX5_breaksBy_20 : decode cX5_breaksBy 20 = .ok (.iload_n 1, 1) := by decide +kernel
theorem dX5_breaksBy_21 : decode cX5_breaksBy 21 = .ok (.if_icmp .gt 7, 3) := by decide +kernel
theorem dX5_breaksBy_24 : decode cX5_breaksBy 24 = .ok (.iconst 1, 1) := by decide +kernel
theorem dX5_breaksBy_25 : decode cX5_breaksBy 25 = .ok (.goto 4, 3) := by decide +kernel
theorem dX5_breaksBy_28 : decode cX5_breaksBy 28 = .ok (.iconst 0, 1) := by decide +kernel
theorem dX5_breaksBy_29 : decode cX5_breaksBy 29 = .ok (.ireturn, 1) := by decide +kernel
set_option maxRecDepth 20000 in
theorem ggX5_sheet_X5_isSheet : GoodIn wsX5_sheet wsX5_isSheet := goodIn_r _ [6] (by decide +kernel) (by decide +kernel)
set_option maxRecDepth 20000 in
theorem gX5_sheet_X5_isSheet : GoodIn wsX5_sheet (va_wsS RX5 59 yX5_isSheet wsX5_isSheet) := goodIn_app (goodIn_of _ (by decide +kernel)) ggX5_sheet_X5_isSheet
set_option maxRecDepth 20000 in
theorem ggX5_sheet_X5_isLane : GoodIn wsX5_sheet wsX5_isLane := goodIn_r _ [9] (by decide +kernel) (by decide +kernel)
set_option maxRecDepth 20000 in
theorem gX5_sheet_X5_isLane : GoodIn wsX5_sheet (va_wsS RX5 63 yX5_isLane wsX5_isLane) := goodIn_app (goodIn_of _ (by decide +kernel)) ggX5_sheet_X5_isLane
set_option maxRecDepth 20000 in
theorem ggX5_sheet_X5_faulted : GoodIn wsX5_sheet wsX5_faulted := goodIn_r _ [13, 1, 30, 31, 32, 33, 34, 35, 36, 37, 38] (by decide +kernel) (by decide +kernel)
set_option maxRecDepth 20000 in
theorem gX5_sheet_X5_faulted : GoodIn wsX5_sheet (wsV RX5 70 RX5 yX5_faulted wsX5_faulted) := goodIn_app (goodIn_of _ (by decide +kernel)) ggX5_sheet_X5_faulted
set_option maxRecDepth 20000 in
theorem ggX5_sheet_X2_begin : GoodIn wsX5_sheet wsX2_begin := goodIn_r _ [18, 19, 20, 21, 22, 23, 24, 25, 26, 27, 28, 29, 39, 40, 41, 42] (by decide +kernel) (by decide +kernel)
set_option maxRecDepth 20000 in
theorem gX5_sheet_X2_begin : GoodIn wsX5_sheet (wsV RX5 222 RX2 yX2_begin wsX2_begin) := goodIn_app (goodIn_of _ (by decide +kernel)) ggX5_sheet_X2_begin
theorem dX5_sheet_0 : decode cX5_sheet 0 = .ok (.aload_n 0, 1) := by decide +kernel
theorem dX5_sheet_1 : decode cX5_sheet 1 = .ok (.iconst 0, 1) := by decide +kernel
theorem dX5_sheet_2 : decode cX5_sheet 2 = .ok (.putfield 55, 3) := by decide +kernel
theorem dX5_sheet_5 : decode cX5_sheet 5 = .ok (.iload_n 1, 1) := by decide +kernel
theorem dX5_sheet_6 : decode cX5_sheet 6 = .ok (.invokestatic 59, 3) := by decide +kernel
theorem dX5_sheet_9 : decode cX5_sheet 9 = .ok (.ifCond .ne 5, 3) := by decide +kernel
theorem dX5_sheet_12 : decode cX5_sheet 12 = .ok (.iconst (-1), 1) := by decide +kernel
theorem dX5_sheet_13 : decode cX5_sheet 13 = .ok (.ireturn, 1) := by decide +kernel
theorem dX5_sheet_14 : decode cX5_sheet 14 = .ok (.iload_n 2, 1) := by decide +kernel
theorem dX5_sheet_15 : decode cX5_sheet 15 = .ok (.invokestatic 63, 3) := by decide +kernel
theorem dX5_sheet_18 : decode cX5_sheet 18 = .ok (.ifCond .eq 9, 3) := by decide +kernel
theorem dX5_sheet_21 : decode cX5_sheet 21 = .ok (.iload_n 3, 1) := by decide +kernel
theorem dX5_sheet_22 : decode cX5_sheet 22 = .ok (.bipush 60, 2) := by decide +kernel
theorem dX5_sheet_24 : decode cX5_sheet 24 = .ok (.if_icmp .le 6, 3) := by decide +kernel
theorem dX5_sheet_27 : decode cX5_sheet 27 = .ok (.bipush (-2), 2) := by decide +kernel
theorem dX5_sheet_29 : decode cX5_sheet 29 = .ok (.ireturn, 1) := by decide +kernel
theorem dX5_sheet_30 : decode cX5_sheet 30 = .ok (.iload_n 3, 1) := by decide +kernel
theorem dX5_sheet_31 : decode cX5_sheet 31 = .ok (.ifCond .ge 9, 3) := by decide +kernel
theorem dX5_sheet_34 : decode cX5_sheet 34 = .ok (.aload_n 0, 1) := by decide +kernel
theorem dX5_sheet_35 : decode cX5_sheet 35 = .ok (.iconst 4, 1) := by decide +kernel
theorem dX5_sheet_36 : decode cX5_sheet 36 = .ok (.invokevirtual 70, 3) := by decide +kernel
theorem dX5_sheet_39 : decode cX5_sheet 39 = .ok (.ireturn, 1) := by decide +kernel
theorem dX5_sheet_40 : decode cX5_sheet 40 = .ok (.aload_n 0, 1) := by decide +kernel
theorem dX5_sheet_41 : decode cX5_sheet 41 = .ok (.getfield 13, 3) := by decide +kernel
theorem dX5_sheet_44 : decode cX5_sheet 44 = .ok (.iload_n 1, 1) := by decide +kernel
theorem dX5_sheet_45 : decode cX5_sheet 45 = .ok (.aaload, 1) := by decide +kernel
theorem dX5_sheet_46 : decode cX5_sheet 46 = .ok (.iload_n 2, 1) := by decide +kernel
theorem dX5_sheet_47 : decode cX5_sheet 47 = .ok (.iload_n 3, 1) := by decide +kernel
theorem dX5_sheet_48 : decode cX5_sheet 48 = .ok (.invokevirtual 222, 3) := by decide +kernel
theorem dX5_sheet_51 : decode cX5_sheet 51 = .ok (.iconst 1, 1) := by decide +kernel
theorem dX5_sheet_52 : decode cX5_sheet 52 = .ok (.ireturn, 1) := by decide +kernel
set_option maxRecDepth 20000 in
theorem ggX5_lose_X5_isSheet : GoodIn wsX5_lose wsX5_isSheet := goodIn_r _ [6] (by decide +kernel) (by decide +kernel)
set_option maxRecDepth 20000 in
theorem gX5_lose_X5_isSheet : GoodIn wsX5_lose (va_wsS RX5 59 yX5_isSheet wsX5_isSheet) := goodIn_app (goodIn_of _ (by decide +kernel)) ggX5_lose_X5_isSheet
theorem dX5_lose_0 : decode cX5_lose 0 = .ok (.iload_n 1, 1) := by decide +kernel
theorem dX5_lose_1 : decode cX5_lose 1 = .ok (.invokestatic 59, 3) := by decide +kernel
theorem dX5_lose_4 : decode cX5_lose 4 = .ok (.ifCond .ne 5, 3) := by decide +kernel
theorem dX5_lose_7 : decode cX5_lose 7 = .ok (.iconst (-1), 1) := by decide +kernel
theorem dX5_lose_8 : decode cX5_lose 8 = .ok (.ireturn, 1) := by decide +kernel
theorem dX5_lose_9 : decode cX5_lose 9 = .ok (.aload_n 0, 1) := by decide +kernel
theorem dX5_lose_10 : decode cX5_lose 10 = .ok (.getfield 13, 3) := by decide +kernel
theorem dX5_lose_13 : decode cX5_lose 13 = .ok (.iload_n 1, 1) := by decide +kernel
theorem dX5_lose_14 : decode cX5_lose 14 = .ok (.aaload, 1) := by decide +kernel
theorem dX5_lose_15 : decode cX5_lose 15 = .ok (.getfield 226, 3) := by decide +kernel
theorem dX5_lose_18 : decode cX5_lose 18 = .ok (.istore_n 2, 1) := by decide +kernel
theorem dX5_lose_19 : decode cX5_lose 19 = .ok (.aload_n 0, 1) := by decide +kernel
theorem dX5_lose_20 : decode cX5_lose 20 = .ok (.getfield 13, 3) := by decide +kernel
theorem dX5_lose_23 : decode cX5_lose 23 = .ok (.iload_n 1, 1) := by decide +kernel
theorem dX5_lose_24 : decode cX5_lose 24 = .ok (.aaload, 1) := by decide +kernel
theorem dX5_lose_25 : decode cX5_lose 25 = .ok (.iconst 0, 1) := by decide +kernel
theorem dX5_lose_26 : decode cX5_lose 26 = .ok (.putfield 226, 3) := by decide +kernel
theorem dX5_lose_29 : decode cX5_lose 29 = .ok (.iload_n 2, 1) := by decide +kernel
theorem dX5_lose_30 : decode cX5_lose 30 = .ok (.ifCond .eq 7, 3) := by decide +kernel
theorem dX5_lose_33 : decode cX5_lose 33 = .ok (.iconst 1, 1) := by decide +kernel
theorem dX5_lose_34 : decode cX5_lose 34 = .ok (.goto 4, 3) := by decide +kernel
theorem dX5_lose_37 : decode cX5_lose 37 = .ok (.iconst 0, 1) := by decide +kernel
theorem dX5_lose_38 : decode cX5_lose 38 = .ok (.ireturn, 1) := by decide +kernel
set_option maxRecDepth 20000 in
theorem ggX5_put_X5_isSheet : GoodIn wsX5_put wsX5_isSheet := goodIn_r _ [7] (by decide +kernel) (by decide +kernel)
set_option maxRecDepth 20000 in
theorem gX5_put_X5_isSheet : GoodIn wsX5_put (va_wsS RX5 59 yX5_isSheet wsX5_isSheet) := goodIn_app (goodIn_of _ (by decide +kernel)) ggX5_put_X5_isSheet
set_option maxRecDepth 20000 in
theorem ggX5_put_X5_faulted : GoodIn wsX5_put wsX5_faulted := goodIn_r _ [11, 1, 29, 30, 31, 32, 33, 34, 35, 36, 37] (by decide +kernel) (by decide +kernel)
set_option maxRecDepth 20000 in
theorem gX5_put_X5_faulted : GoodIn wsX5_put (wsV RX5 70 RX5 yX5_faulted wsX5_faulted) := goodIn_app (goodIn_of _ (by decide +kernel)) ggX5_put_X5_faulted
set_option maxRecDepth 20000 in
theorem ggX5_put_X2_hasCell : GoodIn wsX5_put wsX2_hasCell := goodIn_r _ [16, 17, 38, 39, 40, 41] (by decide +kernel) (by decide +kernel)
set_option maxRecDepth 20000 in
theorem gX5_put_X2_hasCell : GoodIn wsX5_put (wsV RX5 230 RX2 yX2_hasCell wsX2_hasCell) := goodIn_app (goodIn_of _ (by decide +kernel)) ggX5_put_X2_hasCell
set_option maxRecDepth 20000 in
theorem ggX5_put_X2_write : GoodIn wsX5_put wsX2_write := goodIn_r _ [21, 22, 23, 13, 14, 15, 16, 17, 24, 25, 26, 27, 28, 38, 39, 40, 41] (by decide +kernel) (by decide +kernel)
set_option maxRecDepth 20000 in
theorem gX5_put_X2_write : GoodIn wsX5_put (wsV RX5 233 RX2 yX2_write wsX2_write) := goodIn_app (goodIn_of _ (by decide +kernel)) ggX5_put_X2_write
theorem dX5_put_0 : decode cX5_put 0 = .ok (.aload_n 0, 1) := by decide +kernel
theorem dX5_put_1 : decode cX5_put 1 = .ok (.iconst 0, 1) := by decide +kernel
theorem dX5_put_2 : decode cX5_put 2 = .ok (.putfield 55, 3) := by decide +kernel
theorem dX5_put_5 : decode cX5_put 5 = .ok (.iload_n 1, 1) := by decide +kernel
theorem dX5_put_6 : decode cX5_put 6 = .ok (.invokestatic 59, 3) := by decide +kernel
theorem dX5_put_9 : decode cX5_put 9 = .ok (.ifCond .ne 5, 3) := by decide +kernel
theorem dX5_put_12 : decode cX5_put 12 = .ok (.iconst (-1), 1) := by decide +kernel
theorem dX5_put_13 : decode cX5_put 13 = .ok (.ireturn, 1) := by decide +kernel
theorem dX5_put_14 : decode cX5_put 14 = .ok (.aload_n 0, 1) := by decide +kernel
theorem dX5_put_15 : decode cX5_put 15 = .ok (.getfield 13, 3) := by decide +kernel
theorem dX5_put_18 : decode cX5_put 18 = .ok (.iload_n 1, 1) := by decide +kernel
theorem dX5_put_19 : decode cX5_put 19 = .ok (.aaload, 1) := by decide +kernel
theorem dX5_put_20 : decode cX5_put 20 = .ok (.getfield 226, 3) := by decide +kernel
theorem dX5_put_23 : decode cX5_put 23 = .ok (.ifCond .ne 9, 3) := by decide +kernel
theorem dX5_put_26 : decode cX5_put 26 = .ok (.aload_n 0, 1) := by decide +kernel
theorem dX5_put_27 : decode cX5_put 27 = .ok (.iconst 1, 1) := by decide +kernel
theorem dX5_put_28 : decode cX5_put 28 = .ok (.invokevirtual 70, 3) := by decide +kernel
theorem dX5_put_31 : decode cX5_put 31 = .ok (.ireturn, 1) := by decide +kernel
theorem dX5_put_32 : decode cX5_put 32 = .ok (.aload_n 0, 1) := by decide +kernel
theorem dX5_put_33 : decode cX5_put 33 = .ok (.getfield 13, 3) := by decide +kernel
theorem dX5_put_36 : decode cX5_put 36 = .ok (.iload_n 1, 1) := by decide +kernel
theorem dX5_put_37 : decode cX5_put 37 = .ok (.aaload, 1) := by decide +kernel
theorem dX5_put_38 : decode cX5_put 38 = .ok (.iload_n 2, 1) := by decide +kernel
theorem dX5_put_39 : decode cX5_put 39 = .ok (.invokevirtual 230, 3) := by decide +kernel
theorem dX5_put_42 : decode cX5_put 42 = .ok (.ifCond .ne 9, 3) := by decide +kernel
theorem dX5_put_45 : decode cX5_put 45 = .ok (.aload_n 0, 1) := by decide +kernel
theorem dX5_put_46 : decode cX5_put 46 = .ok (.iconst 3, 1) := by decide +kernel
theorem dX5_put_47 : decode cX5_put 47 = .ok (.invokevirtual 70, 3) := by decide +kernel
theorem dX5_put_50 : decode cX5_put 50 = .ok (.ireturn, 1) := by decide +kernel
theorem dX5_put_51 : decode cX5_put 51 = .ok (.aload_n 0, 1) := by decide +kernel
theorem dX5_put_52 : decode cX5_put 52 = .ok (.getfield 13, 3) := by decide +kernel
theorem dX5_put_55 : decode cX5_put 55 = .ok (.iload_n 1, 1) := by decide +kernel
theorem dX5_put_56 : decode cX5_put 56 = .ok (.aaload, 1) := by decide +kernel
theorem dX5_put_57 : decode cX5_put 57 = .ok (.iload_n 2, 1) := by decide +kernel
theorem dX5_put_58 : decode cX5_put 58 = .ok (.iload_n 3, 1) := by decide +kernel
theorem dX5_put_59 : decode cX5_put 59 = .ok (.invokevirtual 233, 3) := by decide +kernel
theorem dX5_put_62 : decode cX5_put 62 = .ok (.iconst 1, 1) := by decide +kernel
theorem dX5_put_63 : decode cX5_put 63 = .ok (.ireturn, 1) := by decide +kernel
set_option maxRecDepth 20000 in
theorem ggX5_cell_X5_isSheet : GoodIn wsX5_cell wsX5_isSheet := goodIn_r _ [7] (by decide +kernel) (by decide +kernel)
set_option maxRecDepth 20000 in
theorem gX5_cell_X5_isSheet : GoodIn wsX5_cell (va_wsS RX5 59 yX5_isSheet wsX5_isSheet) := goodIn_app (goodIn_of _ (by decide +kernel)) ggX5_cell_X5_isSheet
set_option maxRecDepth 20000 in
theorem ggX5_cell_X5_isLane : GoodIn wsX5_cell wsX5_isLane := goodIn_r _ [10] (by decide +kernel) (by decide +kernel)
set_option maxRecDepth 20000 in
theorem gX5_cell_X5_isLane : GoodIn wsX5_cell (va_wsS RX5 63 yX5_isLane wsX5_isLane) := goodIn_app (goodIn_of _ (by decide +kernel)) ggX5_cell_X5_isLane
set_option maxRecDepth 20000 in
theorem ggX5_cell_X5_laneFault : GoodIn wsX5_cell wsX5_laneFault := goodIn_r _ [13, 14, 15, 37, 38, 39, 40] (by decide +kernel) (by decide +kernel)
set_option maxRecDepth 20000 in
theorem gX5_cell_X5_laneFault : GoodIn wsX5_cell (va_wsS RX5 236 yX5_laneFault wsX5_laneFault) := goodIn_app (goodIn_of _ (by decide +kernel)) ggX5_cell_X5_laneFault
set_option maxRecDepth 20000 in
theorem ggX5_cell_X2_hasCell : GoodIn wsX5_cell wsX2_hasCell := goodIn_r _ [20, 21, 37, 38, 39, 40] (by decide +kernel) (by decide +kernel)
set_option maxRecDepth 20000 in
theorem gX5_cell_X2_hasCell : GoodIn wsX5_cell (wsV RX5 230 RX2 yX2_hasCell wsX2_hasCell) := goodIn_app (goodIn_of _ (by decide +kernel)) ggX5_cell_X2_hasCell
set_option maxRecDepth 20000 in
theorem ggX5_cell_X2_at : GoodIn wsX5_cell wsX2_at := goodIn_r _ [25, 26, 27, 17, 18, 19, 20, 21, 37, 38, 39, 40] (by decide +kernel) (by decide +kernel)
set_option maxRecDepth 20000 in
theorem gX5_cell_X2_at : GoodIn wsX5_cell (wsV RX5 176 RX2 yX2_at wsX2_at) := goodIn_app (goodIn_of _ (by decide +kernel)) ggX5_cell_X2_at
theorem dX5_cell_0 : decode cX5_cell 0 = .ok (.aload_n 0, 1) := by decide +kernel
theorem dX5_cell_1 : decode cX5_cell 1 = .ok (.iconst 0, 1) := by decide +kernel
theorem dX5_cell_2 : decode cX5_cell 2 = .ok (.putfield 55, 3) := by decide +kernel
theorem dX5_cell_5 : decode cX5_cell 5 = .ok (.iload_n 1, 1) := by decide +kernel
theorem dX5_cell_6 : decode cX5_cell 6 = .ok (.invokestatic 59, 3) := by decide +kernel
theorem dX5_cell_9 : decode cX5_cell 9 = .ok (.ifCond .eq 10, 3) := by decide +kernel
theorem dX5_cell_12 : decode cX5_cell 12 = .ok (.iload_n 3, 1) := by decide +kernel
theorem dX5_cell_13 : decode cX5_cell 13 = .ok (.invokestatic 63, 3) := by decide +kernel
theorem dX5_cell_16 : decode cX5_cell 16 = .ok (.ifCond .ne 7, 3) := by decide +kernel
theorem dX5_cell_19 : decode cX5_cell 19 = .ok (.ldc2_w 214, 3) := by decide +kernel
theorem dX5_cell_22 : decode cX5_cell 22 = .ok (.lreturn, 1) := by decide +kernel
theorem dX5_cell_23 : decode cX5_cell 23 = .ok (.aload_n 0, 1) := by decide +kernel
theorem dX5_cell_24 : decode cX5_cell 24 = .ok (.getfield 13, 3) := by decide +kernel
theorem dX5_cell_27 : decode cX5_cell 27 = .ok (.iload_n 1, 1) := by decide +kernel
theorem dX5_cell_28 : decode cX5_cell 28 = .ok (.aaload, 1) := by decide +kernel
theorem dX5_cell_29 : decode cX5_cell 29 = .ok (.iload_n 3, 1) := by decide +kernel
theorem dX5_cell_30 : decode cX5_cell 30 = .ok (.invokestatic 236, 3) := by decide +kernel
theorem dX5_cell_33 : decode cX5_cell 33 = .ok (.istore 4, 2) := by decide +kernel
theorem dX5_cell_35 : decode cX5_cell 35 = .ok (.iload 4, 2) := by decide +kernel
theorem dX5_cell_37 : decode cX5_cell 37 = .ok (.ifCond .ne 19, 3) := by decide +kernel
theorem dX5_cell_40 : decode cX5_cell 40 = .ok (.aload_n 0, 1) := by decide +kernel
theorem dX5_cell_41 : decode cX5_cell 41 = .ok (.getfield 13, 3) := by decide +kernel
theorem dX5_cell_44 : decode cX5_cell 44 = .ok (.iload_n 1, 1) := by decide +kernel
theorem dX5_cell_45 : decode cX5_cell 45 = .ok (.aaload, 1) := by decide +kernel
theorem dX5_cell_46 : decode cX5_cell 46 = .ok (.iload_n 2, 1) := by decide +kernel
theorem dX5_cell_47 : decode cX5_cell 47 = .ok (.invokevirtual 230, 3) := by decide +kernel
theorem dX5_cell_50 : decode cX5_cell 50 = .ok (.ifCond .ne 6, 3) := by decide +kernel
theorem dX5_cell_53 : decode cX5_cell 53 = .ok (.iconst 3, 1) := by decide +kernel
theorem dX5_cell_54 : decode cX5_cell 54 = .ok (.istore 4, 2) := by decide +kernel
theorem dX5_cell_56 : decode cX5_cell 56 = .ok (.aload_n 0, 1) := by decide +kernel
theorem dX5_cell_57 : decode cX5_cell 57 = .ok (.iload 4, 2) := by decide +kernel
theorem dX5_cell_59 : decode cX5_cell 59 = .ok (.putfield 55, 3) := by decide +kernel
theorem dX5_cell_62 : decode cX5_cell 62 = .ok (.iload 4, 2) := by decide +kernel
theorem dX5_cell_64 : decode cX5_cell 64 = .ok (.ifCond .ne 17, 3) := by decide +kernel
theorem dX5_cell_67 : decode cX5_cell 67 = .ok (.aload_n 0, 1) := by decide +kernel
theorem dX5_cell_68 : decode cX5_cell 68 = .ok (.getfield 13, 3) := by decide +kernel
theorem dX5_cell_71 : decode cX5_cell 71 = .ok (.iload_n 1, 1) := by decide +kernel
theorem dX5_cell_72 : decode cX5_cell 72 = .ok (.aaload, 1) := by decide +kernel
theorem dX5_cell_73 : decode cX5_cell 73 = .ok (.iload_n 2, 1) := by decide +kernel
theorem dX5_cell_74 : decode cX5_cell 74 = .ok (.invokevirtual 176, 3) := by decide +kernel
theorem dX5_cell_77 : decode cX5_cell 77 = .ok (.i2l, 1) := by decide +kernel
theorem dX5_cell_78 : decode cX5_cell 78 = .ok (.goto 6, 3) := by decide +kernel
theorem dX5_cell_81 : decode cX5_cell 81 = .ok (.ldc2_w 214, 3) := by decide +kernel
theorem dX5_cell_84 : decode cX5_cell 84 = .ok (.lreturn, 1) := by decide +kernel
set_option maxRecDepth 20000 in
theorem ggX5_copy_X5_isSheet : GoodIn wsX5_copy wsX5_isSheet := goodIn_r _ [13] (by decide +kernel) (by decide +kernel)
set_option maxRecDepth 20000 in
theorem gX5_copy_X5_isSheet : GoodIn wsX5_copy (va_wsS RX5 59 yX5_isSheet wsX5_isSheet) := goodIn_app (goodIn_of _ (by decide +kernel)) ggX5_copy_X5_isSheet
set_option maxRecDepth 20000 in
theorem ggX5_copy_X5_faulted : GoodIn wsX5_copy wsX5_faulted := goodIn_r _ [17, 1, 24, 25, 26, 27, 28, 29, 30, 31, 32] (by decide +kernel) (by decide +kernel)
set_option maxRecDepth 20000 in
theorem gX5_copy_X5_faulted : GoodIn wsX5_copy (wsV RX5 70 RX5 yX5_faulted wsX5_faulted) := goodIn_app (goodIn_of _ (by decide +kernel)) ggX5_copy_X5_faulted
set_option maxRecDepth 20000 in
theorem ggX5_copy_X2_hasCells : GoodIn wsX5_copy wsX2_hasCells := goodIn_r _ [22, 23, 33, 34, 35, 36] (by decide +kernel) (by decide +kernel)
set_option maxRecDepth 20000 in
theorem gX5_copy_X2_hasCells : GoodIn wsX5_copy (wsV RX5 243 RX2 yX2_hasCells wsX2_hasCells) := goodIn_app (goodIn_of _ (by decide +kernel)) ggX5_copy_X2_hasCells
theorem dX5_copy_0 : decode cX5_copy 0 = .ok (.aload_n 0, 1) := by decide +kernel
theorem dX5_copy_1 : decode cX5_copy 1 = .ok (.iconst 0, 1) := by decide +kernel
theorem dX5_copy_2 : decode cX5_copy 2 = .ok (.putfield 55, 3) := by decide +kernel
theorem dX5_copy_5 : decode cX5_copy 5 = .ok (.iload_n 1, 1) := by decide +kernel
theorem dX5_copy_6 : decode cX5_copy 6 = .ok (.invokestatic 59, 3) := by decide +kernel
theorem dX5_copy_9 : decode cX5_copy 9 = .ok (.ifCond .eq 10, 3) := by decide +kernel
theorem dX5_copy_12 : decode cX5_copy 12 = .ok (.iload_n 3, 1) := by decide +kernel
theorem dX5_copy_13 : decode cX5_copy 13 = .ok (.invokestatic 59, 3) := by decide +kernel
theorem dX5_copy_16 : decode cX5_copy 16 = .ok (.ifCond .ne 5, 3) := by decide +kernel
theorem dX5_copy_19 : decode cX5_copy 19 = .ok (.iconst (-1), 1) := by decide +kernel
theorem dX5_copy_20 : decode cX5_copy 20 = .ok (.ireturn, 1) := by decide +kernel
theorem dX5_copy_21 : decode cX5_copy 21 = .ok (.aload_n 0, 1) := by decide +kernel
theorem dX5_copy_22 : decode cX5_copy 22 = .ok (.getfield 13, 3) := by decide +kernel
theorem dX5_copy_25 : decode cX5_copy 25 = .ok (.iload_n 1, 1) := by decide +kernel
theorem dX5_copy_26 : decode cX5_copy 26 = .ok (.aaload, 1) := by decide +kernel
theorem dX5_copy_27 : decode cX5_copy 27 = .ok (.astore 6, 2) := by decide +kernel
theorem dX5_copy_29 : decode cX5_copy 29 = .ok (.aload_n 0, 1) := by decide +kernel
theorem dX5_copy_30 : decode cX5_copy 30 = .ok (.getfield 13, 3) := by decide +kernel
theorem dX5_copy_33 : decode cX5_copy 33 = .ok (.iload_n 3, 1) := by decide +kernel
theorem dX5_copy_34 : decode cX5_copy 34 = .ok (.aaload, 1) := by decide +kernel
theorem dX5_copy_35 : decode cX5_copy 35 = .ok (.astore 7, 2) := by decide +kernel
theorem dX5_copy_37 : decode cX5_copy 37 = .ok (.aload 6, 2) := by decide +kernel
theorem dX5_copy_39 : decode cX5_copy 39 = .ok (.getfield 226, 3) := by decide +kernel
theorem dX5_copy_42 : decode cX5_copy 42 = .ok (.ifCond .eq 11, 3) := by decide +kernel
theorem dX5_copy_45 : decode cX5_copy 45 = .ok (.aload 7, 2) := by decide +kernel
theorem dX5_copy_47 : decode cX5_copy 47 = .ok (.getfield 226, 3) := by decide +kernel
theorem dX5_copy_50 : decode cX5_copy 50 = .ok (.ifCond .ne 9, 3) := by decide +kernel
theorem dX5_copy_53 : decode cX5_copy 53 = .ok (.aload_n 0, 1) := by decide +kernel
theorem dX5_copy_54 : decode cX5_copy 54 = .ok (.iconst 1, 1) := by decide +kernel
theorem dX5_copy_55 : decode cX5_copy 55 = .ok (.invokevirtual 70, 3) := by decide +kernel
theorem dX5_copy_58 : decode cX5_copy 58 = .ok (.ireturn, 1) := by decide +kernel
theorem dX5_copy_59 : decode cX5_copy 59 = .ok (.aload 6, 2) := by decide +kernel
theorem dX5_copy_61 : decode cX5_copy 61 = .ok (.getfield 240, 3) := by decide +kernel
theorem dX5_copy_64 : decode cX5_copy 64 = .ok (.aload 7, 2) := by decide +kernel
theorem dX5_copy_66 : decode cX5_copy 66 = .ok (.getfield 240, 3) := by decide +kernel
theorem dX5_copy_69 : decode cX5_copy 69 = .ok (.if_icmp .eq 9, 3) := by decide +kernel
theorem dX5_copy_72 : decode cX5_copy 72 = .ok (.aload_n 0, 1) := by decide +kernel
theorem dX5_copy_73 : decode cX5_copy 73 = .ok (.iconst 2, 1) := by decide +kernel
theorem dX5_copy_74 : decode cX5_copy 74 = .ok (.invokevirtual 70, 3) := by decide +kernel
theorem dX5_copy_77 : decode cX5_copy 77 = .ok (.ireturn, 1) := by decide +kernel
theorem dX5_copy_78 : decode cX5_copy 78 = .ok (.aload 6, 2) := by decide +kernel
theorem dX5_copy_80 : decode cX5_copy 80 = .ok (.iload_n 2, 1) := by decide +kernel
theorem dX5_copy_81 : decode cX5_copy 81 = .ok (.iload 5, 2) := by decide +kernel
theorem dX5_copy_83 : decode cX5_copy 83 = .ok (.invokevirtual 243, 3) := by decide +kernel
theorem dX5_copy_86 : decode cX5_copy 86 = .ok (.ifCond .eq 15, 3) := by decide +kernel
theorem dX5_copy_89 : decode cX5_copy 89 = .ok (.aload 7, 2) := by decide +kernel
theorem dX5_copy_91 : decode cX5_copy 91 = .ok (.iload 4, 2) := by decide +kernel
theorem dX5_copy_93 : decode cX5_copy 93 = .ok (.iload 5, 2) := by decide +kernel
theorem dX5_copy_95 : decode cX5_copy 95 = .ok (.invokevirtual 243, 3) := by decide +kernel
theorem dX5_copy_98 : decode cX5_copy 98 = .ok (.ifCond .ne 9, 3) := by decide +kernel
theorem dX5_copy_101 : decode cX5_copy 101 = .ok (.aload_n 0, 1) := by decide +kernel
theorem dX5_copy_102 : decode cX5_copy 102 = .ok (.iconst 3, 1) := by decide +kernel
theorem dX5_copy_103 : decode cX5_copy 103 = .ok (.invokevirtual 70, 3) := by decide +kernel
theorem dX5_copy_106 : decode cX5_copy 106 = .ok (.ireturn, 1) := by decide +kernel
theorem dX5_copy_107 : decode cX5_copy 107 = .ok (.aload 6, 2) := by decide +kernel
theorem dX5_copy_109 : decode cX5_copy 109 = .ok (.getfield 246, 3) := by decide +kernel
theorem dX5_copy_112 : decode cX5_copy 112 = .ok (.iload_n 2, 1) := by decide +kernel
theorem dX5_copy_113 : decode cX5_copy 113 = .ok (.aload 7, 2) := by decide +kernel
theorem dX5_copy_115 : decode cX5_copy 115 = .ok (.getfield 246, 3) := by decide +kernel
theorem dX5_copy_118 : decode cX5_copy 118 = .ok (.iload 4, 2) := by decide +kernel
theorem dX5_copy_120 : decode cX5_copy 120 = .ok (.iload 5, 2) := by decide +kernel
theorem dX5_copy_122 : decode cX5_copy 122 = .ok (.invokestatic 249, 3) := by decide +kernel
theorem dX5_copy_125 : decode cX5_copy 125 = .ok (.iload 5, 2) := by decide +kernel
theorem dX5_copy_127 : decode cX5_copy 127 = .ok (.ireturn, 1) := by decide +kernel
set_option maxRecDepth 20000 in
theorem ggX5_tell_X5_isSon : GoodIn wsX5_tell wsX5_isSon := goodIn_r _ [7, 1, 8, 27, 28, 29, 30, 31, 32, 33, 34, 35, 36, 37, 38, 39, 40, 41, 42, 43] (by decide +kernel) (by decide +kernel)
set_option maxRecDepth 20000 in
theorem gX5_tell_X5_isSon : GoodIn wsX5_tell (wsV RX5 97 RX5 yX5_isSon wsX5_isSon) := goodIn_app (goodIn_of _ (by decide +kernel)) ggX5_tell_X5_isSon
set_option maxRecDepth 20000 in
theorem ggX5_tell_X5_pageTells : GoodIn wsX5_tell wsX5_pageTells := goodIn_r _ [12, 13, 14, 15, 6, 16, 17, 18, 19, 20, 21, 22, 23, 24, 25, 1, 26, 27, 28, 29, 30, 31, 32, 33, 34, 35, 36, 37, 38, 39, 40, 41, 42, 43] (by decide +kernel) (by decide +kernel)
set_option maxRecDepth 20000 in
theorem gX5_tell_X5_pageTells : GoodIn wsX5_tell (wsV RX5 255 RX5 yX5_pageTells wsX5_pageTells) := goodIn_app (goodIn_of _ (by decide +kernel)) ggX5_tell_X5_pageTells
set_option maxRecDepth 20000 in
theorem ggX5_tell_X5_heirTells : GoodIn wsX5_tell wsX5_heirTells := goodIn_r _ [21, 13, 14, 15, 6, 16, 17, 22, 23, 24, 25, 1, 26, 27, 28, 29, 30, 31, 32, 33, 34, 35, 36, 37, 38, 39, 40, 41, 42, 43] (by decide +kernel) (by decide +kernel)
set_option maxRecDepth 20000 in
theorem gX5_tell_X5_heirTells : GoodIn wsX5_tell (wsV RX5 258 RX5 yX5_heirTells wsX5_heirTells) := goodIn_app (goodIn_of _ (by decide +kernel)) ggX5_tell_X5_heirTells
set_option maxRecDepth 20000 in
theorem ggX5_tell_X5_sonTells : GoodIn wsX5_tell wsX5_sonTells := goodIn_r _ [25, 1, 26, 13, 14, 15, 6, 16, 17, 27, 28, 29, 30, 31, 32, 33, 34, 35, 36, 37, 38, 39, 40, 41, 42, 43] (by decide +kernel) (by decide +kernel)
set_option maxRecDepth 20000 in
theorem gX5_tell_X5_sonTells : GoodIn wsX5_tell (wsV RX5 261 RX5 yX5_sonTells wsX5_sonTells) := goodIn_app (goodIn_of _ (by decide +kernel)) ggX5_tell_X5_sonTells
theorem dX5_tell_0 : decode cX5_tell 0 = .ok (.aload_n 0, 1) := by decide +kernel
theorem dX5_tell_1 : decode cX5_tell 1 = .ok (.iload_n 1, 1) := by decide +kernel
theorem dX5_tell_2 : decode cX5_tell 2 = .ok (.invokevirtual 97, 3) := by decide +kernel
theorem dX5_tell_5 : decode cX5_tell 5 = .ok (.ifCond .ne 5, 3) := by decide +kernel
theorem dX5_tell_8 : decode cX5_tell 8 = .ok (.iconst (-1), 1) := by decide +kernel
theorem dX5_tell_9 : decode cX5_tell 9 = .ok (.ireturn, 1) := by decide +kernel
theorem dX5_tell_10 : decode cX5_tell 10 = .ok (.aload_n 0, 1) := by decide +kernel
theorem dX5_tell_11 : decode cX5_tell 11 = .ok (.getfield 27, 3) := by decide +kernel
theorem dX5_tell_14 : decode cX5_tell 14 = .ok (.getfield 100, 3) := by decide +kernel
theorem dX5_tell_17 : decode cX5_tell 17 = .ok (.iload_n 1, 1) := by decide +kernel
theorem dX5_tell_18 : decode cX5_tell 18 = .ok (.iaload, 1) := by decide +kernel
theorem dX5_tell_19 : decode cX5_tell 19 = .ok (.lookupswitch 37 #[(1, 31), (2, 25)], 25) := by decide +kernel
theorem dX5_tell_44 : decode cX5_tell 44 = .ok (.aload_n 0, 1) := by decide +kernel
theorem dX5_tell_45 : decode cX5_tell 45 = .ok (.iload_n 1, 1) := by decide +kernel
theorem dX5_tell_46 : decode cX5_tell 46 = .ok (.invokevirtual 255, 3) := by decide +kernel
theorem dX5_tell_49 : decode cX5_tell 49 = .ok (.ireturn, 1) := by decide +kernel
theorem dX5_tell_50 : decode cX5_tell 50 = .ok (.aload_n 0, 1) := by decide +kernel
theorem dX5_tell_51 : decode cX5_tell 51 = .ok (.iload_n 1, 1) := by decide +kernel
theorem dX5_tell_52 : decode cX5_tell 52 = .ok (.invokevirtual 258, 3) := by decide +kernel
theorem dX5_tell_55 : decode cX5_tell 55 = .ok (.ireturn, 1) := by decide +kernel
theorem dX5_tell_56 : decode cX5_tell 56 = .ok (.aload_n 0, 1) := by decide +kernel
theorem dX5_tell_57 : decode cX5_tell 57 = .ok (.iload_n 1, 1) := by decide +kernel
theorem dX5_tell_58 : decode cX5_tell 58 = .ok (.invokevirtual 261, 3) := by decide +kernel
theorem dX5_tell_61 : decode cX5_tell 61 = .ok (.ireturn, 1) := by decide +kernel
set_option maxRecDepth 20000 in
theorem ggX5_sonTells_X5_leaveTrace : GoodIn wsX5_sonTells wsX5_leaveTrace := goodIn_r _ [7, 8, 9, 10, 11, 12, 13, 14, 15, 16, 17] (by decide +kernel) (by decide +kernel)
set_option maxRecDepth 20000 in
theorem gX5_sonTells_X5_leaveTrace : GoodIn wsX5_sonTells (wsV RX5 264 RX5 yX5_leaveTrace wsX5_leaveTrace) := goodIn_app (goodIn_of _ (by decide +kernel)) ggX5_sonTells_X5_leaveTrace
theorem dX5_sonTells_0 : decode cX5_sonTells 0 = .ok (.aload_n 0, 1) := by decide +kernel
theorem dX5_sonTells_1 : decode cX5_sonTells 1 = .ok (.iconst 1, 1) := by decide +kernel
theorem dX5_sonTells_2 : decode cX5_sonTells 2 = .ok (.invokevirtual 264, 3) := by decide +kernel
theorem dX5_sonTells_5 : decode cX5_sonTells 5 = .ok (.aload_n 0, 1) := by decide +kernel
theorem dX5_sonTells_6 : decode cX5_sonTells 6 = .ok (.getfield 27, 3) := by decide +kernel
theorem dX5_sonTells_9 : decode cX5_sonTells 9 = .ok (.getfield 107, 3) := by decide +kernel
theorem dX5_sonTells_12 : decode cX5_sonTells 12 = .ok (.iload_n 1, 1) := by decide +kernel
theorem dX5_sonTells_13 : decode cX5_sonTells 13 = .ok (.iaload, 1) := by decide +kernel
theorem dX5_sonTells_14 : decode cX5_sonTells 14 = .ok (.ireturn, 1) := by decide +kernel
set_option maxRecDepth 20000 in
theorem ggX5_heirTells_X5_leaveTrace : GoodIn wsX5_heirTells wsX5_leaveTrace := goodIn_r _ [5, 6, 13, 14, 15, 16, 17, 18, 19, 20, 21] (by decide +kernel) (by decide +kernel)
set_option maxRecDepth 20000 in
theorem gX5_heirTells_X5_leaveTrace : GoodIn wsX5_heirTells (wsV RX5 264 RX5 yX5_leaveTrace wsX5_leaveTrace) := goodIn_app (goodIn_of _ (by decide +kernel)) ggX5_heirTells_X5_leaveTrace
set_option maxRecDepth 20000 in
theorem ggX5_heirTells_X5_sonTells : GoodIn wsX5_heirTells wsX5_sonTells := goodIn_r _ [10, 11, 12, 1, 2, 3, 4, 5, 6, 13, 14, 15, 16, 17, 18, 19, 20, 21, 22, 23, 24, 25, 26, 27, 28, 29] (by decide +kernel) (by decide +kernel)
set_option maxRecDepth 20000 in
theorem gX5_heirTells_X5_sonTells : GoodIn wsX5_heirTells (wsV RX5 261 RX5 yX5_sonTells wsX5_sonTells) := goodIn_app (goodIn_of _ (by decide +kernel)) ggX5_heirTells_X5_sonTells
theorem dX5_heirTells_0 : decode cX5_heirTells 0 = .ok (.aload_n 0, 1) := by decide +kernel
theorem dX5_heirTells_1 : decode cX5_heirTells 1 = .ok (.iconst 2, 1) := by decide +kernel
theorem dX5_heirTells_2 : decode cX5_heirTells 2 = .ok (.invokevirtual 264, 3) := by decide +kernel
theorem dX5_heirTells_5 : decode cX5_heirTells 5 = .ok (.aload_n 0, 1) := by decide +kernel
theorem dX5_heirTells_6 : decode cX5_heirTells 6 = .ok (.iload_n 1, 1) := by decide +kernel
theorem dX5_heirTells_7 : decode cX5_heirTells 7 = .ok (.invokevirtual 261, 3) := by decide +kernel
theorem dX5_heirTells_10 : decode cX5_heirTells 10 = .ok (.bipush 100, 2) := by decide +kernel
theorem dX5_heirTells_12 : decode cX5_heirTells 12 = .ok (.iadd, 1) := by decide +kernel
theorem dX5_heirTells_13 : decode cX5_heirTells 13 = .ok (.ireturn, 1) := by decide +kernel
set_option maxRecDepth 20000 in
theorem ggX5_pageTells_X5_leaveTrace : GoodIn wsX5_pageTells wsX5_leaveTrace := goodIn_r _ [5, 6, 17, 18, 19, 20, 21, 22, 23, 24, 25] (by decide +kernel) (by decide +kernel)
set_option maxRecDepth 20000 in
theorem gX5_pageTells_X5_leaveTrace : GoodIn wsX5_pageTells (wsV RX5 264 RX5 yX5_leaveTrace wsX5_leaveTrace) := goodIn_app (goodIn_of _ (by decide +kernel)) ggX5_pageTells_X5_leaveTrace
set_option maxRecDepth 20000 in
theorem ggX5_pageTells_X5_heirTells : GoodIn wsX5_pageTells wsX5_heirTells := goodIn_r _ [10, 1, 2, 3, 4, 5, 6, 11, 12, 13, 14, 15, 16, 17, 18, 19, 20, 21, 22, 23, 24, 25, 26, 27, 28, 29, 30, 31, 32, 33] (by decide +kernel) (by decide +kernel)
set_option maxRecDepth 20000 in
theorem gX5_pageTells_X5_heirTells : GoodIn wsX5_pageTells (wsV RX5 258 RX5 yX5_heirTells wsX5_heirTells) := goodIn_app (goodIn_of _ (by decide +kernel)) ggX5_pageTells_X5_heirTells
set_option maxRecDepth 20000 in
theorem ggX5_pageTells_X5_sonTells : GoodIn wsX5_pageTells wsX5_sonTells := goodIn_r _ [14, 15, 16, 1, 2, 3, 4, 5, 6, 17, 18, 19, 20, 21, 22, 23, 24, 25, 26, 27, 28, 29, 30, 31, 32, 33] (by decide +kernel) (by decide +kernel)
set_option maxRecDepth 20000 in
theorem gX5_pageTells_X5_sonTells : GoodIn wsX5_pageTells (wsV RX5 261 RX5 yX5_sonTells wsX5_sonTells) := goodIn_app (goodIn_of _ (by decide +kernel)) ggX5_pageTells_X5_sonTells
theorem dX5_pageTells_0 : decode cX5_pageTells 0 = .ok (.aload_n 0, 1) := by decide +kernel
theorem dX5_pageTells_1 : decode cX5_pageTells 1 = .ok (.iconst 3, 1) := by decide +kernel
theorem dX5_pageTells_2 : decode cX5_pageTells 2 = .ok (.invokevirtual 264, 3) := by decide +kernel
theorem dX5_pageTells_5 : decode cX5_pageTells 5 = .ok (.aload_n 0, 1) := by decide +kernel
theorem dX5_pageTells_6 : decode cX5_pageTells 6 = .ok (.iload_n 1, 1) := by decide +kernel
theorem dX5_pageTells_7 : decode cX5_pageTells 7 = .ok (.invokevirtual 258, 3) := by decide +kernel
theorem dX5_pageTells_10 : decode cX5_pageTells 10 = .ok (.istore_n 2, 1) := by decide +kernel
theorem dX5_pageTells_11 : decode cX5_pageTells 11 = .ok (.iload_n 2, 1) := by decide +kernel
theorem dX5_pageTells_12 : decode cX5_pageTells 12 = .ok (.aload_n 0, 1) := by decide +kernel
theorem dX5_pageTells_13 : decode cX5_pageTells 13 = .ok (.iload_n 1, 1) := by decide +kernel
theorem dX5_pageTells_14 : decode cX5_pageTells 14 = .ok (.invokevirtual 261, 3) := by decide +kernel
theorem dX5_pageTells_17 : decode cX5_pageTells 17 = .ok (.iadd, 1) := by decide +kernel
theorem dX5_pageTells_18 : decode cX5_pageTells 18 = .ok (.ireturn, 1) := by decide +kernel
set_option maxRecDepth 20000 in
theorem ggX5_teach_X5_isSon : GoodIn wsX5_teach wsX5_isSon := goodIn_r _ [7, 1, 8, 14, 15, 16, 17, 18, 19, 20, 21, 22, 23, 24, 25, 26, 27, 28, 29, 30] (by decide +kernel) (by decide +kernel)
set_option maxRecDepth 20000 in
theorem gX5_teach_X5_isSon : GoodIn wsX5_teach (wsV RX5 97 RX5 yX5_isSon wsX5_isSon) := goodIn_app (goodIn_of _ (by decide +kernel)) ggX5_teach_X5_isSon
set_option maxRecDepth 20000 in
theorem ggX5_teach_X5_leaveTrace : GoodIn wsX5_teach wsX5_leaveTrace := goodIn_r _ [12, 13, 14, 15, 16, 17, 18, 19, 20, 21, 22] (by decide +kernel) (by decide +kernel)
set_option maxRecDepth 20000 in
theorem gX5_teach_X5_leaveTrace : GoodIn wsX5_teach (wsV RX5 264 RX5 yX5_leaveTrace wsX5_leaveTrace) := goodIn_app (goodIn_of _ (by decide +kernel)) ggX5_teach_X5_leaveTrace
theorem dX5_teach_0 : decode cX5_teach 0 = .ok (.aload_n 0, 1) := by decide +kernel
theorem dX5_teach_1 : decode cX5_teach 1 = .ok (.iload_n 1, 1) := by decide +kernel
theorem dX5_teach_2 : decode cX5_teach 2 = .ok (.invokevirtual 97, 3) := by decide +kernel
theorem dX5_teach_5 : decode cX5_teach 5 = .ok (.ifCond .ne 5, 3) := by decide +kernel
theorem dX5_teach_8 : decode cX5_teach 8 = .ok (.iconst (-1), 1) := by decide +kernel
theorem dX5_teach_9 : decode cX5_teach 9 = .ok (.ireturn, 1) := by decide +kernel
theorem dX5_teach_10 : decode cX5_teach 10 = .ok (.aload_n 0, 1) := by decide +kernel
theorem dX5_teach_11 : decode cX5_teach 11 = .ok (.getfield 27, 3) := by decide +kernel
theorem dX5_teach_14 : decode cX5_teach 14 = .ok (.getfield 100, 3) := by decide +kernel
theorem dX5_teach_17 : decode cX5_teach 17 = .ok (.iload_n 1, 1) := by decide +kernel
theorem dX5_teach_18 : decode cX5_teach 18 = .ok (.iaload, 1) := by decide +kernel
theorem dX5_teach_19 : decode cX5_teach 19 = .ok (.iconst 2, 1) := by decide +kernel
theorem dX5_teach_20 : decode cX5_teach 20 = .ok (.if_icmp .ne 11, 3) := by decide +kernel
theorem dX5_teach_23 : decode cX5_teach 23 = .ok (.aload_n 0, 1) := by decide +kernel
theorem dX5_teach_24 : decode cX5_teach 24 = .ok (.iconst 5, 1) := by decide +kernel
theorem dX5_teach_25 : decode cX5_teach 25 = .ok (.invokevirtual 264, 3) := by decide +kernel
theorem dX5_teach_28 : decode cX5_teach 28 = .ok (.bipush 50, 2) := by decide +kernel
theorem dX5_teach_30 : decode cX5_teach 30 = .ok (.ireturn, 1) := by decide +kernel
theorem dX5_teach_31 : decode cX5_teach 31 = .ok (.aload_n 0, 1) := by decide +kernel
theorem dX5_teach_32 : decode cX5_teach 32 = .ok (.iconst 4, 1) := by decide +kernel
theorem dX5_teach_33 : decode cX5_teach 33 = .ok (.invokevirtual 264, 3) := by decide +kernel
theorem dX5_teach_36 : decode cX5_teach 36 = .ok (.iload_n 1, 1) := by decide +kernel
theorem dX5_teach_37 : decode cX5_teach 37 = .ok (.ireturn, 1) := by decide +kernel
theorem dX5_leaveTrace_0 : decode cX5_leaveTrace 0 = .ok (.aload_n 0, 1) := by decide +kernel
theorem dX5_leaveTrace_1 : decode cX5_leaveTrace 1 = .ok (.bipush 31, 2) := by decide +kernel
theorem dX5_leaveTrace_3 : decode cX5_leaveTrace 3 = .ok (.aload_n 0, 1) := by decide +kernel
theorem dX5_leaveTrace_4 : decode cX5_leaveTrace 4 = .ok (.getfield 51, 3) := by decide +kernel
theorem dX5_leaveTrace_7 : decode cX5_leaveTrace 7 = .ok (.imul, 1) := by decide +kernel
theorem dX5_leaveTrace_8 : decode cX5_leaveTrace 8 = .ok (.iload_n 1, 1) := by decide +kernel
theorem dX5_leaveTrace_9 : decode cX5_leaveTrace 9 = .ok (.iadd, 1) := by decide +kernel
theorem dX5_leaveTrace_10 : decode cX5_leaveTrace 10 = .ok (.putfield 51, 3) := by decide +kernel
theorem dX5_leaveTrace_13 : decode cX5_leaveTrace 13 = .ok (.return_, 1) := by decide +kernel
set_option maxRecDepth 20000 in
theorem ggX5_as_X5_isSon : GoodIn wsX5_as wsX5_isSon := goodIn_r _ [8, 2, 9, 14, 15, 16, 17, 18, 19, 20, 21, 22, 23, 24, 25, 26, 27, 28, 29, 30] (by decide +kernel) (by decide +kernel)
set_option maxRecDepth 20000 in
theorem gX5_as_X5_isSon : GoodIn wsX5_as (wsV RX5 97 RX5 yX5_isSon wsX5_isSon) := goodIn_app (goodIn_of _ (by decide +kernel)) ggX5_as_X5_isSon
set_option maxRecDepth 20000 in
theorem ggX5_as_X5_faulted : GoodIn wsX5_as wsX5_faulted := goodIn_r _ [13, 1, 14, 15, 16, 17, 18, 19, 20, 21, 22] (by decide +kernel) (by decide +kernel)
set_option maxRecDepth 20000 in
theorem gX5_as_X5_faulted : GoodIn wsX5_as (wsV RX5 70 RX5 yX5_faulted wsX5_faulted) := goodIn_app (goodIn_of _ (by decide +kernel)) ggX5_as_X5_faulted
theorem dX5_as_0 : decode cX5_as 0 = .ok (.aload_n 0, 1) := by decide +kernel
theorem dX5_as_1 : decode cX5_as 1 = .ok (.iconst 0, 1) := by decide +kernel
theorem dX5_as_2 : decode cX5_as 2 = .ok (.putfield 55, 3) := by decide +kernel
theorem dX5_as_5 : decode cX5_as 5 = .ok (.aload_n 0, 1) := by decide +kernel
theorem dX5_as_6 : decode cX5_as 6 = .ok (.iload_n 1, 1) := by decide +kernel
theorem dX5_as_7 : decode cX5_as 7 = .ok (.invokevirtual 97, 3) := by decide +kernel
theorem dX5_as_10 : decode cX5_as 10 = .ok (.ifCond .ne 5, 3) := by decide +kernel
theorem dX5_as_13 : decode cX5_as 13 = .ok (.iconst (-1), 1) := by decide +kernel
theorem dX5_as_14 : decode cX5_as 14 = .ok (.ireturn, 1) := by decide +kernel
theorem dX5_as_15 : decode cX5_as 15 = .ok (.iload_n 2, 1) := by decide +kernel
theorem dX5_as_16 : decode cX5_as 16 = .ok (.ifCond .lt 8, 3) := by decide +kernel
theorem dX5_as_19 : decode cX5_as 19 = .ok (.iload_n 2, 1) := by decide +kernel
theorem dX5_as_20 : decode cX5_as 20 = .ok (.iconst 2, 1) := by decide +kernel
theorem dX5_as_21 : decode cX5_as 21 = .ok (.if_icmp .le 6, 3) := by decide +kernel
theorem dX5_as_24 : decode cX5_as 24 = .ok (.bipush (-2), 2) := by decide +kernel
theorem dX5_as_26 : decode cX5_as 26 = .ok (.ireturn, 1) := by decide +kernel
theorem dX5_as_27 : decode cX5_as 27 = .ok (.iload_n 2, 1) := by decide +kernel
theorem dX5_as_28 : decode cX5_as 28 = .ok (.aload_n 0, 1) := by decide +kernel
theorem dX5_as_29 : decode cX5_as 29 = .ok (.getfield 27, 3) := by decide +kernel
theorem dX5_as_32 : decode cX5_as 32 = .ok (.getfield 100, 3) := by decide +kernel
theorem dX5_as_35 : decode cX5_as 35 = .ok (.iload_n 1, 1) := by decide +kernel
theorem dX5_as_36 : decode cX5_as 36 = .ok (.iaload, 1) := by decide +kernel
theorem dX5_as_37 : decode cX5_as 37 = .ok (.if_icmp .gt 7, 3) := by decide +kernel
theorem dX5_as_40 : decode cX5_as 40 = .ok (.iconst 1, 1) := by decide +kernel
theorem dX5_as_41 : decode cX5_as 41 = .ok (.goto 8, 3) := by decide +kernel
theorem dX5_as_44 : decode cX5_as 44 = .ok (.aload_n 0, 1) := by decide +kernel
theorem dX5_as_45 : decode cX5_as 45 = .ok (.iconst 2, 1) := by decide +kernel
theorem dX5_as_46 : decode cX5_as 46 = .ok (.invokevirtual 70, 3) := by decide +kernel
theorem dX5_as_49 : decode cX5_as 49 = .ok (.ireturn, 1) := by decide +kernel
theorem dX5_trace_0 : decode cX5_trace 0 = .ok (.aload_n 0, 1) := by decide +kernel
theorem dX5_trace_1 : decode cX5_trace 1 = .ok (.getfield 51, 3) := by decide +kernel
theorem dX5_trace_4 : decode cX5_trace 4 = .ok (.ireturn, 1) := by decide +kernel
theorem dX5_fault_0 : decode cX5_fault 0 = .ok (.aload_n 0, 1) := by decide +kernel
theorem dX5_fault_1 : decode cX5_fault 1 = .ok (.getfield 55, 3) := by decide +kernel
theorem dX5_fault_4 : decode cX5_fault 4 = .ok (.ireturn, 1) := by decide +kernel
set_option maxRecDepth 20000 in
theorem ggX5_many_X1_setOf : GoodIn wsX5_many wsX1_setOf := goodIn_r _ [12, 13, 14, 15, 11, 16, 17, 46, 47] (by decide +kernel) (by decide +kernel)
set_option maxRecDepth 20000 in
theorem gX5_many_X1_setOf : GoodIn wsX5_many (wsV RX5 216 RX1 yX1_setOf wsX1_setOf) := goodIn_app (goodIn_of _ (by decide +kernel)) ggX5_many_X1_setOf
set_option maxRecDepth 20000 in
theorem ggX5_many_J6_bitCount_0f7a4 : GoodIn wsX5_many wsJ6_bitCount_0f7a4 := goodIn_r _ [21, 22, 23, 24] (by decide +kernel) (by decide +kernel)
set_option maxRecDepth 20000 in
theorem gX5_many_J6_bitCount_0f7a4 : GoodIn wsX5_many (va_wsS RX5 185 yJ6_bitCount_0f7a4 wsJ6_bitCount_0f7a4) := goodIn_app (goodIn_of _ (by decide +kernel)) ggX5_many_J6_bitCount_0f7a4
theorem dX5_many_0 : decode cX5_many 0 = .ok (.iload_n 1, 1) := by decide +kernel
theorem dX5_many_1 : decode cX5_many 1 = .ok (.tableswitch 78 0 4 #[35, 43, 51, 59, 70], 35) := by decide +kernel
theorem dX5_many_36 : decode cX5_many 36 = .ok (.aload_n 0, 1) := by decide +kernel
theorem dX5_many_37 : decode cX5_many 37 = .ok (.getfield 27, 3) := by decide +kernel
theorem dX5_many_40 : decode cX5_many 40 = .ok (.getfield 88, 3) := by decide +kernel
theorem dX5_many_43 : decode cX5_many 43 = .ok (.ireturn, 1) := by decide +kernel
theorem dX5_many_44 : decode cX5_many 44 = .ok (.aload_n 0, 1) := by decide +kernel
theorem dX5_many_45 : decode cX5_many 45 = .ok (.getfield 27, 3) := by decide +kernel
theorem dX5_many_48 : decode cX5_many 48 = .ok (.getfield 148, 3) := by decide +kernel
theorem dX5_many_51 : decode cX5_many 51 = .ok (.ireturn, 1) := by decide +kernel
theorem dX5_many_52 : decode cX5_many 52 = .ok (.aload_n 0, 1) := by decide +kernel
theorem dX5_many_53 : decode cX5_many 53 = .ok (.getfield 27, 3) := by decide +kernel
theorem dX5_many_56 : decode cX5_many 56 = .ok (.getfield 179, 3) := by decide +kernel
theorem dX5_many_59 : decode cX5_many 59 = .ok (.ireturn, 1) := by decide +kernel
theorem dX5_many_60 : decode cX5_many 60 = .ok (.aload_n 0, 1) := by decide +kernel
theorem dX5_many_61 : decode cX5_many 61 = .ok (.getfield 37, 3) := by decide +kernel
theorem dX5_many_64 : decode cX5_many 64 = .ok (.invokevirtual 216, 3) := by decide +kernel
theorem dX5_many_67 : decode cX5_many 67 = .ok (.invokestatic 185, 3) := by decide +kernel
theorem dX5_many_70 : decode cX5_many 70 = .ok (.ireturn, 1) := by decide +kernel
theorem dX5_many_71 : decode cX5_many 71 = .ok (.aload_n 0, 1) := by decide +kernel
theorem dX5_many_72 : decode cX5_many 72 = .ok (.getfield 47, 3) := by decide +kernel
theorem dX5_many_75 : decode cX5_many 75 = .ok (.getfield 94, 3) := by decide +kernel
theorem dX5_many_78 : decode cX5_many 78 = .ok (.ireturn, 1) := by decide +kernel
theorem dX5_many_79 : decode cX5_many 79 = .ok (.bipush (-2), 2) := by decide +kernel
theorem dX5_many_81 : decode cX5_many 81 = .ok (.ireturn, 1) := by decide +kernel
theorem dX5_hasTreaty_0 : decode cX5_hasTreaty 0 = .ok (.aload_n 0, 1) := by decide +kernel
theorem dX5_hasTreaty_1 : decode cX5_hasTreaty 1 = .ok (.getfield 27, 3) := by decide +kernel
theorem dX5_hasTreaty_4 : decode cX5_hasTreaty 4 = .ok (.getfield 88, 3) := by decide +kernel
theorem dX5_hasTreaty_7 : decode cX5_hasTreaty 7 = .ok (.ifCond .le 7, 3) := by decide +kernel
theorem dX5_hasTreaty_10 : decode cX5_hasTreaty 10 = .ok (.iconst 1, 1) := by decide +kernel
theorem dX5_hasTreaty_11 : decode cX5_hasTreaty 11 = .ok (.goto 4, 3) := by decide +kernel
theorem dX5_hasTreaty_14 : decode cX5_hasTreaty 14 = .ok (.iconst 0, 1) := by decide +kernel
theorem dX5_hasTreaty_15 : decode cX5_hasTreaty 15 = .ok (.ireturn, 1) := by decide +kernel
theorem dX5_isSon_0 : decode cX5_isSon 0 = .ok (.iload_n 1, 1) := by decide +kernel
theorem dX5_isSon_1 : decode cX5_isSon 1 = .ok (.ifCond .lt 18, 3) := by decide +kernel
theorem dX5_isSon_4 : decode cX5_isSon 4 = .ok (.iload_n 1, 1) := by decide +kernel
theorem dX5_isSon_5 : decode cX5_isSon 5 = .ok (.aload_n 0, 1) := by decide +kernel
theorem dX5_isSon_6 : decode cX5_isSon 6 = .ok (.getfield 27, 3) := by decide +kernel
theorem dX5_isSon_9 : decode cX5_isSon 9 = .ok (.getfield 88, 3) := by decide +kernel
theorem dX5_isSon_12 : decode cX5_isSon 12 = .ok (.if_icmp .ge 7, 3) := by decide +kernel
theorem dX5_isSon_15 : decode cX5_isSon 15 = .ok (.iconst 1, 1) := by decide +kernel
theorem dX5_isSon_16 : decode cX5_isSon 16 = .ok (.goto 4, 3) := by decide +kernel
theorem dX5_isSon_19 : decode cX5_isSon 19 = .ok (.iconst 0, 1) := by decide +kernel
theorem dX5_isSon_20 : decode cX5_isSon 20 = .ok (.ireturn, 1) := by decide +kernel
theorem dX5_isCourt_0 : decode cX5_isCourt 0 = .ok (.iload_n 1, 1) := by decide +kernel
theorem dX5_isCourt_1 : decode cX5_isCourt 1 = .ok (.ifCond .lt 18, 3) := by decide +kernel
theorem dX5_isCourt_4 : decode cX5_isCourt 4 = .ok (.iload_n 1, 1) := by decide +kernel
theorem dX5_isCourt_5 : decode cX5_isCourt 5 = .ok (.aload_n 0, 1) := by decide +kernel
theorem dX5_isCourt_6 : decode cX5_isCourt 6 = .ok (.getfield 27, 3) := by decide +kernel
theorem dX5_isCourt_9 : decode cX5_isCourt 9 = .ok (.getfield 148, 3) := by decide +kernel
theorem dX5_isCourt_12 : decode cX5_isCourt 12 = .ok (.if_icmp .ge 7, 3) := by decide +kernel
theorem dX5_isCourt_15 : decode cX5_isCourt 15 = .ok (.iconst 1, 1) := by decide +kernel
theorem dX5_isCourt_16 : decode cX5_isCourt 16 = .ok (.goto 4, 3) := by decide +kernel
theorem dX5_isCourt_19 : decode cX5_isCourt 19 = .ok (.iconst 0, 1) := by decide +kernel
theorem dX5_isCourt_20 : decode cX5_isCourt 20 = .ok (.ireturn, 1) := by decide +kernel
theorem dX5_isYear_0 : decode cX5_isYear 0 = .ok (.iload_n 1, 1) := by decide +kernel
theorem dX5_isYear_1 : decode cX5_isYear 1 = .ok (.ifCond .lt 18, 3) := by decide +kernel
theorem dX5_isYear_4 : decode cX5_isYear 4 = .ok (.iload_n 1, 1) := by decide +kernel
theorem dX5_isYear_5 : decode cX5_isYear 5 = .ok (.aload_n 0, 1) := by decide +kernel
theorem dX5_isYear_6 : decode cX5_isYear 6 = .ok (.getfield 27, 3) := by decide +kernel
theorem dX5_isYear_9 : decode cX5_isYear 9 = .ok (.getfield 179, 3) := by decide +kernel
theorem dX5_isYear_12 : decode cX5_isYear 12 = .ok (.if_icmp .ge 7, 3) := by decide +kernel
theorem dX5_isYear_15 : decode cX5_isYear 15 = .ok (.iconst 1, 1) := by decide +kernel
theorem dX5_isYear_16 : decode cX5_isYear 16 = .ok (.goto 4, 3) := by decide +kernel
theorem dX5_isYear_19 : decode cX5_isYear 19 = .ok (.iconst 0, 1) := by decide +kernel
theorem dX5_isYear_20 : decode cX5_isYear 20 = .ok (.ireturn, 1) := by decide +kernel
theorem dX5_isSheet_0 : decode cX5_isSheet 0 = .ok (.iload_n 0, 1) := by decide +kernel
theorem dX5_isSheet_1 : decode cX5_isSheet 1 = .ok (.ifCond .lt 12, 3) := by decide +kernel
theorem dX5_isSheet_4 : decode cX5_isSheet 4 = .ok (.iload_n 0, 1) := by decide +kernel
theorem dX5_isSheet_5 : decode cX5_isSheet 5 = .ok (.iconst 4, 1) := by decide +kernel
theorem dX5_isSheet_6 : decode cX5_isSheet 6 = .ok (.if_icmp .ge 7, 3) := by decide +kernel
theorem dX5_isSheet_9 : decode cX5_isSheet 9 = .ok (.iconst 1, 1) := by decide +kernel
theorem dX5_isSheet_10 : decode cX5_isSheet 10 = .ok (.goto 4, 3) := by decide +kernel
theorem dX5_isSheet_13 : decode cX5_isSheet 13 = .ok (.iconst 0, 1) := by decide +kernel
theorem dX5_isSheet_14 : decode cX5_isSheet 14 = .ok (.ireturn, 1) := by decide +kernel
theorem dX5_isLane_0 : decode cX5_isLane 0 = .ok (.iload_n 0, 1) := by decide +kernel
theorem dX5_isLane_1 : decode cX5_isLane 1 = .ok (.ifCond .lt 12, 3) := by decide +kernel
theorem dX5_isLane_4 : decode cX5_isLane 4 = .ok (.iload_n 0, 1) := by decide +kernel
theorem dX5_isLane_5 : decode cX5_isLane 5 = .ok (.iconst 2, 1) := by decide +kernel
theorem dX5_isLane_6 : decode cX5_isLane 6 = .ok (.if_icmp .gt 7, 3) := by decide +kernel
theorem dX5_isLane_9 : decode cX5_isLane 9 = .ok (.iconst 1, 1) := by decide +kernel
theorem dX5_isLane_10 : decode cX5_isLane 10 = .ok (.goto 4, 3) := by decide +kernel
theorem dX5_isLane_13 : decode cX5_isLane 13 = .ok (.iconst 0, 1) := by decide +kernel
theorem dX5_isLane_14 : decode cX5_isLane 14 = .ok (.ireturn, 1) := by decide +kernel
theorem dX5_faulted_0 : decode cX5_faulted 0 = .ok (.aload_n 0, 1) := by decide +kernel
theorem dX5_faulted_1 : decode cX5_faulted 1 = .ok (.iload_n 1, 1) := by decide +kernel
theorem dX5_faulted_2 : decode cX5_faulted 2 = .ok (.putfield 55, 3) := by decide +kernel
theorem dX5_faulted_5 : decode cX5_faulted 5 = .ok (.bipush (-10), 2) := by decide +kernel
theorem dX5_faulted_7 : decode cX5_faulted 7 = .ok (.iload_n 1, 1) := by decide +kernel
theorem dX5_faulted_8 : decode cX5_faulted 8 = .ok (.isub, 1) := by decide +kernel
theorem dX5_faulted_9 : decode cX5_faulted 9 = .ok (.ireturn, 1) := by decide +kernel
theorem dX5_laneFault_0 : decode cX5_laneFault 0 = .ok (.aload_n 0, 1) := by decide +kernel
theorem dX5_laneFault_1 : decode cX5_laneFault 1 = .ok (.getfield 226, 3) := by decide +kernel
theorem dX5_laneFault_4 : decode cX5_laneFault 4 = .ok (.ifCond .ne 5, 3) := by decide +kernel
theorem dX5_laneFault_7 : decode cX5_laneFault 7 = .ok (.iconst 1, 1) := by decide +kernel
theorem dX5_laneFault_8 : decode cX5_laneFault 8 = .ok (.ireturn, 1) := by decide +kernel
theorem dX5_laneFault_9 : decode cX5_laneFault 9 = .ok (.aload_n 0, 1) := by decide +kernel
theorem dX5_laneFault_10 : decode cX5_laneFault 10 = .ok (.getfield 240, 3) := by decide +kernel
theorem dX5_laneFault_13 : decode cX5_laneFault 13 = .ok (.iload_n 1, 1) := by decide +kernel
theorem dX5_laneFault_14 : decode cX5_laneFault 14 = .ok (.if_icmp .ne 7, 3) := by decide +kernel
theorem dX5_laneFault_17 : decode cX5_laneFault 17 = .ok (.iconst 0, 1) := by decide +kernel
theorem dX5_laneFault_18 : decode cX5_laneFault 18 = .ok (.goto 4, 3) := by decide +kernel
theorem dX5_laneFault_21 : decode cX5_laneFault 21 = .ok (.iconst 2, 1) := by decide +kernel
theorem dX5_laneFault_22 : decode cX5_laneFault 22 = .ok (.ireturn, 1) := by decide +kernel
set_option maxRecDepth 20000 in
theorem ggX5_rowFault_X5_laneFault : GoodIn wsX5_rowFault wsX5_laneFault := goodIn_r _ [4, 5, 6, 13, 14, 15, 16] (by decide +kernel) (by decide +kernel)
set_option maxRecDepth 20000 in
theorem gX5_rowFault_X5_laneFault : GoodIn wsX5_rowFault (va_wsS RX5 236 yX5_laneFault wsX5_laneFault) := goodIn_app (goodIn_of _ (by decide +kernel)) ggX5_rowFault_X5_laneFault
set_option maxRecDepth 20000 in
theorem ggX5_rowFault_X2_hasCells : GoodIn wsX5_rowFault wsX2_hasCells := goodIn_r _ [11, 12, 13, 14, 15, 16] (by decide +kernel) (by decide +kernel)
set_option maxRecDepth 20000 in
theorem gX5_rowFault_X2_hasCells : GoodIn wsX5_rowFault (wsV RX5 243 RX2 yX2_hasCells wsX2_hasCells) := goodIn_app (goodIn_of _ (by decide +kernel)) ggX5_rowFault_X2_hasCells
theorem dX5_rowFault_0 : decode cX5_rowFault 0 = .ok (.aload_n 0, 1) := by decide +kernel
theorem dX5_rowFault_1 : decode cX5_rowFault 1 = .ok (.iload_n 1, 1) := by decide +kernel
theorem dX5_rowFault_2 : decode cX5_rowFault 2 = .ok (.invokestatic 236, 3) := by decide +kernel
theorem dX5_rowFault_5 : decode cX5_rowFault 5 = .ok (.istore 4, 2) := by decide +kernel
theorem dX5_rowFault_7 : decode cX5_rowFault 7 = .ok (.iload 4, 2) := by decide +kernel
theorem dX5_rowFault_9 : decode cX5_rowFault 9 = .ok (.ifCond .eq 6, 3) := by decide +kernel
theorem dX5_rowFault_12 : decode cX5_rowFault 12 = .ok (.iload 4, 2) := by decide +kernel
theorem dX5_rowFault_14 : decode cX5_rowFault 14 = .ok (.ireturn, 1) := by decide +kernel
theorem dX5_rowFault_15 : decode cX5_rowFault 15 = .ok (.iload_n 3, 1) := by decide +kernel
theorem dX5_rowFault_16 : decode cX5_rowFault 16 = .ok (.ifCond .ge 5, 3) := by decide +kernel
theorem dX5_rowFault_19 : decode cX5_rowFault 19 = .ok (.iconst 4, 1) := by decide +kernel
theorem dX5_rowFault_20 : decode cX5_rowFault 20 = .ok (.ireturn, 1) := by decide +kernel
theorem dX5_rowFault_21 : decode cX5_rowFault 21 = .ok (.aload_n 0, 1) := by decide +kernel
theorem dX5_rowFault_22 : decode cX5_rowFault 22 = .ok (.iload_n 2, 1) := by decide +kernel
theorem dX5_rowFault_23 : decode cX5_rowFault 23 = .ok (.iload_n 3, 1) := by decide +kernel
theorem dX5_rowFault_24 : decode cX5_rowFault 24 = .ok (.invokevirtual 243, 3) := by decide +kernel
theorem dX5_rowFault_27 : decode cX5_rowFault 27 = .ok (.ifCond .eq 7, 3) := by decide +kernel
theorem dX5_rowFault_30 : decode cX5_rowFault 30 = .ok (.iconst 0, 1) := by decide +kernel
theorem dX5_rowFault_31 : decode cX5_rowFault 31 = .ok (.goto 4, 3) := by decide +kernel
theorem dX5_rowFault_34 : decode cX5_rowFault 34 = .ok (.iconst 3, 1) := by decide +kernel
theorem dX5_rowFault_35 : decode cX5_rowFault 35 = .ok (.ireturn, 1) := by decide +kernel
theorem dX6_init_0 : decode cX6_init 0 = .ok (.aload_n 0, 1) := by decide +kernel
theorem dX6_init_1 : decode cX6_init 1 = .ok (.invokespecial 1, 3) := by decide +kernel
theorem dX6_init_4 : decode cX6_init 4 = .ok (.aload_n 0, 1) := by decide +kernel
theorem dX6_init_5 : decode cX6_init 5 = .ok (.iconst 4, 1) := by decide +kernel
theorem dX6_init_6 : decode cX6_init 6 = .ok (.newarray .int, 2) := by decide +kernel
theorem dX6_init_8 : decode cX6_init 8 = .ok (.dup, 1) := by decide +kernel
theorem dX6_init_9 : decode cX6_init 9 = .ok (.iconst 0, 1) := by decide +kernel
theorem dX6_init_10 : decode cX6_init 10 = .ok (.bipush (-9), 2) := by decide +kernel
theorem dX6_init_12 : decode cX6_init 12 = .ok (.iastore, 1) := by decide +kernel
theorem dX6_init_13 : decode cX6_init 13 = .ok (.dup, 1) := by decide +kernel
theorem dX6_init_14 : decode cX6_init 14 = .ok (.iconst 1, 1) := by decide +kernel
theorem dX6_init_15 : decode cX6_init 15 = .ok (.bipush (-9), 2) := by decide +kernel
theorem dX6_init_17 : decode cX6_init 17 = .ok (.iastore, 1) := by decide +kernel
theorem dX6_init_18 : decode cX6_init 18 = .ok (.dup, 1) := by decide +kernel
theorem dX6_init_19 : decode cX6_init 19 = .ok (.iconst 2, 1) := by decide +kernel
theorem dX6_init_20 : decode cX6_init 20 = .ok (.bipush (-9), 2) := by decide +kernel
theorem dX6_init_22 : decode cX6_init 22 = .ok (.iastore, 1) := by decide +kernel
theorem dX6_init_23 : decode cX6_init 23 = .ok (.dup, 1) := by decide +kernel
theorem dX6_init_24 : decode cX6_init 24 = .ok (.iconst 3, 1) := by decide +kernel
theorem dX6_init_25 : decode cX6_init 25 = .ok (.bipush (-9), 2) := by decide +kernel
theorem dX6_init_27 : decode cX6_init 27 = .ok (.iastore, 1) := by decide +kernel
theorem dX6_init_28 : decode cX6_init 28 = .ok (.putfield 9, 3) := by decide +kernel
theorem dX6_init_31 : decode cX6_init 31 = .ok (.aload_n 0, 1) := by decide +kernel
theorem dX6_init_32 : decode cX6_init 32 = .ok (.iconst 4, 1) := by decide +kernel
theorem dX6_init_33 : decode cX6_init 33 = .ok (.newarray .int, 2) := by decide +kernel
theorem dX6_init_35 : decode cX6_init 35 = .ok (.putfield 13, 3) := by decide +kernel
theorem dX6_init_38 : decode cX6_init 38 = .ok (.aload_n 0, 1) := by decide +kernel
theorem dX6_init_39 : decode cX6_init 39 = .ok (.sipush 240, 3) := by decide +kernel
theorem dX6_init_42 : decode cX6_init 42 = .ok (.newarray .int, 2) := by decide +kernel
theorem dX6_init_44 : decode cX6_init 44 = .ok (.putfield 16, 3) := by decide +kernel
theorem dX6_init_47 : decode cX6_init 47 = .ok (.aload_n 0, 1) := by decide +kernel
theorem dX6_init_48 : decode cX6_init 48 = .ok (.bipush 24, 2) := by decide +kernel
theorem dX6_init_50 : decode cX6_init 50 = .ok (.newarray .int, 2) := by decide +kernel
theorem dX6_init_52 : decode cX6_init 52 = .ok (.putfield 19, 3) := by decide +kernel
theorem dX6_init_55 : decode cX6_init 55 = .ok (.aload_n 0, 1) := by decide +kernel
theorem dX6_init_56 : decode cX6_init 56 = .ok (.bipush 6, 2) := by decide +kernel
theorem dX6_init_58 : decode cX6_init 58 = .ok (.newarray .int, 2) := by decide +kernel
theorem dX6_init_60 : decode cX6_init 60 = .ok (.putfield 22, 3) := by decide +kernel
theorem dX6_init_63 : decode cX6_init 63 = .ok (.aload_n 0, 1) := by decide +kernel
theorem dX6_init_64 : decode cX6_init 64 = .ok (.bipush 6, 2) := by decide +kernel
theorem dX6_init_66 : decode cX6_init 66 = .ok (.newarray .int, 2) := by decide +kernel
theorem dX6_init_68 : decode cX6_init 68 = .ok (.putfield 25, 3) := by decide +kernel
theorem dX6_init_71 : decode cX6_init 71 = .ok (.aload_n 0, 1) := by decide +kernel
theorem dX6_init_72 : decode cX6_init 72 = .ok (.bipush 6, 2) := by decide +kernel
theorem dX6_init_74 : decode cX6_init 74 = .ok (.newarray .int, 2) := by decide +kernel
theorem dX6_init_76 : decode cX6_init 76 = .ok (.putfield 28, 3) := by decide +kernel
theorem dX6_init_79 : decode cX6_init 79 = .ok (.aload_n 0, 1) := by decide +kernel
theorem dX6_init_80 : decode cX6_init 80 = .ok (.bipush 6, 2) := by decide +kernel
theorem dX6_init_82 : decode cX6_init 82 = .ok (.newarray .int, 2) := by decide +kernel
theorem dX6_init_84 : decode cX6_init 84 = .ok (.putfield 31, 3) := by decide +kernel
theorem dX6_init_87 : decode cX6_init 87 = .ok (.aload_n 0, 1) := by decide +kernel
theorem dX6_init_88 : decode cX6_init 88 = .ok (.bipush 6, 2) := by decide +kernel
theorem dX6_init_90 : decode cX6_init 90 = .ok (.newarray .int, 2) := by decide +kernel
theorem dX6_init_92 : decode cX6_init 92 = .ok (.putfield 34, 3) := by decide +kernel
theorem dX6_init_95 : decode cX6_init 95 = .ok (.aload_n 0, 1) := by decide +kernel
theorem dX6_init_96 : decode cX6_init 96 = .ok (.bipush 6, 2) := by decide +kernel
theorem dX6_init_98 : decode cX6_init 98 = .ok (.newarray .int, 2) := by decide +kernel
theorem dX6_init_100 : decode cX6_init 100 = .ok (.putfield 37, 3) := by decide +kernel
theorem dX6_init_103 : decode cX6_init 103 = .ok (.aload_n 0, 1) := by decide +kernel
theorem dX6_init_104 : decode cX6_init 104 = .ok (.bipush 24, 2) := by decide +kernel
theorem dX6_init_106 : decode cX6_init 106 = .ok (.newarray .int, 2) := by decide +kernel
theorem dX6_init_108 : decode cX6_init 108 = .ok (.putfield 40, 3) := by decide +kernel
theorem dX6_init_111 : decode cX6_init 111 = .ok (.aload_n 0, 1) := by decide +kernel
theorem dX6_init_112 : decode cX6_init 112 = .ok (.bipush 24, 2) := by decide +kernel
theorem dX6_init_114 : decode cX6_init 114 = .ok (.newarray .int, 2) := by decide +kernel
theorem dX6_init_116 : decode cX6_init 116 = .ok (.putfield 43, 3) := by decide +kernel
theorem dX6_init_119 : decode cX6_init 119 = .ok (.aload_n 0, 1) := by decide +kernel
theorem dX6_init_120 : decode cX6_init 120 = .ok (.bipush 6, 2) := by decide +kernel
theorem dX6_init_122 : decode cX6_init 122 = .ok (.newarray .int, 2) := by decide +kernel
theorem dX6_init_124 : decode cX6_init 124 = .ok (.putfield 46, 3) := by decide +kernel
theorem dX6_init_127 : decode cX6_init 127 = .ok (.aload_n 0, 1) := by decide +kernel
theorem dX6_init_128 : decode cX6_init 128 = .ok (.bipush 8, 2) := by decide +kernel
theorem dX6_init_130 : decode cX6_init 130 = .ok (.newarray .int, 2) := by decide +kernel
theorem dX6_init_132 : decode cX6_init 132 = .ok (.putfield 49, 3) := by decide +kernel
theorem dX6_init_135 : decode cX6_init 135 = .ok (.aload_n 0, 1) := by decide +kernel
theorem dX6_init_136 : decode cX6_init 136 = .ok (.bipush 8, 2) := by decide +kernel
theorem dX6_init_138 : decode cX6_init 138 = .ok (.newarray .int, 2) := by decide +kernel
theorem dX6_init_140 : decode cX6_init 140 = .ok (.putfield 52, 3) := by decide +kernel
theorem dX6_init_143 : decode cX6_init 143 = .ok (.aload_n 0, 1) := by decide +kernel
theorem dX6_init_144 : decode cX6_init 144 = .ok (.bipush 8, 2) := by decide +kernel
theorem dX6_init_146 : decode cX6_init 146 = .ok (.newarray .boolean, 2) := by decide +kernel
theorem dX6_init_148 : decode cX6_init 148 = .ok (.putfield 55, 3) := by decide +kernel
theorem dX6_init_151 : decode cX6_init 151 = .ok (.aload_n 0, 1) := by decide +kernel
theorem dX6_init_152 : decode cX6_init 152 = .ok (.bipush 6, 2) := by decide +kernel
theorem dX6_init_154 : decode cX6_init 154 = .ok (.newarray .int, 2) := by decide +kernel
theorem dX6_init_156 : decode cX6_init 156 = .ok (.putfield 59, 3) := by decide +kernel
theorem dX6_init_159 : decode cX6_init 159 = .ok (.return_, 1) := by decide +kernel
theorem dX6_fails_0 : decode cX6_fails 0 = .ok (.aload_n 0, 1) := by decide +kernel
theorem dX6_fails_1 : decode cX6_fails 1 = .ok (.iload_n 1, 1) := by decide +kernel
theorem dX6_fails_2 : decode cX6_fails 2 = .ok (.putfield 62, 3) := by decide +kernel
theorem dX6_fails_5 : decode cX6_fails 5 = .ok (.bipush (-10), 2) := by decide +kernel
theorem dX6_fails_7 : decode cX6_fails 7 = .ok (.iload_n 1, 1) := by decide +kernel
theorem dX6_fails_8 : decode cX6_fails 8 = .ok (.isub, 1) := by decide +kernel
theorem dX6_fails_9 : decode cX6_fails 9 = .ok (.ireturn, 1) := by decide +kernel
theorem dX6_lost_0 : decode cX6_lost 0 = .ok (.aload_n 0, 1) := by decide +kernel
theorem dX6_lost_1 : decode cX6_lost 1 = .ok (.iload_n 1, 1) := by decide +kernel
theorem dX6_lost_2 : decode cX6_lost 2 = .ok (.putfield 62, 3) := by decide +kernel
theorem dX6_lost_5 : decode cX6_lost 5 = .ok (.ldc2_w 66, 3) := by decide +kernel
theorem dX6_lost_8 : decode cX6_lost 8 = .ok (.lreturn, 1) := by decide +kernel
theorem dX6_within_0 : decode cX6_within 0 = .ok (.iload_n 0, 1) := by decide +kernel
theorem dX6_within_1 : decode cX6_within 1 = .ok (.iload_n 1, 1) := by decide +kernel
theorem dX6_within_2 : decode cX6_within 2 = .ok (.if_icmp .lt 12, 3) := by decide +kernel
theorem dX6_within_5 : decode cX6_within 5 = .ok (.iload_n 0, 1) := by decide +kernel
theorem dX6_within_6 : decode cX6_within 6 = .ok (.iload_n 2, 1) := by decide +kernel
theorem dX6_within_7 : decode cX6_within 7 = .ok (.if_icmp .gt 7, 3) := by decide +kernel
theorem dX6_within_10 : decode cX6_within 10 = .ok (.iconst 1, 1) := by decide +kernel
theorem dX6_within_11 : decode cX6_within 11 = .ok (.goto 4, 3) := by decide +kernel
theorem dX6_within_14 : decode cX6_within 14 = .ok (.iconst 0, 1) := by decide +kernel
theorem dX6_within_15 : decode cX6_within 15 = .ok (.ireturn, 1) := by decide +kernel
set_option maxRecDepth 20000 in
theorem ggX6_isSheet_X6_within : GoodIn wsX6_isSheet wsX6_within := goodIn_r _ [4] (by decide +kernel) (by decide +kernel)
set_option maxRecDepth 20000 in
theorem gX6_isSheet_X6_within : GoodIn wsX6_isSheet (va_wsS RX6 68 yX6_within wsX6_within) := goodIn_app (goodIn_of _ (by decide +kernel)) ggX6_isSheet_X6_within
theorem dX6_isSheet_0 : decode cX6_isSheet 0 = .ok (.iload_n 0, 1) := by decide +kernel
theorem dX6_isSheet_1 : decode cX6_isSheet 1 = .ok (.iconst 0, 1) := by decide +kernel
theorem dX6_isSheet_2 : decode cX6_isSheet 2 = .ok (.iconst 3, 1) := by decide +kernel
theorem dX6_isSheet_3 : decode cX6_isSheet 3 = .ok (.invokestatic 68, 3) := by decide +kernel
theorem dX6_isSheet_6 : decode cX6_isSheet 6 = .ok (.ireturn, 1) := by decide +kernel
set_option maxRecDepth 20000 in
theorem ggX6_isSort_X6_within : GoodIn wsX6_isSort wsX6_within := goodIn_r _ [4] (by decide +kernel) (by decide +kernel)
set_option maxRecDepth 20000 in
theorem gX6_isSort_X6_within : GoodIn wsX6_isSort (va_wsS RX6 68 yX6_within wsX6_within) := goodIn_app (goodIn_of _ (by decide +kernel)) ggX6_isSort_X6_within
theorem dX6_isSort_0 : decode cX6_isSort 0 = .ok (.iload_n 0, 1) := by decide +kernel
theorem dX6_isSort_1 : decode cX6_isSort 1 = .ok (.iconst 0, 1) := by decide +kernel
theorem dX6_isSort_2 : decode cX6_isSort 2 = .ok (.iconst 2, 1) := by decide +kernel
theorem dX6_isSort_3 : decode cX6_isSort 3 = .ok (.invokestatic 68, 3) := by decide +kernel
theorem dX6_isSort_6 : decode cX6_isSort 6 = .ok (.ireturn, 1) := by decide +kernel
theorem dX6_against_0 : decode cX6_against 0 = .ok (.aload_n 0, 1) := by decide +kernel
theorem dX6_against_1 : decode cX6_against 1 = .ok (.getfield 9, 3) := by decide +kernel
theorem dX6_against_4 : decode cX6_against 4 = .ok (.iload_n 1, 1) := by decide +kernel
theorem dX6_against_5 : decode cX6_against 5 = .ok (.iaload, 1) := by decide +kernel
theorem dX6_against_6 : decode cX6_against 6 = .ok (.bipush (-9), 2) := by decide +kernel
theorem dX6_against_8 : decode cX6_against 8 = .ok (.if_icmp .eq 15, 3) := by decide +kernel
theorem dX6_against_11 : decode cX6_against 11 = .ok (.aload_n 0, 1) := by decide +kernel
theorem dX6_against_12 : decode cX6_against 12 = .ok (.getfield 9, 3) := by decide +kernel
theorem dX6_against_15 : decode cX6_against 15 = .ok (.iload_n 1, 1) := by decide +kernel
theorem dX6_against_16 : decode cX6_against 16 = .ok (.iaload, 1) := by decide +kernel
theorem dX6_against_17 : decode cX6_against 17 = .ok (.iload_n 2, 1) := by decide +kernel
theorem dX6_against_18 : decode cX6_against 18 = .ok (.if_icmp .eq 5, 3) := by decide +kernel
theorem dX6_against_21 : decode cX6_against 21 = .ok (.iconst 2, 1) := by decide +kernel
theorem dX6_against_22 : decode cX6_against 22 = .ok (.ireturn, 1) := by decide +kernel
theorem dX6_against_23 : decode cX6_against 23 = .ok (.aload_n 0, 1) := by decide +kernel
theorem dX6_against_24 : decode cX6_against 24 = .ok (.getfield 9, 3) := by decide +kernel
theorem dX6_against_27 : decode cX6_against 27 = .ok (.iload_n 1, 1) := by decide +kernel
theorem dX6_against_28 : decode cX6_against 28 = .ok (.iaload, 1) := by decide +kernel
theorem dX6_against_29 : decode cX6_against 29 = .ok (.bipush (-9), 2) := by decide +kernel
theorem dX6_against_31 : decode cX6_against 31 = .ok (.if_icmp .ne 5, 3) := by decide +kernel
theorem dX6_against_34 : decode cX6_against 34 = .ok (.iconst 1, 1) := by decide +kernel
theorem dX6_against_35 : decode cX6_against 35 = .ok (.ireturn, 1) := by decide +kernel
theorem dX6_against_36 : decode cX6_against 36 = .ok (.iload 4, 2) := by decide +kernel
theorem dX6_against_38 : decode cX6_against 38 = .ok (.ifCond .ge 5, 3) := by decide +kernel
theorem dX6_against_41 : decode cX6_against 41 = .ok (.iconst 4, 1) := by decide +kernel
theorem dX6_against_42 : decode cX6_against 42 = .ok (.ireturn, 1) := by decide +kernel
theorem dX6_against_43 : decode cX6_against 43 = .ok (.iload_n 3, 1) := by decide +kernel
theorem dX6_against_44 : decode cX6_against 44 = .ok (.ifCond .lt 26, 3) := by decide +kernel
theorem dX6_against_47 : decode cX6_against 47 = .ok (.iload_n 3, 1) := by decide +kernel
theorem dX6_against_48 : decode cX6_against 48 = .ok (.aload_n 0, 1) := by decide +kernel
theorem dX6_against_49 : decode cX6_against 49 = .ok (.getfield 13, 3) := by decide +kernel
end
section
theorem dX6_against_52 : decode cX6_against 52 = .ok (.iload_n 1, 1) := by decide +kernel
theorem dX6_against_53 : decode cX6_against 53 = .ok (.iaload, 1) := by decide +kernel
theorem dX6_against_54 : decode cX6_against 54 = .ok (.if_icmp .gt 16, 3) := by decide +kernel
theorem dX6_against_57 : decode cX6_against 57 = .ok (.iload 4, 2) := by decide +kernel
theorem dX6_against_59 : decode cX6_against 59 = .ok (.aload_n 0, 1) := by decide +kernel
theorem dX6_against_60 : decode cX6_against 60 = .ok (.getfield 13, 3) := by decide +kernel
theorem dX6_against_63 : decode cX6_against 63 = .ok (.iload_n 1, 1) := by decide +kernel
theorem dX6_against_64 : decode cX6_against 64 = .ok (.iaload, 1) := by decide +kernel
theorem dX6_against_65 : decode cX6_against 65 = .ok (.iload_n 3, 1) := by decide +kernel
theorem dX6_against_66 : decode cX6_against 66 = .ok (.isub, 1) := by decide +kernel
theorem dX6_against_67 : decode cX6_against 67 = .ok (.if_icmp .le 7, 3) := by decide +kernel
theorem dX6_against_70 : decode cX6_against 70 = .ok (.iconst 3, 1) := by decide +kernel
theorem dX6_against_71 : decode cX6_against 71 = .ok (.goto 4, 3) := by decide +kernel
theorem dX6_against_74 : decode cX6_against 74 = .ok (.iconst 0, 1) := by decide +kernel
theorem dX6_against_75 : decode cX6_against 75 = .ok (.ireturn, 1) := by decide +kernel
theorem dX6_isCourt_0 : decode cX6_isCourt 0 = .ok (.iload_n 1, 1) := by decide +kernel
theorem dX6_isCourt_1 : decode cX6_isCourt 1 = .ok (.ifCond .lt 15, 3) := by decide +kernel
theorem dX6_isCourt_4 : decode cX6_isCourt 4 = .ok (.iload_n 1, 1) := by decide +kernel
theorem dX6_isCourt_5 : decode cX6_isCourt 5 = .ok (.aload_n 0, 1) := by decide +kernel
theorem dX6_isCourt_6 : decode cX6_isCourt 6 = .ok (.getfield 72, 3) := by decide +kernel
theorem dX6_isCourt_9 : decode cX6_isCourt 9 = .ok (.if_icmp .ge 7, 3) := by decide +kernel
theorem dX6_isCourt_12 : decode cX6_isCourt 12 = .ok (.iconst 1, 1) := by decide +kernel
theorem dX6_isCourt_13 : decode cX6_isCourt 13 = .ok (.goto 4, 3) := by decide +kernel
theorem dX6_isCourt_16 : decode cX6_isCourt 16 = .ok (.iconst 0, 1) := by decide +kernel
theorem dX6_isCourt_17 : decode cX6_isCourt 17 = .ok (.ireturn, 1) := by decide +kernel
theorem dX6_isYear_0 : decode cX6_isYear 0 = .ok (.iload_n 1, 1) := by decide +kernel
theorem dX6_isYear_1 : decode cX6_isYear 1 = .ok (.ifCond .lt 15, 3) := by decide +kernel
theorem dX6_isYear_4 : decode cX6_isYear 4 = .ok (.iload_n 1, 1) := by decide +kernel
theorem dX6_isYear_5 : decode cX6_isYear 5 = .ok (.aload_n 0, 1) := by decide +kernel
theorem dX6_isYear_6 : decode cX6_isYear 6 = .ok (.getfield 75, 3) := by decide +kernel
theorem dX6_isYear_9 : decode cX6_isYear 9 = .ok (.if_icmp .ge 7, 3) := by decide +kernel
theorem dX6_isYear_12 : decode cX6_isYear 12 = .ok (.iconst 1, 1) := by decide +kernel
theorem dX6_isYear_13 : decode cX6_isYear 13 = .ok (.goto 4, 3) := by decide +kernel
theorem dX6_isYear_16 : decode cX6_isYear 16 = .ok (.iconst 0, 1) := by decide +kernel
theorem dX6_isYear_17 : decode cX6_isYear 17 = .ok (.ireturn, 1) := by decide +kernel
theorem dX6_isSon_0 : decode cX6_isSon 0 = .ok (.iload_n 1, 1) := by decide +kernel
theorem dX6_isSon_1 : decode cX6_isSon 1 = .ok (.ifCond .lt 15, 3) := by decide +kernel
theorem dX6_isSon_4 : decode cX6_isSon 4 = .ok (.iload_n 1, 1) := by decide +kernel
theorem dX6_isSon_5 : decode cX6_isSon 5 = .ok (.aload_n 0, 1) := by decide +kernel
theorem dX6_isSon_6 : decode cX6_isSon 6 = .ok (.getfield 78, 3) := by decide +kernel
theorem dX6_isSon_9 : decode cX6_isSon 9 = .ok (.if_icmp .ge 7, 3) := by decide +kernel
theorem dX6_isSon_12 : decode cX6_isSon 12 = .ok (.iconst 1, 1) := by decide +kernel
theorem dX6_isSon_13 : decode cX6_isSon 13 = .ok (.goto 4, 3) := by decide +kernel
theorem dX6_isSon_16 : decode cX6_isSon 16 = .ok (.iconst 0, 1) := by decide +kernel
theorem dX6_isSon_17 : decode cX6_isSon 17 = .ok (.ireturn, 1) := by decide +kernel
set_option maxRecDepth 20000 in
theorem ggX6_digit_X6_within : GoodIn wsX6_digit wsX6_within := goodIn_r _ [6] (by decide +kernel) (by decide +kernel)
set_option maxRecDepth 20000 in
theorem gX6_digit_X6_within : GoodIn wsX6_digit (va_wsS RX6 68 yX6_within wsX6_within) := goodIn_app (goodIn_of _ (by decide +kernel)) ggX6_digit_X6_within
theorem dX6_digit_0 : decode cX6_digit 0 = .ok (.aload_n 0, 1) := by decide +kernel
theorem dX6_digit_1 : decode cX6_digit 1 = .ok (.getfield 81, 3) := by decide +kernel
theorem dX6_digit_4 : decode cX6_digit 4 = .ok (.iload_n 1, 1) := by decide +kernel
theorem dX6_digit_5 : decode cX6_digit 5 = .ok (.if_icmp .ge 26, 3) := by decide +kernel
theorem dX6_digit_8 : decode cX6_digit 8 = .ok (.aload_n 0, 1) := by decide +kernel
theorem dX6_digit_9 : decode cX6_digit 9 = .ok (.getfield 16, 3) := by decide +kernel
theorem dX6_digit_12 : decode cX6_digit 12 = .ok (.aload_n 0, 1) := by decide +kernel
theorem dX6_digit_13 : decode cX6_digit 13 = .ok (.getfield 81, 3) := by decide +kernel
theorem dX6_digit_16 : decode cX6_digit 16 = .ok (.iaload, 1) := by decide +kernel
theorem dX6_digit_17 : decode cX6_digit 17 = .ok (.bipush 48, 2) := by decide +kernel
theorem dX6_digit_19 : decode cX6_digit 19 = .ok (.iload_n 2, 1) := by decide +kernel
theorem dX6_digit_20 : decode cX6_digit 20 = .ok (.iadd, 1) := by decide +kernel
theorem dX6_digit_21 : decode cX6_digit 21 = .ok (.bipush 48, 2) := by decide +kernel
theorem dX6_digit_23 : decode cX6_digit 23 = .ok (.iload_n 3, 1) := by decide +kernel
theorem dX6_digit_24 : decode cX6_digit 24 = .ok (.iadd, 1) := by decide +kernel
theorem dX6_digit_25 : decode cX6_digit 25 = .ok (.invokestatic 68, 3) := by decide +kernel
theorem dX6_digit_28 : decode cX6_digit 28 = .ok (.ifCond .ne 6, 3) := by decide +kernel
theorem dX6_digit_31 : decode cX6_digit 31 = .ok (.bipush (-9), 2) := by decide +kernel
theorem dX6_digit_33 : decode cX6_digit 33 = .ok (.ireturn, 1) := by decide +kernel
theorem dX6_digit_34 : decode cX6_digit 34 = .ok (.aload_n 0, 1) := by decide +kernel
theorem dX6_digit_35 : decode cX6_digit 35 = .ok (.dup, 1) := by decide +kernel
theorem dX6_digit_36 : decode cX6_digit 36 = .ok (.getfield 81, 3) := by decide +kernel
theorem dX6_digit_39 : decode cX6_digit 39 = .ok (.iconst 1, 1) := by decide +kernel
theorem dX6_digit_40 : decode cX6_digit 40 = .ok (.iadd, 1) := by decide +kernel
theorem dX6_digit_41 : decode cX6_digit 41 = .ok (.putfield 81, 3) := by decide +kernel
theorem dX6_digit_44 : decode cX6_digit 44 = .ok (.aload_n 0, 1) := by decide +kernel
theorem dX6_digit_45 : decode cX6_digit 45 = .ok (.getfield 16, 3) := by decide +kernel
theorem dX6_digit_48 : decode cX6_digit 48 = .ok (.aload_n 0, 1) := by decide +kernel
theorem dX6_digit_49 : decode cX6_digit 49 = .ok (.getfield 81, 3) := by decide +kernel
theorem dX6_digit_52 : decode cX6_digit 52 = .ok (.iconst 1, 1) := by decide +kernel
theorem dX6_digit_53 : decode cX6_digit 53 = .ok (.isub, 1) := by decide +kernel
theorem dX6_digit_54 : decode cX6_digit 54 = .ok (.iaload, 1) := by decide +kernel
theorem dX6_digit_55 : decode cX6_digit 55 = .ok (.bipush 48, 2) := by decide +kernel
theorem dX6_digit_57 : decode cX6_digit 57 = .ok (.isub, 1) := by decide +kernel
theorem dX6_digit_58 : decode cX6_digit 58 = .ok (.ireturn, 1) := by decide +kernel
theorem dX6_isSign_0 : decode cX6_isSign 0 = .ok (.aload_n 0, 1) := by decide +kernel
theorem dX6_isSign_1 : decode cX6_isSign 1 = .ok (.getfield 81, 3) := by decide +kernel
theorem dX6_isSign_4 : decode cX6_isSign 4 = .ok (.iload_n 1, 1) := by decide +kernel
theorem dX6_isSign_5 : decode cX6_isSign 5 = .ok (.if_icmp .ge 16, 3) := by decide +kernel
theorem dX6_isSign_8 : decode cX6_isSign 8 = .ok (.aload_n 0, 1) := by decide +kernel
theorem dX6_isSign_9 : decode cX6_isSign 9 = .ok (.getfield 16, 3) := by decide +kernel
theorem dX6_isSign_12 : decode cX6_isSign 12 = .ok (.aload_n 0, 1) := by decide +kernel
theorem dX6_isSign_13 : decode cX6_isSign 13 = .ok (.getfield 81, 3) := by decide +kernel
theorem dX6_isSign_16 : decode cX6_isSign 16 = .ok (.iaload, 1) := by decide +kernel
theorem dX6_isSign_17 : decode cX6_isSign 17 = .ok (.iload_n 2, 1) := by decide +kernel
theorem dX6_isSign_18 : decode cX6_isSign 18 = .ok (.if_icmp .eq 5, 3) := by decide +kernel
theorem dX6_isSign_21 : decode cX6_isSign 21 = .ok (.iconst 0, 1) := by decide +kernel
theorem dX6_isSign_22 : decode cX6_isSign 22 = .ok (.ireturn, 1) := by decide +kernel
theorem dX6_isSign_23 : decode cX6_isSign 23 = .ok (.aload_n 0, 1) := by decide +kernel
theorem dX6_isSign_24 : decode cX6_isSign 24 = .ok (.dup, 1) := by decide +kernel
theorem dX6_isSign_25 : decode cX6_isSign 25 = .ok (.getfield 81, 3) := by decide +kernel
theorem dX6_isSign_28 : decode cX6_isSign 28 = .ok (.iconst 1, 1) := by decide +kernel
theorem dX6_isSign_29 : decode cX6_isSign 29 = .ok (.iadd, 1) := by decide +kernel
theorem dX6_isSign_30 : decode cX6_isSign 30 = .ok (.putfield 81, 3) := by decide +kernel
theorem dX6_isSign_33 : decode cX6_isSign 33 = .ok (.iconst 1, 1) := by decide +kernel
theorem dX6_isSign_34 : decode cX6_isSign 34 = .ok (.ireturn, 1) := by decide +kernel
set_option maxRecDepth 20000 in
theorem ggX6_treaty_X6_isSheet : GoodIn wsX6_treaty wsX6_isSheet := goodIn_r _ [7, 8, 9, 6, 10] (by decide +kernel) (by decide +kernel)
set_option maxRecDepth 20000 in
theorem gX6_treaty_X6_isSheet : GoodIn wsX6_treaty (va_wsS RX6 84 yX6_isSheet wsX6_isSheet) := goodIn_app (goodIn_of _ (by decide +kernel)) ggX6_treaty_X6_isSheet
set_option maxRecDepth 20000 in
theorem ggX6_treaty_X6_isSort : GoodIn wsX6_treaty wsX6_isSort := goodIn_r _ [13, 8, 9, 6, 10] (by decide +kernel) (by decide +kernel)
set_option maxRecDepth 20000 in
theorem gX6_treaty_X6_isSort : GoodIn wsX6_treaty (va_wsS RX6 88 yX6_isSort wsX6_isSort) := goodIn_app (goodIn_of _ (by decide +kernel)) ggX6_treaty_X6_isSort
set_option maxRecDepth 20000 in
theorem ggX6_treaty_X6_against : GoodIn wsX6_treaty wsX6_against := goodIn_r _ [17, 18, 19, 64, 65, 66, 67, 68, 69, 70, 71, 72, 73, 74, 75, 76, 77, 78, 79, 80, 81, 82, 83, 84, 85, 86, 87, 88, 89, 90] (by decide +kernel) (by decide +kernel)
set_option maxRecDepth 20000 in
theorem gX6_treaty_X6_against : GoodIn wsX6_treaty (wsV RX6 91 RX6 yX6_against wsX6_against) := goodIn_app (goodIn_of _ (by decide +kernel)) ggX6_treaty_X6_against
set_option maxRecDepth 20000 in
theorem ggX6_treaty_X6_fails : GoodIn wsX6_treaty wsX6_fails := goodIn_r _ [23, 1, 64, 65, 66, 67, 68, 69, 70, 71, 72, 73, 74, 75, 76, 77, 78, 79, 80, 81, 82, 83, 84, 85, 86, 87, 88, 89, 90] (by decide +kernel) (by decide +kernel)
set_option maxRecDepth 20000 in
theorem gX6_treaty_X6_fails : GoodIn wsX6_treaty (wsV RX6 95 RX6 yX6_fails wsX6_fails) := goodIn_app (goodIn_of _ (by decide +kernel)) ggX6_treaty_X6_fails
set_option maxRecDepth 20000 in
theorem ggX6_treaty_X6_readTreaty : GoodIn wsX6_treaty wsX6_readTreaty := goodIn_r _ [27, 28, 29, 30, 2, 31, 32, 33, 6, 34, 35, 36, 37, 38, 39, 8, 9, 10, 40, 41, 42, 43, 44, 45, 46, 47, 48, 49, 64, 65, 66, 67, 68, 69, 70, 71, 72, 73, 74, 75, 76, 77, 78, 79, 80, 81, 82, 83, 84, 85, 86, 87, 88, 89, 90] (by decide +kernel) (by decide +kernel)
set_option maxRecDepth 20000 in
theorem gX6_treaty_X6_readTreaty : GoodIn wsX6_treaty (wsV RX6 99 RX6 yX6_readTreaty wsX6_readTreaty) := goodIn_app (goodIn_of _ (by decide +kernel)) ggX6_treaty_X6_readTreaty
set_option maxRecDepth 20000 in
theorem ggX6_treaty_X6_takeTreaty : GoodIn wsX6_treaty wsX6_takeTreaty := goodIn_r _ [53, 29, 54, 30, 55, 56, 44, 28, 3, 57, 49, 58, 59, 60, 61, 62, 63, 64, 65, 66, 67, 68, 69, 70, 71, 72, 73, 74, 75, 76, 77, 78, 79, 80, 81, 82, 83, 84, 85, 86, 87, 88, 89, 90] (by decide +kernel) (by decide +kernel)
set_option maxRecDepth 20000 in
theorem gX6_treaty_X6_takeTreaty : GoodIn wsX6_treaty (wsV RX6 102 RX6 yX6_takeTreaty wsX6_takeTreaty) := goodIn_app (goodIn_of _ (by decide +kernel)) ggX6_treaty_X6_takeTreaty
theorem dX6_treaty_0 : decode cX6_treaty 0 = .ok (.aload_n 0, 1) := by decide +kernel
theorem dX6_treaty_1 : decode cX6_treaty 1 = .ok (.iconst 0, 1) := by decide +kernel
theorem dX6_treaty_2 : decode cX6_treaty 2 = .ok (.putfield 62, 3) := by decide +kernel
theorem dX6_treaty_5 : decode cX6_treaty 5 = .ok (.iload_n 1, 1) := by decide +kernel
theorem dX6_treaty_6 : decode cX6_treaty 6 = .ok (.invokestatic 84, 3) := by decide +kernel
theorem dX6_treaty_9 : decode cX6_treaty 9 = .ok (.ifCond .ne 5, 3) := by decide +kernel
theorem dX6_treaty_12 : decode cX6_treaty 12 = .ok (.iconst (-1), 1) := by decide +kernel
theorem dX6_treaty_13 : decode cX6_treaty 13 = .ok (.ireturn, 1) := by decide +kernel
theorem dX6_treaty_14 : decode cX6_treaty 14 = .ok (.iload_n 2, 1) := by decide +kernel
theorem dX6_treaty_15 : decode cX6_treaty 15 = .ok (.invokestatic 88, 3) := by decide +kernel
theorem dX6_treaty_18 : decode cX6_treaty 18 = .ok (.ifCond .ne 6, 3) := by decide +kernel
theorem dX6_treaty_21 : decode cX6_treaty 21 = .ok (.bipush (-2), 2) := by decide +kernel
theorem dX6_treaty_23 : decode cX6_treaty 23 = .ok (.ireturn, 1) := by decide +kernel
theorem dX6_treaty_24 : decode cX6_treaty 24 = .ok (.aload_n 0, 1) := by decide +kernel
theorem dX6_treaty_25 : decode cX6_treaty 25 = .ok (.iload_n 1, 1) := by decide +kernel
theorem dX6_treaty_26 : decode cX6_treaty 26 = .ok (.iload_n 2, 1) := by decide +kernel
theorem dX6_treaty_27 : decode cX6_treaty 27 = .ok (.iload_n 3, 1) := by decide +kernel
theorem dX6_treaty_28 : decode cX6_treaty 28 = .ok (.iload 4, 2) := by decide +kernel
theorem dX6_treaty_30 : decode cX6_treaty 30 = .ok (.invokevirtual 91, 3) := by decide +kernel
theorem dX6_treaty_33 : decode cX6_treaty 33 = .ok (.istore 5, 2) := by decide +kernel
theorem dX6_treaty_35 : decode cX6_treaty 35 = .ok (.iload 5, 2) := by decide +kernel
theorem dX6_treaty_37 : decode cX6_treaty 37 = .ok (.ifCond .eq 10, 3) := by decide +kernel
theorem dX6_treaty_40 : decode cX6_treaty 40 = .ok (.aload_n 0, 1) := by decide +kernel
theorem dX6_treaty_41 : decode cX6_treaty 41 = .ok (.iload 5, 2) := by decide +kernel
theorem dX6_treaty_43 : decode cX6_treaty 43 = .ok (.invokevirtual 95, 3) := by decide +kernel
theorem dX6_treaty_46 : decode cX6_treaty 46 = .ok (.ireturn, 1) := by decide +kernel
theorem dX6_treaty_47 : decode cX6_treaty 47 = .ok (.bipush 60, 2) := by decide +kernel
theorem dX6_treaty_49 : decode cX6_treaty 49 = .ok (.iload_n 1, 1) := by decide +kernel
theorem dX6_treaty_50 : decode cX6_treaty 50 = .ok (.imul, 1) := by decide +kernel
theorem dX6_treaty_51 : decode cX6_treaty 51 = .ok (.iload_n 3, 1) := by decide +kernel
theorem dX6_treaty_52 : decode cX6_treaty 52 = .ok (.iadd, 1) := by decide +kernel
theorem dX6_treaty_53 : decode cX6_treaty 53 = .ok (.istore 6, 2) := by decide +kernel
theorem dX6_treaty_55 : decode cX6_treaty 55 = .ok (.aload_n 0, 1) := by decide +kernel
theorem dX6_treaty_56 : decode cX6_treaty 56 = .ok (.iload 6, 2) := by decide +kernel
theorem dX6_treaty_58 : decode cX6_treaty 58 = .ok (.putfield 81, 3) := by decide +kernel
theorem dX6_treaty_61 : decode cX6_treaty 61 = .ok (.aload_n 0, 1) := by decide +kernel
theorem dX6_treaty_62 : decode cX6_treaty 62 = .ok (.iload 6, 2) := by decide +kernel
theorem dX6_treaty_64 : decode cX6_treaty 64 = .ok (.iload 4, 2) := by decide +kernel
theorem dX6_treaty_66 : decode cX6_treaty 66 = .ok (.iadd, 1) := by decide +kernel
theorem dX6_treaty_67 : decode cX6_treaty 67 = .ok (.invokevirtual 99, 3) := by decide +kernel
theorem dX6_treaty_70 : decode cX6_treaty 70 = .ok (.ifCond .ne 14, 3) := by decide +kernel
theorem dX6_treaty_73 : decode cX6_treaty 73 = .ok (.bipush (-100), 2) := by decide +kernel
theorem dX6_treaty_75 : decode cX6_treaty 75 = .ok (.aload_n 0, 1) := by decide +kernel
theorem dX6_treaty_76 : decode cX6_treaty 76 = .ok (.getfield 81, 3) := by decide +kernel
theorem dX6_treaty_79 : decode cX6_treaty 79 = .ok (.iload 6, 2) := by decide +kernel
theorem dX6_treaty_81 : decode cX6_treaty 81 = .ok (.isub, 1) := by decide +kernel
theorem dX6_treaty_82 : decode cX6_treaty 82 = .ok (.isub, 1) := by decide +kernel
theorem dX6_treaty_83 : decode cX6_treaty 83 = .ok (.ireturn, 1) := by decide +kernel
theorem dX6_treaty_84 : decode cX6_treaty 84 = .ok (.aload_n 0, 1) := by decide +kernel
theorem dX6_treaty_85 : decode cX6_treaty 85 = .ok (.invokevirtual 102, 3) := by decide +kernel
theorem dX6_treaty_88 : decode cX6_treaty 88 = .ok (.aload_n 0, 1) := by decide +kernel
theorem dX6_treaty_89 : decode cX6_treaty 89 = .ok (.getfield 78, 3) := by decide +kernel
theorem dX6_treaty_92 : decode cX6_treaty 92 = .ok (.ireturn, 1) := by decide +kernel
theorem dX6_takeTreaty_0 : decode cX6_takeTreaty 0 = .ok (.aload_n 0, 1) := by decide +kernel
theorem dX6_takeTreaty_1 : decode cX6_takeTreaty 1 = .ok (.aload_n 0, 1) := by decide +kernel
theorem dX6_takeTreaty_2 : decode cX6_takeTreaty 2 = .ok (.getfield 105, 3) := by decide +kernel
theorem dX6_takeTreaty_5 : decode cX6_takeTreaty 5 = .ok (.putfield 72, 3) := by decide +kernel
theorem dX6_takeTreaty_8 : decode cX6_takeTreaty 8 = .ok (.aload_n 0, 1) := by decide +kernel
theorem dX6_takeTreaty_9 : decode cX6_takeTreaty 9 = .ok (.aload_n 0, 1) := by decide +kernel
theorem dX6_takeTreaty_10 : decode cX6_takeTreaty 10 = .ok (.getfield 108, 3) := by decide +kernel
theorem dX6_takeTreaty_13 : decode cX6_takeTreaty 13 = .ok (.putfield 75, 3) := by decide +kernel
theorem dX6_takeTreaty_16 : decode cX6_takeTreaty 16 = .ok (.iconst 0, 1) := by decide +kernel
theorem dX6_takeTreaty_17 : decode cX6_takeTreaty 17 = .ok (.istore_n 1, 1) := by decide +kernel
theorem dX6_takeTreaty_18 : decode cX6_takeTreaty 18 = .ok (.iload_n 1, 1) := by decide +kernel
theorem dX6_takeTreaty_19 : decode cX6_takeTreaty 19 = .ok (.bipush 24, 2) := by decide +kernel
theorem dX6_takeTreaty_21 : decode cX6_takeTreaty 21 = .ok (.if_icmp .ge 21, 3) := by decide +kernel
theorem dX6_takeTreaty_24 : decode cX6_takeTreaty 24 = .ok (.aload_n 0, 1) := by decide +kernel
theorem dX6_takeTreaty_25 : decode cX6_takeTreaty 25 = .ok (.getfield 19, 3) := by decide +kernel
theorem dX6_takeTreaty_28 : decode cX6_takeTreaty 28 = .ok (.iload_n 1, 1) := by decide +kernel
theorem dX6_takeTreaty_29 : decode cX6_takeTreaty 29 = .ok (.aload_n 0, 1) := by decide +kernel
theorem dX6_takeTreaty_30 : decode cX6_takeTreaty 30 = .ok (.getfield 40, 3) := by decide +kernel
theorem dX6_takeTreaty_33 : decode cX6_takeTreaty 33 = .ok (.iload_n 1, 1) := by decide +kernel
theorem dX6_takeTreaty_34 : decode cX6_takeTreaty 34 = .ok (.iaload, 1) := by decide +kernel
theorem dX6_takeTreaty_35 : decode cX6_takeTreaty 35 = .ok (.iastore, 1) := by decide +kernel
theorem dX6_takeTreaty_36 : decode cX6_takeTreaty 36 = .ok (.iinc 1 1, 3) := by decide +kernel
theorem dX6_takeTreaty_39 : decode cX6_takeTreaty 39 = .ok (.goto (-21), 3) := by decide +kernel
theorem dX6_takeTreaty_42 : decode cX6_takeTreaty 42 = .ok (.aload_n 0, 1) := by decide +kernel
theorem dX6_takeTreaty_43 : decode cX6_takeTreaty 43 = .ok (.aload_n 0, 1) := by decide +kernel
theorem dX6_takeTreaty_44 : decode cX6_takeTreaty 44 = .ok (.getfield 111, 3) := by decide +kernel
theorem dX6_takeTreaty_47 : decode cX6_takeTreaty 47 = .ok (.putfield 78, 3) := by decide +kernel
theorem dX6_takeTreaty_50 : decode cX6_takeTreaty 50 = .ok (.iconst 0, 1) := by decide +kernel
theorem dX6_takeTreaty_51 : decode cX6_takeTreaty 51 = .ok (.istore_n 1, 1) := by decide +kernel
theorem dX6_takeTreaty_52 : decode cX6_takeTreaty 52 = .ok (.iload_n 1, 1) := by decide +kernel
theorem dX6_takeTreaty_53 : decode cX6_takeTreaty 53 = .ok (.aload_n 0, 1) := by decide +kernel
theorem dX6_takeTreaty_54 : decode cX6_takeTreaty 54 = .ok (.getfield 78, 3) := by decide +kernel
theorem dX6_takeTreaty_57 : decode cX6_takeTreaty 57 = .ok (.if_icmp .ge 87, 3) := by decide +kernel
theorem dX6_takeTreaty_60 : decode cX6_takeTreaty 60 = .ok (.aload_n 0, 1) := by decide +kernel
theorem dX6_takeTreaty_61 : decode cX6_takeTreaty 61 = .ok (.getfield 22, 3) := by decide +kernel
theorem dX6_takeTreaty_64 : decode cX6_takeTreaty 64 = .ok (.iload_n 1, 1) := by decide +kernel
theorem dX6_takeTreaty_65 : decode cX6_takeTreaty 65 = .ok (.aload_n 0, 1) := by decide +kernel
theorem dX6_takeTreaty_66 : decode cX6_takeTreaty 66 = .ok (.getfield 43, 3) := by decide +kernel
theorem dX6_takeTreaty_69 : decode cX6_takeTreaty 69 = .ok (.iconst 4, 1) := by decide +kernel
theorem dX6_takeTreaty_70 : decode cX6_takeTreaty 70 = .ok (.iload_n 1, 1) := by decide +kernel
theorem dX6_takeTreaty_71 : decode cX6_takeTreaty 71 = .ok (.imul, 1) := by decide +kernel
theorem dX6_takeTreaty_72 : decode cX6_takeTreaty 72 = .ok (.iaload, 1) := by decide +kernel
theorem dX6_takeTreaty_73 : decode cX6_takeTreaty 73 = .ok (.iastore, 1) := by decide +kernel
theorem dX6_takeTreaty_74 : decode cX6_takeTreaty 74 = .ok (.aload_n 0, 1) := by decide +kernel
theorem dX6_takeTreaty_75 : decode cX6_takeTreaty 75 = .ok (.getfield 25, 3) := by decide +kernel
theorem dX6_takeTreaty_78 : decode cX6_takeTreaty 78 = .ok (.iload_n 1, 1) := by decide +kernel
theorem dX6_takeTreaty_79 : decode cX6_takeTreaty 79 = .ok (.aload_n 0, 1) := by decide +kernel
theorem dX6_takeTreaty_80 : decode cX6_takeTreaty 80 = .ok (.getfield 43, 3) := by decide +kernel
theorem dX6_takeTreaty_83 : decode cX6_takeTreaty 83 = .ok (.iconst 4, 1) := by decide +kernel
theorem dX6_takeTreaty_84 : decode cX6_takeTreaty 84 = .ok (.iload_n 1, 1) := by decide +kernel
theorem dX6_takeTreaty_85 : decode cX6_takeTreaty 85 = .ok (.imul, 1) := by decide +kernel
theorem dX6_takeTreaty_86 : decode cX6_takeTreaty 86 = .ok (.iconst 1, 1) := by decide +kernel
theorem dX6_takeTreaty_87 : decode cX6_takeTreaty 87 = .ok (.iadd, 1) := by decide +kernel
theorem dX6_takeTreaty_88 : decode cX6_takeTreaty 88 = .ok (.iaload, 1) := by decide +kernel
theorem dX6_takeTreaty_89 : decode cX6_takeTreaty 89 = .ok (.iastore, 1) := by decide +kernel
theorem dX6_takeTreaty_90 : decode cX6_takeTreaty 90 = .ok (.aload_n 0, 1) := by decide +kernel
theorem dX6_takeTreaty_91 : decode cX6_takeTreaty 91 = .ok (.getfield 28, 3) := by decide +kernel
theorem dX6_takeTreaty_94 : decode cX6_takeTreaty 94 = .ok (.iload_n 1, 1) := by decide +kernel
theorem dX6_takeTreaty_95 : decode cX6_takeTreaty 95 = .ok (.aload_n 0, 1) := by decide +kernel
theorem dX6_takeTreaty_96 : decode cX6_takeTreaty 96 = .ok (.getfield 43, 3) := by decide +kernel
theorem dX6_takeTreaty_99 : decode cX6_takeTreaty 99 = .ok (.iconst 4, 1) := by decide +kernel
theorem dX6_takeTreaty_100 : decode cX6_takeTreaty 100 = .ok (.iload_n 1, 1) := by decide +kernel
theorem dX6_takeTreaty_101 : decode cX6_takeTreaty 101 = .ok (.imul, 1) := by decide +kernel
theorem dX6_takeTreaty_102 : decode cX6_takeTreaty 102 = .ok (.iconst 2, 1) := by decide +kernel
theorem dX6_takeTreaty_103 : decode cX6_takeTreaty 103 = .ok (.iadd, 1) := by decide +kernel
theorem dX6_takeTreaty_104 : decode cX6_takeTreaty 104 = .ok (.iaload, 1) := by decide +kernel
theorem dX6_takeTreaty_105 : decode cX6_takeTreaty 105 = .ok (.iastore, 1) := by decide +kernel
theorem dX6_takeTreaty_106 : decode cX6_takeTreaty 106 = .ok (.aload_n 0, 1) := by decide +kernel
theorem dX6_takeTreaty_107 : decode cX6_takeTreaty 107 = .ok (.getfield 31, 3) := by decide +kernel
theorem dX6_takeTreaty_110 : decode cX6_takeTreaty 110 = .ok (.iload_n 1, 1) := by decide +kernel
theorem dX6_takeTreaty_111 : decode cX6_takeTreaty 111 = .ok (.aload_n 0, 1) := by decide +kernel
theorem dX6_takeTreaty_112 : decode cX6_takeTreaty 112 = .ok (.getfield 43, 3) := by decide +kernel
theorem dX6_takeTreaty_115 : decode cX6_takeTreaty 115 = .ok (.iconst 4, 1) := by decide +kernel
theorem dX6_takeTreaty_116 : decode cX6_takeTreaty 116 = .ok (.iload_n 1, 1) := by decide +kernel
theorem dX6_takeTreaty_117 : decode cX6_takeTreaty 117 = .ok (.imul, 1) := by decide +kernel
theorem dX6_takeTreaty_118 : decode cX6_takeTreaty 118 = .ok (.iconst 3, 1) := by decide +kernel
theorem dX6_takeTreaty_119 : decode cX6_takeTreaty 119 = .ok (.iadd, 1) := by decide +kernel
theorem dX6_takeTreaty_120 : decode cX6_takeTreaty 120 = .ok (.iaload, 1) := by decide +kernel
theorem dX6_takeTreaty_121 : decode cX6_takeTreaty 121 = .ok (.iastore, 1) := by decide +kernel
theorem dX6_takeTreaty_122 : decode cX6_takeTreaty 122 = .ok (.aload_n 0, 1) := by decide +kernel
theorem dX6_takeTreaty_123 : decode cX6_takeTreaty 123 = .ok (.getfield 34, 3) := by decide +kernel
theorem dX6_takeTreaty_126 : decode cX6_takeTreaty 126 = .ok (.iload_n 1, 1) := by decide +kernel
theorem dX6_takeTreaty_127 : decode cX6_takeTreaty 127 = .ok (.bipush (-9), 2) := by decide +kernel
theorem dX6_takeTreaty_129 : decode cX6_takeTreaty 129 = .ok (.iastore, 1) := by decide +kernel
theorem dX6_takeTreaty_130 : decode cX6_takeTreaty 130 = .ok (.aload_n 0, 1) := by decide +kernel
theorem dX6_takeTreaty_131 : decode cX6_takeTreaty 131 = .ok (.getfield 37, 3) := by decide +kernel
theorem dX6_takeTreaty_134 : decode cX6_takeTreaty 134 = .ok (.iload_n 1, 1) := by decide +kernel
theorem dX6_takeTreaty_135 : decode cX6_takeTreaty 135 = .ok (.bipush (-9), 2) := by decide +kernel
theorem dX6_takeTreaty_137 : decode cX6_takeTreaty 137 = .ok (.iastore, 1) := by decide +kernel
theorem dX6_takeTreaty_138 : decode cX6_takeTreaty 138 = .ok (.iinc 1 1, 3) := by decide +kernel
theorem dX6_takeTreaty_141 : decode cX6_takeTreaty 141 = .ok (.goto (-89), 3) := by decide +kernel
theorem dX6_takeTreaty_144 : decode cX6_takeTreaty 144 = .ok (.aload_n 0, 1) := by decide +kernel
theorem dX6_takeTreaty_145 : decode cX6_takeTreaty 145 = .ok (.iconst 0, 1) := by decide +kernel
theorem dX6_takeTreaty_146 : decode cX6_takeTreaty 146 = .ok (.putfield 114, 3) := by decide +kernel
theorem dX6_takeTreaty_149 : decode cX6_takeTreaty 149 = .ok (.return_, 1) := by decide +kernel
set_option maxRecDepth 20000 in
theorem ggX6_readTreaty_X6_isSign : GoodIn wsX6_readTreaty wsX6_isSign := goodIn_r _ [9, 4, 10, 28, 29, 30, 31, 32, 33, 34, 35, 36, 37, 38, 39, 40, 41, 42, 43, 44, 45, 46, 47, 48, 49, 50, 51, 52, 53, 54] (by decide +kernel) (by decide +kernel)
set_option maxRecDepth 20000 in
theorem gX6_readTreaty_X6_isSign : GoodIn wsX6_readTreaty (wsV RX6 117 RX6 yX6_isSign wsX6_isSign) := goodIn_app (goodIn_of _ (by decide +kernel)) ggX6_readTreaty_X6_isSign
set_option maxRecDepth 20000 in
theorem ggX6_readTreaty_X6_digit : GoodIn wsX6_readTreaty wsX6_digit := goodIn_r _ [14, 4, 10, 15, 16, 8, 17, 28, 29, 30, 31, 32, 33, 34, 35, 36, 37, 38, 39, 40, 41, 42, 43, 44, 45, 46, 47, 48, 49, 50, 51, 52, 53, 54] (by decide +kernel) (by decide +kernel)
set_option maxRecDepth 20000 in
theorem gX6_readTreaty_X6_digit : GoodIn wsX6_readTreaty (wsV RX6 121 RX6 yX6_digit wsX6_digit) := goodIn_app (goodIn_of _ (by decide +kernel)) ggX6_readTreaty_X6_digit
set_option maxRecDepth 20000 in
theorem ggX6_readTreaty_X6_readCourt : GoodIn wsX6_readTreaty wsX6_readCourt := goodIn_r _ [21, 3, 22, 11, 12, 13, 8, 14, 4, 10, 15, 16, 17, 28, 29, 30, 31, 32, 33, 34, 35, 36, 37, 38, 39, 40, 41, 42, 43, 44, 45, 46, 47, 48, 49, 50, 51, 52, 53, 54] (by decide +kernel) (by decide +kernel)
set_option maxRecDepth 20000 in
theorem gX6_readTreaty_X6_readCourt : GoodIn wsX6_readTreaty (wsV RX6 125 RX6 yX6_readCourt wsX6_readCourt) := goodIn_app (goodIn_of _ (by decide +kernel)) ggX6_readTreaty_X6_readCourt
set_option maxRecDepth 20000 in
theorem ggX6_readTreaty_X6_readSon : GoodIn wsX6_readTreaty wsX6_readSon := goodIn_r _ [26, 1, 4, 10, 27, 2, 11, 12, 13, 8, 14, 15, 16, 17, 28, 29, 30, 31, 32, 33, 34, 35, 36, 37, 38, 39, 40, 41, 42, 43, 44, 45, 46, 47, 48, 49, 50, 51, 52, 53, 54] (by decide +kernel) (by decide +kernel)
set_option maxRecDepth 20000 in
theorem gX6_readTreaty_X6_readSon : GoodIn wsX6_readTreaty (wsV RX6 128 RX6 yX6_readSon wsX6_readSon) := goodIn_app (goodIn_of _ (by decide +kernel)) ggX6_readTreaty_X6_readSon
theorem dX6_readTreaty_0 : decode cX6_readTreaty 0 = .ok (.aload_n 0, 1) := by decide +kernel
theorem dX6_readTreaty_1 : decode cX6_readTreaty 1 = .ok (.iconst 0, 1) := by decide +kernel
theorem dX6_readTreaty_2 : decode cX6_readTreaty 2 = .ok (.putfield 111, 3) := by decide +kernel
theorem dX6_readTreaty_5 : decode cX6_readTreaty 5 = .ok (.aload_n 0, 1) := by decide +kernel
theorem dX6_readTreaty_6 : decode cX6_readTreaty 6 = .ok (.iload_n 1, 1) := by decide +kernel
theorem dX6_readTreaty_7 : decode cX6_readTreaty 7 = .ok (.bipush 120, 2) := by decide +kernel
theorem dX6_readTreaty_9 : decode cX6_readTreaty 9 = .ok (.invokevirtual 117, 3) := by decide +kernel
theorem dX6_readTreaty_12 : decode cX6_readTreaty 12 = .ok (.ifCond .ne 5, 3) := by decide +kernel
theorem dX6_readTreaty_15 : decode cX6_readTreaty 15 = .ok (.iconst 0, 1) := by decide +kernel
theorem dX6_readTreaty_16 : decode cX6_readTreaty 16 = .ok (.ireturn, 1) := by decide +kernel
theorem dX6_readTreaty_17 : decode cX6_readTreaty 17 = .ok (.aload_n 0, 1) := by decide +kernel
theorem dX6_readTreaty_18 : decode cX6_readTreaty 18 = .ok (.aload_n 0, 1) := by decide +kernel
theorem dX6_readTreaty_19 : decode cX6_readTreaty 19 = .ok (.iload_n 1, 1) := by decide +kernel
theorem dX6_readTreaty_20 : decode cX6_readTreaty 20 = .ok (.iconst 2, 1) := by decide +kernel
theorem dX6_readTreaty_21 : decode cX6_readTreaty 21 = .ok (.iconst 4, 1) := by decide +kernel
theorem dX6_readTreaty_22 : decode cX6_readTreaty 22 = .ok (.invokevirtual 121, 3) := by decide +kernel
theorem dX6_readTreaty_25 : decode cX6_readTreaty 25 = .ok (.putfield 105, 3) := by decide +kernel
theorem dX6_readTreaty_28 : decode cX6_readTreaty 28 = .ok (.aload_n 0, 1) := by decide +kernel
theorem dX6_readTreaty_29 : decode cX6_readTreaty 29 = .ok (.getfield 105, 3) := by decide +kernel
theorem dX6_readTreaty_32 : decode cX6_readTreaty 32 = .ok (.bipush (-9), 2) := by decide +kernel
theorem dX6_readTreaty_34 : decode cX6_readTreaty 34 = .ok (.if_icmp .ne 5, 3) := by decide +kernel
theorem dX6_readTreaty_37 : decode cX6_readTreaty 37 = .ok (.iconst 0, 1) := by decide +kernel
theorem dX6_readTreaty_38 : decode cX6_readTreaty 38 = .ok (.ireturn, 1) := by decide +kernel
theorem dX6_readTreaty_39 : decode cX6_readTreaty 39 = .ok (.aload_n 0, 1) := by decide +kernel
theorem dX6_readTreaty_40 : decode cX6_readTreaty 40 = .ok (.aload_n 0, 1) := by decide +kernel
theorem dX6_readTreaty_41 : decode cX6_readTreaty 41 = .ok (.iload_n 1, 1) := by decide +kernel
theorem dX6_readTreaty_42 : decode cX6_readTreaty 42 = .ok (.iconst 1, 1) := by decide +kernel
theorem dX6_readTreaty_43 : decode cX6_readTreaty 43 = .ok (.bipush 6, 2) := by decide +kernel
theorem dX6_readTreaty_45 : decode cX6_readTreaty 45 = .ok (.invokevirtual 121, 3) := by decide +kernel
theorem dX6_readTreaty_48 : decode cX6_readTreaty 48 = .ok (.putfield 108, 3) := by decide +kernel
theorem dX6_readTreaty_51 : decode cX6_readTreaty 51 = .ok (.aload_n 0, 1) := by decide +kernel
theorem dX6_readTreaty_52 : decode cX6_readTreaty 52 = .ok (.getfield 108, 3) := by decide +kernel
theorem dX6_readTreaty_55 : decode cX6_readTreaty 55 = .ok (.bipush (-9), 2) := by decide +kernel
theorem dX6_readTreaty_57 : decode cX6_readTreaty 57 = .ok (.if_icmp .ne 5, 3) := by decide +kernel
theorem dX6_readTreaty_60 : decode cX6_readTreaty 60 = .ok (.iconst 0, 1) := by decide +kernel
theorem dX6_readTreaty_61 : decode cX6_readTreaty 61 = .ok (.ireturn, 1) := by decide +kernel
theorem dX6_readTreaty_62 : decode cX6_readTreaty 62 = .ok (.iconst 0, 1) := by decide +kernel
theorem dX6_readTreaty_63 : decode cX6_readTreaty 63 = .ok (.istore_n 2, 1) := by decide +kernel
theorem dX6_readTreaty_64 : decode cX6_readTreaty 64 = .ok (.iload_n 2, 1) := by decide +kernel
theorem dX6_readTreaty_65 : decode cX6_readTreaty 65 = .ok (.aload_n 0, 1) := by decide +kernel
theorem dX6_readTreaty_66 : decode cX6_readTreaty 66 = .ok (.getfield 105, 3) := by decide +kernel
theorem dX6_readTreaty_69 : decode cX6_readTreaty 69 = .ok (.if_icmp .ge 30, 3) := by decide +kernel
theorem dX6_readTreaty_72 : decode cX6_readTreaty 72 = .ok (.aload_n 0, 1) := by decide +kernel
theorem dX6_readTreaty_73 : decode cX6_readTreaty 73 = .ok (.iload_n 1, 1) := by decide +kernel
theorem dX6_readTreaty_74 : decode cX6_readTreaty 74 = .ok (.bipush 47, 2) := by decide +kernel
theorem dX6_readTreaty_76 : decode cX6_readTreaty 76 = .ok (.invokevirtual 117, 3) := by decide +kernel
theorem dX6_readTreaty_79 : decode cX6_readTreaty 79 = .ok (.ifCond .eq 12, 3) := by decide +kernel
theorem dX6_readTreaty_82 : decode cX6_readTreaty 82 = .ok (.aload_n 0, 1) := by decide +kernel
theorem dX6_readTreaty_83 : decode cX6_readTreaty 83 = .ok (.iload_n 1, 1) := by decide +kernel
theorem dX6_readTreaty_84 : decode cX6_readTreaty 84 = .ok (.iload_n 2, 1) := by decide +kernel
theorem dX6_readTreaty_85 : decode cX6_readTreaty 85 = .ok (.invokevirtual 125, 3) := by decide +kernel
theorem dX6_readTreaty_88 : decode cX6_readTreaty 88 = .ok (.ifCond .ne 5, 3) := by decide +kernel
theorem dX6_readTreaty_91 : decode cX6_readTreaty 91 = .ok (.iconst 0, 1) := by decide +kernel
theorem dX6_readTreaty_92 : decode cX6_readTreaty 92 = .ok (.ireturn, 1) := by decide +kernel
theorem dX6_readTreaty_93 : decode cX6_readTreaty 93 = .ok (.iinc 2 1, 3) := by decide +kernel
theorem dX6_readTreaty_96 : decode cX6_readTreaty 96 = .ok (.goto (-32), 3) := by decide +kernel
theorem dX6_readTreaty_99 : decode cX6_readTreaty 99 = .ok (.aload_n 0, 1) := by decide +kernel
theorem dX6_readTreaty_100 : decode cX6_readTreaty 100 = .ok (.getfield 111, 3) := by decide +kernel
theorem dX6_readTreaty_103 : decode cX6_readTreaty 103 = .ok (.ifCond .eq 19, 3) := by decide +kernel
theorem dX6_readTreaty_106 : decode cX6_readTreaty 106 = .ok (.aload_n 0, 1) := by decide +kernel
theorem dX6_readTreaty_107 : decode cX6_readTreaty 107 = .ok (.getfield 111, 3) := by decide +kernel
theorem dX6_readTreaty_110 : decode cX6_readTreaty 110 = .ok (.iconst 5, 1) := by decide +kernel
theorem dX6_readTreaty_111 : decode cX6_readTreaty 111 = .ok (.if_icmp .ge 31, 3) := by decide +kernel
theorem dX6_readTreaty_114 : decode cX6_readTreaty 114 = .ok (.aload_n 0, 1) := by decide +kernel
theorem dX6_readTreaty_115 : decode cX6_readTreaty 115 = .ok (.getfield 81, 3) := by decide +kernel
theorem dX6_readTreaty_118 : decode cX6_readTreaty 118 = .ok (.iload_n 1, 1) := by decide +kernel
theorem dX6_readTreaty_119 : decode cX6_readTreaty 119 = .ok (.if_icmp .ge 23, 3) := by decide +kernel
theorem dX6_readTreaty_122 : decode cX6_readTreaty 122 = .ok (.aload_n 0, 1) := by decide +kernel
theorem dX6_readTreaty_123 : decode cX6_readTreaty 123 = .ok (.iload_n 1, 1) := by decide +kernel
theorem dX6_readTreaty_124 : decode cX6_readTreaty 124 = .ok (.bipush 44, 2) := by decide +kernel
theorem dX6_readTreaty_126 : decode cX6_readTreaty 126 = .ok (.invokevirtual 117, 3) := by decide +kernel
theorem dX6_readTreaty_129 : decode cX6_readTreaty 129 = .ok (.ifCond .eq 11, 3) := by decide +kernel
theorem dX6_readTreaty_132 : decode cX6_readTreaty 132 = .ok (.aload_n 0, 1) := by decide +kernel
theorem dX6_readTreaty_133 : decode cX6_readTreaty 133 = .ok (.iload_n 1, 1) := by decide +kernel
theorem dX6_readTreaty_134 : decode cX6_readTreaty 134 = .ok (.invokevirtual 128, 3) := by decide +kernel
theorem dX6_readTreaty_137 : decode cX6_readTreaty 137 = .ok (.ifCond .ne (-38), 3) := by decide +kernel
theorem dX6_readTreaty_140 : decode cX6_readTreaty 140 = .ok (.iconst 0, 1) := by decide +kernel
theorem dX6_readTreaty_141 : decode cX6_readTreaty 141 = .ok (.ireturn, 1) := by decide +kernel
theorem dX6_readTreaty_142 : decode cX6_readTreaty 142 = .ok (.aload_n 0, 1) := by decide +kernel
theorem dX6_readTreaty_143 : decode cX6_readTreaty 143 = .ok (.getfield 81, 3) := by decide +kernel
theorem dX6_readTreaty_146 : decode cX6_readTreaty 146 = .ok (.iload_n 1, 1) := by decide +kernel
theorem dX6_readTreaty_147 : decode cX6_readTreaty 147 = .ok (.if_icmp .ne 7, 3) := by decide +kernel
theorem dX6_readTreaty_150 : decode cX6_readTreaty 150 = .ok (.iconst 1, 1) := by decide +kernel
theorem dX6_readTreaty_151 : decode cX6_readTreaty 151 = .ok (.goto 4, 3) := by decide +kernel
theorem dX6_readTreaty_154 : decode cX6_readTreaty 154 = .ok (.iconst 0, 1) := by decide +kernel
theorem dX6_readTreaty_155 : decode cX6_readTreaty 155 = .ok (.ireturn, 1) := by decide +kernel
set_option maxRecDepth 20000 in
theorem ggX6_readCourt_X6_digit : GoodIn wsX6_readCourt wsX6_digit := goodIn_r _ [7, 8, 9, 10, 11, 6, 12, 13, 14, 15, 16, 17, 18, 19, 20, 21, 22, 23, 24, 25, 26, 27, 28, 29, 30, 31, 32, 33, 34, 35, 36, 37, 38, 39] (by decide +kernel) (by decide +kernel)
set_option maxRecDepth 20000 in
theorem gX6_readCourt_X6_digit : GoodIn wsX6_readCourt (wsV RX6 121 RX6 yX6_digit wsX6_digit) := goodIn_app (goodIn_of _ (by decide +kernel)) ggX6_readCourt_X6_digit
theorem dX6_readCourt_0 : decode cX6_readCourt 0 = .ok (.iconst 0, 1) := by decide +kernel
theorem dX6_readCourt_1 : decode cX6_readCourt 1 = .ok (.istore_n 3, 1) := by decide +kernel
theorem dX6_readCourt_2 : decode cX6_readCourt 2 = .ok (.iload_n 3, 1) := by decide +kernel
theorem dX6_readCourt_3 : decode cX6_readCourt 3 = .ok (.aload_n 0, 1) := by decide +kernel
theorem dX6_readCourt_4 : decode cX6_readCourt 4 = .ok (.getfield 108, 3) := by decide +kernel
theorem dX6_readCourt_7 : decode cX6_readCourt 7 = .ok (.if_icmp .ge 46, 3) := by decide +kernel
theorem dX6_readCourt_10 : decode cX6_readCourt 10 = .ok (.aload_n 0, 1) := by decide +kernel
theorem dX6_readCourt_11 : decode cX6_readCourt 11 = .ok (.getfield 40, 3) := by decide +kernel
theorem dX6_readCourt_14 : decode cX6_readCourt 14 = .ok (.bipush 6, 2) := by decide +kernel
theorem dX6_readCourt_16 : decode cX6_readCourt 16 = .ok (.iload_n 2, 1) := by decide +kernel
theorem dX6_readCourt_17 : decode cX6_readCourt 17 = .ok (.imul, 1) := by decide +kernel
theorem dX6_readCourt_18 : decode cX6_readCourt 18 = .ok (.iload_n 3, 1) := by decide +kernel
theorem dX6_readCourt_19 : decode cX6_readCourt 19 = .ok (.iadd, 1) := by decide +kernel
theorem dX6_readCourt_20 : decode cX6_readCourt 20 = .ok (.aload_n 0, 1) := by decide +kernel
theorem dX6_readCourt_21 : decode cX6_readCourt 21 = .ok (.iload_n 1, 1) := by decide +kernel
theorem dX6_readCourt_22 : decode cX6_readCourt 22 = .ok (.iconst 0, 1) := by decide +kernel
theorem dX6_readCourt_23 : decode cX6_readCourt 23 = .ok (.bipush 9, 2) := by decide +kernel
theorem dX6_readCourt_25 : decode cX6_readCourt 25 = .ok (.invokevirtual 121, 3) := by decide +kernel
theorem dX6_readCourt_28 : decode cX6_readCourt 28 = .ok (.iastore, 1) := by decide +kernel
theorem dX6_readCourt_29 : decode cX6_readCourt 29 = .ok (.aload_n 0, 1) := by decide +kernel
theorem dX6_readCourt_30 : decode cX6_readCourt 30 = .ok (.getfield 40, 3) := by decide +kernel
theorem dX6_readCourt_33 : decode cX6_readCourt 33 = .ok (.bipush 6, 2) := by decide +kernel
theorem dX6_readCourt_35 : decode cX6_readCourt 35 = .ok (.iload_n 2, 1) := by decide +kernel
theorem dX6_readCourt_36 : decode cX6_readCourt 36 = .ok (.imul, 1) := by decide +kernel
theorem dX6_readCourt_37 : decode cX6_readCourt 37 = .ok (.iload_n 3, 1) := by decide +kernel
theorem dX6_readCourt_38 : decode cX6_readCourt 38 = .ok (.iadd, 1) := by decide +kernel
theorem dX6_readCourt_39 : decode cX6_readCourt 39 = .ok (.iaload, 1) := by decide +kernel
theorem dX6_readCourt_40 : decode cX6_readCourt 40 = .ok (.bipush (-9), 2) := by decide +kernel
theorem dX6_readCourt_42 : decode cX6_readCourt 42 = .ok (.if_icmp .ne 5, 3) := by decide +kernel
theorem dX6_readCourt_45 : decode cX6_readCourt 45 = .ok (.iconst 0, 1) := by decide +kernel
theorem dX6_readCourt_46 : decode cX6_readCourt 46 = .ok (.ireturn, 1) := by decide +kernel
theorem dX6_readCourt_47 : decode cX6_readCourt 47 = .ok (.iinc 3 1, 3) := by decide +kernel
theorem dX6_readCourt_50 : decode cX6_readCourt 50 = .ok (.goto (-48), 3) := by decide +kernel
theorem dX6_readCourt_53 : decode cX6_readCourt 53 = .ok (.iconst 1, 1) := by decide +kernel
theorem dX6_readCourt_54 : decode cX6_readCourt 54 = .ok (.ireturn, 1) := by decide +kernel
set_option maxRecDepth 20000 in
theorem ggX6_readSon_X6_digit : GoodIn wsX6_readSon wsX6_digit := goodIn_r _ [10, 2, 3, 11, 12, 9, 13, 14, 15, 16, 17, 18, 19, 20, 21, 22, 23, 24, 25, 26, 27, 28, 29, 30, 31, 32, 33, 34, 35, 36, 37, 38, 39, 40] (by decide +kernel) (by decide +kernel)
set_option maxRecDepth 20000 in
theorem gX6_readSon_X6_digit : GoodIn wsX6_readSon (wsV RX6 121 RX6 yX6_digit wsX6_digit) := goodIn_app (goodIn_of _ (by decide +kernel)) ggX6_readSon_X6_digit
theorem dX6_readSon_0 : decode cX6_readSon 0 = .ok (.iconst 4, 1) := by decide +kernel
theorem dX6_readSon_1 : decode cX6_readSon 1 = .ok (.aload_n 0, 1) := by decide +kernel
theorem dX6_readSon_2 : decode cX6_readSon 2 = .ok (.getfield 111, 3) := by decide +kernel
theorem dX6_readSon_5 : decode cX6_readSon 5 = .ok (.imul, 1) := by decide +kernel
theorem dX6_readSon_6 : decode cX6_readSon 6 = .ok (.istore_n 2, 1) := by decide +kernel
theorem dX6_readSon_7 : decode cX6_readSon 7 = .ok (.aload_n 0, 1) := by decide +kernel
theorem dX6_readSon_8 : decode cX6_readSon 8 = .ok (.getfield 81, 3) := by decide +kernel
theorem dX6_readSon_11 : decode cX6_readSon 11 = .ok (.iload_n 1, 1) := by decide +kernel
theorem dX6_readSon_12 : decode cX6_readSon 12 = .ok (.if_icmp .ge 15, 3) := by decide +kernel
theorem dX6_readSon_15 : decode cX6_readSon 15 = .ok (.aload_n 0, 1) := by decide +kernel
theorem dX6_readSon_16 : decode cX6_readSon 16 = .ok (.getfield 16, 3) := by decide +kernel
theorem dX6_readSon_19 : decode cX6_readSon 19 = .ok (.aload_n 0, 1) := by decide +kernel
theorem dX6_readSon_20 : decode cX6_readSon 20 = .ok (.getfield 81, 3) := by decide +kernel
theorem dX6_readSon_23 : decode cX6_readSon 23 = .ok (.iaload, 1) := by decide +kernel
theorem dX6_readSon_24 : decode cX6_readSon 24 = .ok (.goto 4, 3) := by decide +kernel
theorem dX6_readSon_27 : decode cX6_readSon 27 = .ok (.iconst 0, 1) := by decide +kernel
theorem dX6_readSon_28 : decode cX6_readSon 28 = .ok (.istore_n 3, 1) := by decide +kernel
theorem dX6_readSon_29 : decode cX6_readSon 29 = .ok (.aload_n 0, 1) := by decide +kernel
theorem dX6_readSon_30 : decode cX6_readSon 30 = .ok (.getfield 43, 3) := by decide +kernel
theorem dX6_readSon_33 : decode cX6_readSon 33 = .ok (.iload_n 2, 1) := by decide +kernel
theorem dX6_readSon_34 : decode cX6_readSon 34 = .ok (.iload_n 3, 1) := by decide +kernel
theorem dX6_readSon_35 : decode cX6_readSon 35 = .ok (.bipush 115, 2) := by decide +kernel
theorem dX6_readSon_37 : decode cX6_readSon 37 = .ok (.if_icmp .ne 7, 3) := by decide +kernel
theorem dX6_readSon_40 : decode cX6_readSon 40 = .ok (.iconst 0, 1) := by decide +kernel
theorem dX6_readSon_41 : decode cX6_readSon 41 = .ok (.goto 25, 3) := by decide +kernel
theorem dX6_readSon_44 : decode cX6_readSon 44 = .ok (.iload_n 3, 1) := by decide +kernel
theorem dX6_readSon_45 : decode cX6_readSon 45 = .ok (.bipush 104, 2) := by decide +kernel
theorem dX6_readSon_47 : decode cX6_readSon 47 = .ok (.if_icmp .ne 7, 3) := by decide +kernel
theorem dX6_readSon_50 : decode cX6_readSon 50 = .ok (.iconst 1, 1) := by decide +kernel
theorem dX6_readSon_51 : decode cX6_readSon 51 = .ok (.goto 15, 3) := by decide +kernel
theorem dX6_readSon_54 : decode cX6_readSon 54 = .ok (.iload_n 3, 1) := by decide +kernel
theorem dX6_readSon_55 : decode cX6_readSon 55 = .ok (.bipush 112, 2) := by decide +kernel
theorem dX6_readSon_57 : decode cX6_readSon 57 = .ok (.if_icmp .ne 7, 3) := by decide +kernel
theorem dX6_readSon_60 : decode cX6_readSon 60 = .ok (.iconst 2, 1) := by decide +kernel
theorem dX6_readSon_61 : decode cX6_readSon 61 = .ok (.goto 5, 3) := by decide +kernel
theorem dX6_readSon_64 : decode cX6_readSon 64 = .ok (.bipush (-9), 2) := by decide +kernel
theorem dX6_readSon_66 : decode cX6_readSon 66 = .ok (.iastore, 1) := by decide +kernel
theorem dX6_readSon_67 : decode cX6_readSon 67 = .ok (.aload_n 0, 1) := by decide +kernel
theorem dX6_readSon_68 : decode cX6_readSon 68 = .ok (.getfield 43, 3) := by decide +kernel
theorem dX6_readSon_71 : decode cX6_readSon 71 = .ok (.iload_n 2, 1) := by decide +kernel
theorem dX6_readSon_72 : decode cX6_readSon 72 = .ok (.iaload, 1) := by decide +kernel
theorem dX6_readSon_73 : decode cX6_readSon 73 = .ok (.bipush (-9), 2) := by decide +kernel
theorem dX6_readSon_75 : decode cX6_readSon 75 = .ok (.if_icmp .ne 5, 3) := by decide +kernel
theorem dX6_readSon_78 : decode cX6_readSon 78 = .ok (.iconst 0, 1) := by decide +kernel
theorem dX6_readSon_79 : decode cX6_readSon 79 = .ok (.ireturn, 1) := by decide +kernel
theorem dX6_readSon_80 : decode cX6_readSon 80 = .ok (.aload_n 0, 1) := by decide +kernel
theorem dX6_readSon_81 : decode cX6_readSon 81 = .ok (.dup, 1) := by decide +kernel
theorem dX6_readSon_82 : decode cX6_readSon 82 = .ok (.getfield 81, 3) := by decide +kernel
theorem dX6_readSon_85 : decode cX6_readSon 85 = .ok (.iconst 1, 1) := by decide +kernel
theorem dX6_readSon_86 : decode cX6_readSon 86 = .ok (.iadd, 1) := by decide +kernel
theorem dX6_readSon_87 : decode cX6_readSon 87 = .ok (.putfield 81, 3) := by decide +kernel
theorem dX6_readSon_90 : decode cX6_readSon 90 = .ok (.iconst 1, 1) := by decide +kernel
theorem dX6_readSon_91 : decode cX6_readSon 91 = .ok (.istore 4, 2) := by decide +kernel
theorem dX6_readSon_93 : decode cX6_readSon 93 = .ok (.iload 4, 2) := by decide +kernel
theorem dX6_readSon_95 : decode cX6_readSon 95 = .ok (.iconst 4, 1) := by decide +kernel
theorem dX6_readSon_96 : decode cX6_readSon 96 = .ok (.if_icmp .ge 67, 3) := by decide +kernel
theorem dX6_readSon_99 : decode cX6_readSon 99 = .ok (.aload_n 0, 1) := by decide +kernel
theorem dX6_readSon_100 : decode cX6_readSon 100 = .ok (.getfield 43, 3) := by decide +kernel
theorem dX6_readSon_103 : decode cX6_readSon 103 = .ok (.iload_n 2, 1) := by decide +kernel
theorem dX6_readSon_104 : decode cX6_readSon 104 = .ok (.iload 4, 2) := by decide +kernel
theorem dX6_readSon_106 : decode cX6_readSon 106 = .ok (.iadd, 1) := by decide +kernel
theorem dX6_readSon_107 : decode cX6_readSon 107 = .ok (.aload_n 0, 1) := by decide +kernel
theorem dX6_readSon_108 : decode cX6_readSon 108 = .ok (.iload_n 1, 1) := by decide +kernel
theorem dX6_readSon_109 : decode cX6_readSon 109 = .ok (.iconst 0, 1) := by decide +kernel
theorem dX6_readSon_110 : decode cX6_readSon 110 = .ok (.iload 4, 2) := by decide +kernel
theorem dX6_readSon_112 : decode cX6_readSon 112 = .ok (.iconst 1, 1) := by decide +kernel
theorem dX6_readSon_113 : decode cX6_readSon 113 = .ok (.if_icmp .ne 12, 3) := by decide +kernel
theorem dX6_readSon_116 : decode cX6_readSon 116 = .ok (.aload_n 0, 1) := by decide +kernel
theorem dX6_readSon_117 : decode cX6_readSon 117 = .ok (.getfield 105, 3) := by decide +kernel
theorem dX6_readSon_120 : decode cX6_readSon 120 = .ok (.iconst 1, 1) := by decide +kernel
theorem dX6_readSon_121 : decode cX6_readSon 121 = .ok (.isub, 1) := by decide +kernel
theorem dX6_readSon_122 : decode cX6_readSon 122 = .ok (.goto 15, 3) := by decide +kernel
theorem dX6_readSon_125 : decode cX6_readSon 125 = .ok (.iload 4, 2) := by decide +kernel
theorem dX6_readSon_127 : decode cX6_readSon 127 = .ok (.iconst 2, 1) := by decide +kernel
theorem dX6_readSon_128 : decode cX6_readSon 128 = .ok (.if_icmp .ne 8, 3) := by decide +kernel
theorem dX6_readSon_131 : decode cX6_readSon 131 = .ok (.bipush 9, 2) := by decide +kernel
theorem dX6_readSon_133 : decode cX6_readSon 133 = .ok (.goto 4, 3) := by decide +kernel
theorem dX6_readSon_136 : decode cX6_readSon 136 = .ok (.iconst 3, 1) := by decide +kernel
theorem dX6_readSon_137 : decode cX6_readSon 137 = .ok (.invokevirtual 121, 3) := by decide +kernel
theorem dX6_readSon_140 : decode cX6_readSon 140 = .ok (.iastore, 1) := by decide +kernel
theorem dX6_readSon_141 : decode cX6_readSon 141 = .ok (.aload_n 0, 1) := by decide +kernel
theorem dX6_readSon_142 : decode cX6_readSon 142 = .ok (.getfield 43, 3) := by decide +kernel
theorem dX6_readSon_145 : decode cX6_readSon 145 = .ok (.iload_n 2, 1) := by decide +kernel
theorem dX6_readSon_146 : decode cX6_readSon 146 = .ok (.iload 4, 2) := by decide +kernel
theorem dX6_readSon_148 : decode cX6_readSon 148 = .ok (.iadd, 1) := by decide +kernel
theorem dX6_readSon_149 : decode cX6_readSon 149 = .ok (.iaload, 1) := by decide +kernel
theorem dX6_readSon_150 : decode cX6_readSon 150 = .ok (.bipush (-9), 2) := by decide +kernel
theorem dX6_readSon_152 : decode cX6_readSon 152 = .ok (.if_icmp .ne 5, 3) := by decide +kernel
theorem dX6_readSon_155 : decode cX6_readSon 155 = .ok (.iconst 0, 1) := by decide +kernel
theorem dX6_readSon_156 : decode cX6_readSon 156 = .ok (.ireturn, 1) := by decide +kernel
theorem dX6_readSon_157 : decode cX6_readSon 157 = .ok (.iinc 4 1, 3) := by decide +kernel
theorem dX6_readSon_160 : decode cX6_readSon 160 = .ok (.goto (-67), 3) := by decide +kernel
theorem dX6_readSon_163 : decode cX6_readSon 163 = .ok (.aload_n 0, 1) := by decide +kernel
theorem dX6_readSon_164 : decode cX6_readSon 164 = .ok (.dup, 1) := by decide +kernel
theorem dX6_readSon_165 : decode cX6_readSon 165 = .ok (.getfield 111, 3) := by decide +kernel
theorem dX6_readSon_168 : decode cX6_readSon 168 = .ok (.iconst 1, 1) := by decide +kernel
theorem dX6_readSon_169 : decode cX6_readSon 169 = .ok (.iadd, 1) := by decide +kernel
theorem dX6_readSon_170 : decode cX6_readSon 170 = .ok (.putfield 111, 3) := by decide +kernel
theorem dX6_readSon_173 : decode cX6_readSon 173 = .ok (.iconst 1, 1) := by decide +kernel
theorem dX6_readSon_174 : decode cX6_readSon 174 = .ok (.ireturn, 1) := by decide +kernel
set_option maxRecDepth 20000 in
theorem ggX6_ofSon_X6_isSon : GoodIn wsX6_ofSon wsX6_isSon := goodIn_r _ [11, 12, 13, 14, 15, 16, 17, 18, 19, 20, 21, 22, 23, 24, 25, 26, 27, 28, 29, 30, 31, 32, 33, 34, 35, 36, 37, 38, 39] (by decide +kernel) (by decide +kernel)
set_option maxRecDepth 20000 in
theorem gX6_ofSon_X6_isSon : GoodIn wsX6_ofSon (wsV RX6 131 RX6 yX6_isSon wsX6_isSon) := goodIn_app (goodIn_of _ (by decide +kernel)) ggX6_ofSon_X6_isSon
theorem dX6_ofSon_0 : decode cX6_ofSon 0 = .ok (.aload_n 0, 1) := by decide +kernel
theorem dX6_ofSon_1 : decode cX6_ofSon 1 = .ok (.iload_n 1, 1) := by decide +kernel
theorem dX6_ofSon_2 : decode cX6_ofSon 2 = .ok (.invokevirtual 131, 3) := by decide +kernel
theorem dX6_ofSon_5 : decode cX6_ofSon 5 = .ok (.ifCond .ne 5, 3) := by decide +kernel
theorem dX6_ofSon_8 : decode cX6_ofSon 8 = .ok (.iconst (-1), 1) := by decide +kernel
theorem dX6_ofSon_9 : decode cX6_ofSon 9 = .ok (.ireturn, 1) := by decide +kernel
theorem dX6_ofSon_10 : decode cX6_ofSon 10 = .ok (.iload_n 2, 1) := by decide +kernel
theorem dX6_ofSon_11 : decode cX6_ofSon 11 = .ok (.tableswitch 79 0 5 #[37, 44, 51, 58, 65, 72], 37) := by decide +kernel
theorem dX6_ofSon_48 : decode cX6_ofSon 48 = .ok (.aload_n 0, 1) := by decide +kernel
theorem dX6_ofSon_49 : decode cX6_ofSon 49 = .ok (.getfield 22, 3) := by decide +kernel
theorem dX6_ofSon_52 : decode cX6_ofSon 52 = .ok (.iload_n 1, 1) := by decide +kernel
theorem dX6_ofSon_53 : decode cX6_ofSon 53 = .ok (.iaload, 1) := by decide +kernel
theorem dX6_ofSon_54 : decode cX6_ofSon 54 = .ok (.ireturn, 1) := by decide +kernel
theorem dX6_ofSon_55 : decode cX6_ofSon 55 = .ok (.aload_n 0, 1) := by decide +kernel
theorem dX6_ofSon_56 : decode cX6_ofSon 56 = .ok (.getfield 25, 3) := by decide +kernel
theorem dX6_ofSon_59 : decode cX6_ofSon 59 = .ok (.iload_n 1, 1) := by decide +kernel
theorem dX6_ofSon_60 : decode cX6_ofSon 60 = .ok (.iaload, 1) := by decide +kernel
theorem dX6_ofSon_61 : decode cX6_ofSon 61 = .ok (.ireturn, 1) := by decide +kernel
theorem dX6_ofSon_62 : decode cX6_ofSon 62 = .ok (.aload_n 0, 1) := by decide +kernel
theorem dX6_ofSon_63 : decode cX6_ofSon 63 = .ok (.getfield 28, 3) := by decide +kernel
theorem dX6_ofSon_66 : decode cX6_ofSon 66 = .ok (.iload_n 1, 1) := by decide +kernel
theorem dX6_ofSon_67 : decode cX6_ofSon 67 = .ok (.iaload, 1) := by decide +kernel
theorem dX6_ofSon_68 : decode cX6_ofSon 68 = .ok (.ireturn, 1) := by decide +kernel
theorem dX6_ofSon_69 : decode cX6_ofSon 69 = .ok (.aload_n 0, 1) := by decide +kernel
theorem dX6_ofSon_70 : decode cX6_ofSon 70 = .ok (.getfield 31, 3) := by decide +kernel
theorem dX6_ofSon_73 : decode cX6_ofSon 73 = .ok (.iload_n 1, 1) := by decide +kernel
theorem dX6_ofSon_74 : decode cX6_ofSon 74 = .ok (.iaload, 1) := by decide +kernel
theorem dX6_ofSon_75 : decode cX6_ofSon 75 = .ok (.ireturn, 1) := by decide +kernel
theorem dX6_ofSon_76 : decode cX6_ofSon 76 = .ok (.aload_n 0, 1) := by decide +kernel
theorem dX6_ofSon_77 : decode cX6_ofSon 77 = .ok (.getfield 34, 3) := by decide +kernel
theorem dX6_ofSon_80 : decode cX6_ofSon 80 = .ok (.iload_n 1, 1) := by decide +kernel
theorem dX6_ofSon_81 : decode cX6_ofSon 81 = .ok (.iaload, 1) := by decide +kernel
theorem dX6_ofSon_82 : decode cX6_ofSon 82 = .ok (.ireturn, 1) := by decide +kernel
theorem dX6_ofSon_83 : decode cX6_ofSon 83 = .ok (.aload_n 0, 1) := by decide +kernel
theorem dX6_ofSon_84 : decode cX6_ofSon 84 = .ok (.getfield 37, 3) := by decide +kernel
theorem dX6_ofSon_87 : decode cX6_ofSon 87 = .ok (.iload_n 1, 1) := by decide +kernel
theorem dX6_ofSon_88 : decode cX6_ofSon 88 = .ok (.iaload, 1) := by decide +kernel
theorem dX6_ofSon_89 : decode cX6_ofSon 89 = .ok (.ireturn, 1) := by decide +kernel
theorem dX6_ofSon_90 : decode cX6_ofSon 90 = .ok (.bipush (-2), 2) := by decide +kernel
theorem dX6_ofSon_92 : decode cX6_ofSon 92 = .ok (.ireturn, 1) := by decide +kernel
set_option maxRecDepth 20000 in
theorem ggX6_gain_X6_isCourt : GoodIn wsX6_gain wsX6_isCourt := goodIn_r _ [6, 7, 13, 14, 15, 16, 17, 18, 19, 20, 21, 22, 23, 24, 25, 26, 27, 28, 29, 30, 31, 32, 33, 34, 35, 36, 37, 38, 39] (by decide +kernel) (by decide +kernel)
set_option maxRecDepth 20000 in
theorem gX6_gain_X6_isCourt : GoodIn wsX6_gain (wsV RX6 134 RX6 yX6_isCourt wsX6_isCourt) := goodIn_app (goodIn_of _ (by decide +kernel)) ggX6_gain_X6_isCourt
set_option maxRecDepth 20000 in
theorem ggX6_gain_X6_isYear : GoodIn wsX6_gain wsX6_isYear := goodIn_r _ [11, 12, 13, 14, 15, 16, 17, 18, 19, 20, 21, 22, 23, 24, 25, 26, 27, 28, 29, 30, 31, 32, 33, 34, 35, 36, 37, 38, 39] (by decide +kernel) (by decide +kernel)
set_option maxRecDepth 20000 in
theorem gX6_gain_X6_isYear : GoodIn wsX6_gain (wsV RX6 137 RX6 yX6_isYear wsX6_isYear) := goodIn_app (goodIn_of _ (by decide +kernel)) ggX6_gain_X6_isYear
theorem dX6_gain_0 : decode cX6_gain 0 = .ok (.aload_n 0, 1) := by decide +kernel
theorem dX6_gain_1 : decode cX6_gain 1 = .ok (.iload_n 1, 1) := by decide +kernel
theorem dX6_gain_2 : decode cX6_gain 2 = .ok (.invokevirtual 134, 3) := by decide +kernel
theorem dX6_gain_5 : decode cX6_gain 5 = .ok (.ifCond .ne 5, 3) := by decide +kernel
theorem dX6_gain_8 : decode cX6_gain 8 = .ok (.iconst (-1), 1) := by decide +kernel
theorem dX6_gain_9 : decode cX6_gain 9 = .ok (.ireturn, 1) := by decide +kernel
theorem dX6_gain_10 : decode cX6_gain 10 = .ok (.aload_n 0, 1) := by decide +kernel
theorem dX6_gain_11 : decode cX6_gain 11 = .ok (.iload_n 2, 1) := by decide +kernel
theorem dX6_gain_12 : decode cX6_gain 12 = .ok (.invokevirtual 137, 3) := by decide +kernel
theorem dX6_gain_15 : decode cX6_gain 15 = .ok (.ifCond .eq 17, 3) := by decide +kernel
theorem dX6_gain_18 : decode cX6_gain 18 = .ok (.aload_n 0, 1) := by decide +kernel
theorem dX6_gain_19 : decode cX6_gain 19 = .ok (.getfield 19, 3) := by decide +kernel
theorem dX6_gain_22 : decode cX6_gain 22 = .ok (.bipush 6, 2) := by decide +kernel
theorem dX6_gain_24 : decode cX6_gain 24 = .ok (.iload_n 1, 1) := by decide +kernel
theorem dX6_gain_25 : decode cX6_gain 25 = .ok (.imul, 1) := by decide +kernel
theorem dX6_gain_26 : decode cX6_gain 26 = .ok (.iload_n 2, 1) := by decide +kernel
theorem dX6_gain_27 : decode cX6_gain 27 = .ok (.iadd, 1) := by decide +kernel
theorem dX6_gain_28 : decode cX6_gain 28 = .ok (.iaload, 1) := by decide +kernel
theorem dX6_gain_29 : decode cX6_gain 29 = .ok (.goto 5, 3) := by decide +kernel
theorem dX6_gain_32 : decode cX6_gain 32 = .ok (.bipush (-2), 2) := by decide +kernel
theorem dX6_gain_34 : decode cX6_gain 34 = .ok (.ireturn, 1) := by decide +kernel
set_option maxRecDepth 20000 in
theorem ggX6_tempt_X6_isCourt : GoodIn wsX6_tempt wsX6_isCourt := goodIn_r _ [6, 7, 16, 17, 18, 19, 20, 21, 22, 23, 24, 25, 26, 27, 28, 29, 30, 31, 32, 33, 34, 35, 36, 37, 38, 39, 40, 41, 42] (by decide +kernel) (by decide +kernel)
set_option maxRecDepth 20000 in
theorem gX6_tempt_X6_isCourt : GoodIn wsX6_tempt (wsV RX6 134 RX6 yX6_isCourt wsX6_isCourt) := goodIn_app (goodIn_of _ (by decide +kernel)) ggX6_tempt_X6_isCourt
set_option maxRecDepth 20000 in
theorem ggX6_tempt_X6_isYear : GoodIn wsX6_tempt wsX6_isYear := goodIn_r _ [11, 12, 16, 17, 18, 19, 20, 21, 22, 23, 24, 25, 26, 27, 28, 29, 30, 31, 32, 33, 34, 35, 36, 37, 38, 39, 40, 41, 42] (by decide +kernel) (by decide +kernel)
set_option maxRecDepth 20000 in
theorem gX6_tempt_X6_isYear : GoodIn wsX6_tempt (wsV RX6 137 RX6 yX6_isYear wsX6_isYear) := goodIn_app (goodIn_of _ (by decide +kernel)) ggX6_tempt_X6_isYear
set_option maxRecDepth 20000 in
theorem ggX6_tempt_X6_within : GoodIn wsX6_tempt wsX6_within := goodIn_r _ [15] (by decide +kernel) (by decide +kernel)
set_option maxRecDepth 20000 in
theorem gX6_tempt_X6_within : GoodIn wsX6_tempt (va_wsS RX6 68 yX6_within wsX6_within) := goodIn_app (goodIn_of _ (by decide +kernel)) ggX6_tempt_X6_within
theorem dX6_tempt_0 : decode cX6_tempt 0 = .ok (.aload_n 0, 1) := by decide +kernel
theorem dX6_tempt_1 : decode cX6_tempt 1 = .ok (.iload_n 1, 1) := by decide +kernel
theorem dX6_tempt_2 : decode cX6_tempt 2 = .ok (.invokevirtual 134, 3) := by decide +kernel
theorem dX6_tempt_5 : decode cX6_tempt 5 = .ok (.ifCond .ne 5, 3) := by decide +kernel
theorem dX6_tempt_8 : decode cX6_tempt 8 = .ok (.iconst (-1), 1) := by decide +kernel
theorem dX6_tempt_9 : decode cX6_tempt 9 = .ok (.ireturn, 1) := by decide +kernel
theorem dX6_tempt_10 : decode cX6_tempt 10 = .ok (.aload_n 0, 1) := by decide +kernel
theorem dX6_tempt_11 : decode cX6_tempt 11 = .ok (.iload_n 2, 1) := by decide +kernel
theorem dX6_tempt_12 : decode cX6_tempt 12 = .ok (.invokevirtual 137, 3) := by decide +kernel
theorem dX6_tempt_15 : decode cX6_tempt 15 = .ok (.ifCond .eq 13, 3) := by decide +kernel
theorem dX6_tempt_18 : decode cX6_tempt 18 = .ok (.iload_n 3, 1) := by decide +kernel
theorem dX6_tempt_19 : decode cX6_tempt 19 = .ok (.iconst 0, 1) := by decide +kernel
theorem dX6_tempt_20 : decode cX6_tempt 20 = .ok (.bipush 9, 2) := by decide +kernel
theorem dX6_tempt_22 : decode cX6_tempt 22 = .ok (.invokestatic 68, 3) := by decide +kernel
theorem dX6_tempt_25 : decode cX6_tempt 25 = .ok (.ifCond .ne 6, 3) := by decide +kernel
theorem dX6_tempt_28 : decode cX6_tempt 28 = .ok (.bipush (-2), 2) := by decide +kernel
theorem dX6_tempt_30 : decode cX6_tempt 30 = .ok (.ireturn, 1) := by decide +kernel
theorem dX6_tempt_31 : decode cX6_tempt 31 = .ok (.aload_n 0, 1) := by decide +kernel
theorem dX6_tempt_32 : decode cX6_tempt 32 = .ok (.getfield 19, 3) := by decide +kernel
theorem dX6_tempt_35 : decode cX6_tempt 35 = .ok (.bipush 6, 2) := by decide +kernel
theorem dX6_tempt_37 : decode cX6_tempt 37 = .ok (.iload_n 1, 1) := by decide +kernel
theorem dX6_tempt_38 : decode cX6_tempt 38 = .ok (.imul, 1) := by decide +kernel
theorem dX6_tempt_39 : decode cX6_tempt 39 = .ok (.iload_n 2, 1) := by decide +kernel
theorem dX6_tempt_40 : decode cX6_tempt 40 = .ok (.iadd, 1) := by decide +kernel
theorem dX6_tempt_41 : decode cX6_tempt 41 = .ok (.iaload, 1) := by decide +kernel
theorem dX6_tempt_42 : decode cX6_tempt 42 = .ok (.istore 4, 2) := by decide +kernel
theorem dX6_tempt_44 : decode cX6_tempt 44 = .ok (.aload_n 0, 1) := by decide +kernel
theorem dX6_tempt_45 : decode cX6_tempt 45 = .ok (.getfield 19, 3) := by decide +kernel
theorem dX6_tempt_48 : decode cX6_tempt 48 = .ok (.bipush 6, 2) := by decide +kernel
theorem dX6_tempt_50 : decode cX6_tempt 50 = .ok (.iload_n 1, 1) := by decide +kernel
theorem dX6_tempt_51 : decode cX6_tempt 51 = .ok (.imul, 1) := by decide +kernel
theorem dX6_tempt_52 : decode cX6_tempt 52 = .ok (.iload_n 2, 1) := by decide +kernel
theorem dX6_tempt_53 : decode cX6_tempt 53 = .ok (.iadd, 1) := by decide +kernel
theorem dX6_tempt_54 : decode cX6_tempt 54 = .ok (.iload_n 3, 1) := by decide +kernel
theorem dX6_tempt_55 : decode cX6_tempt 55 = .ok (.iastore, 1) := by decide +kernel
theorem dX6_tempt_56 : decode cX6_tempt 56 = .ok (.iload 4, 2) := by decide +kernel
theorem dX6_tempt_58 : decode cX6_tempt 58 = .ok (.ireturn, 1) := by decide +kernel
set_option maxRecDepth 20000 in
theorem ggX6_send_X6_isSon : GoodIn wsX6_send wsX6_isSon := goodIn_r _ [8, 9, 20, 21, 22, 23, 24, 25, 26, 27, 28, 29, 30, 31, 32, 33, 34, 35, 36, 37, 38, 39, 40, 41, 42, 43, 44, 45, 46] (by decide +kernel) (by decide +kernel)
set_option maxRecDepth 20000 in
theorem gX6_send_X6_isSon : GoodIn wsX6_send (wsV RX6 131 RX6 yX6_isSon wsX6_isSon) := goodIn_app (goodIn_of _ (by decide +kernel)) ggX6_send_X6_isSon
set_option maxRecDepth 20000 in
theorem ggX6_send_X6_isCourt : GoodIn wsX6_send wsX6_isCourt := goodIn_r _ [13, 14, 20, 21, 22, 23, 24, 25, 26, 27, 28, 29, 30, 31, 32, 33, 34, 35, 36, 37, 38, 39, 40, 41, 42, 43, 44, 45, 46] (by decide +kernel) (by decide +kernel)
set_option maxRecDepth 20000 in
theorem gX6_send_X6_isCourt : GoodIn wsX6_send (wsV RX6 134 RX6 yX6_isCourt wsX6_isCourt) := goodIn_app (goodIn_of _ (by decide +kernel)) ggX6_send_X6_isCourt
set_option maxRecDepth 20000 in
theorem ggX6_send_X6_isYear : GoodIn wsX6_send wsX6_isYear := goodIn_r _ [18, 19, 20, 21, 22, 23, 24, 25, 26, 27, 28, 29, 30, 31, 32, 33, 34, 35, 36, 37, 38, 39, 40, 41, 42, 43, 44, 45, 46] (by decide +kernel) (by decide +kernel)
set_option maxRecDepth 20000 in
theorem gX6_send_X6_isYear : GoodIn wsX6_send (wsV RX6 137 RX6 yX6_isYear wsX6_isYear) := goodIn_app (goodIn_of _ (by decide +kernel)) ggX6_send_X6_isYear
theorem dX6_send_0 : decode cX6_send 0 = .ok (.aload_n 0, 1) := by decide +kernel
theorem dX6_send_1 : decode cX6_send 1 = .ok (.iload_n 1, 1) := by decide +kernel
theorem dX6_send_2 : decode cX6_send 2 = .ok (.invokevirtual 131, 3) := by decide +kernel
theorem dX6_send_5 : decode cX6_send 5 = .ok (.ifCond .eq 11, 3) := by decide +kernel
theorem dX6_send_8 : decode cX6_send 8 = .ok (.aload_n 0, 1) := by decide +kernel
theorem dX6_send_9 : decode cX6_send 9 = .ok (.iload_n 2, 1) := by decide +kernel
theorem dX6_send_10 : decode cX6_send 10 = .ok (.invokevirtual 134, 3) := by decide +kernel
theorem dX6_send_13 : decode cX6_send 13 = .ok (.ifCond .ne 5, 3) := by decide +kernel
theorem dX6_send_16 : decode cX6_send 16 = .ok (.iconst (-1), 1) := by decide +kernel
theorem dX6_send_17 : decode cX6_send 17 = .ok (.ireturn, 1) := by decide +kernel
theorem dX6_send_18 : decode cX6_send 18 = .ok (.aload_n 0, 1) := by decide +kernel
theorem dX6_send_19 : decode cX6_send 19 = .ok (.iload_n 3, 1) := by decide +kernel
theorem dX6_send_20 : decode cX6_send 20 = .ok (.invokevirtual 137, 3) := by decide +kernel
theorem dX6_send_23 : decode cX6_send 23 = .ok (.ifCond .ne 6, 3) := by decide +kernel
theorem dX6_send_26 : decode cX6_send 26 = .ok (.bipush (-2), 2) := by decide +kernel
theorem dX6_send_28 : decode cX6_send 28 = .ok (.ireturn, 1) := by decide +kernel
theorem dX6_send_29 : decode cX6_send 29 = .ok (.aload_n 0, 1) := by decide +kernel
theorem dX6_send_30 : decode cX6_send 30 = .ok (.getfield 25, 3) := by decide +kernel
theorem dX6_send_33 : decode cX6_send 33 = .ok (.iload_n 1, 1) := by decide +kernel
theorem dX6_send_34 : decode cX6_send 34 = .ok (.iaload, 1) := by decide +kernel
theorem dX6_send_35 : decode cX6_send 35 = .ok (.iload_n 2, 1) := by decide +kernel
theorem dX6_send_36 : decode cX6_send 36 = .ok (.if_icmp .ne 6, 3) := by decide +kernel
theorem dX6_send_39 : decode cX6_send 39 = .ok (.bipush (-3), 2) := by decide +kernel
theorem dX6_send_41 : decode cX6_send 41 = .ok (.ireturn, 1) := by decide +kernel
theorem dX6_send_42 : decode cX6_send 42 = .ok (.aload_n 0, 1) := by decide +kernel
theorem dX6_send_43 : decode cX6_send 43 = .ok (.getfield 34, 3) := by decide +kernel
theorem dX6_send_46 : decode cX6_send 46 = .ok (.iload_n 1, 1) := by decide +kernel
theorem dX6_send_47 : decode cX6_send 47 = .ok (.iaload, 1) := by decide +kernel
theorem dX6_send_48 : decode cX6_send 48 = .ok (.bipush (-9), 2) := by decide +kernel
theorem dX6_send_50 : decode cX6_send 50 = .ok (.if_icmp .eq 23, 3) := by decide +kernel
theorem dX6_send_53 : decode cX6_send 53 = .ok (.aload_n 0, 1) := by decide +kernel
theorem dX6_send_54 : decode cX6_send 54 = .ok (.getfield 34, 3) := by decide +kernel
theorem dX6_send_57 : decode cX6_send 57 = .ok (.iload_n 1, 1) := by decide +kernel
theorem dX6_send_58 : decode cX6_send 58 = .ok (.iaload, 1) := by decide +kernel
theorem dX6_send_59 : decode cX6_send 59 = .ok (.iload_n 2, 1) := by decide +kernel
theorem dX6_send_60 : decode cX6_send 60 = .ok (.if_icmp .ne 17, 3) := by decide +kernel
theorem dX6_send_63 : decode cX6_send 63 = .ok (.aload_n 0, 1) := by decide +kernel
theorem dX6_send_64 : decode cX6_send 64 = .ok (.getfield 37, 3) := by decide +kernel
theorem dX6_send_67 : decode cX6_send 67 = .ok (.iload_n 1, 1) := by decide +kernel
theorem dX6_send_68 : decode cX6_send 68 = .ok (.iaload, 1) := by decide +kernel
theorem dX6_send_69 : decode cX6_send 69 = .ok (.iload_n 3, 1) := by decide +kernel
theorem dX6_send_70 : decode cX6_send 70 = .ok (.if_icmp .ne 7, 3) := by decide +kernel
theorem dX6_send_73 : decode cX6_send 73 = .ok (.iconst 1, 1) := by decide +kernel
theorem dX6_send_74 : decode cX6_send 74 = .ok (.goto 4, 3) := by decide +kernel
theorem dX6_send_77 : decode cX6_send 77 = .ok (.iconst 0, 1) := by decide +kernel
theorem dX6_send_78 : decode cX6_send 78 = .ok (.istore 4, 2) := by decide +kernel
theorem dX6_send_80 : decode cX6_send 80 = .ok (.aload_n 0, 1) := by decide +kernel
theorem dX6_send_81 : decode cX6_send 81 = .ok (.getfield 34, 3) := by decide +kernel
theorem dX6_send_84 : decode cX6_send 84 = .ok (.iload_n 1, 1) := by decide +kernel
theorem dX6_send_85 : decode cX6_send 85 = .ok (.iload_n 2, 1) := by decide +kernel
theorem dX6_send_86 : decode cX6_send 86 = .ok (.iastore, 1) := by decide +kernel
theorem dX6_send_87 : decode cX6_send 87 = .ok (.aload_n 0, 1) := by decide +kernel
theorem dX6_send_88 : decode cX6_send 88 = .ok (.getfield 37, 3) := by decide +kernel
theorem dX6_send_91 : decode cX6_send 91 = .ok (.iload_n 1, 1) := by decide +kernel
theorem dX6_send_92 : decode cX6_send 92 = .ok (.iload_n 3, 1) := by decide +kernel
theorem dX6_send_93 : decode cX6_send 93 = .ok (.iastore, 1) := by decide +kernel
theorem dX6_send_94 : decode cX6_send 94 = .ok (.iload 4, 2) := by decide +kernel
theorem dX6_send_96 : decode cX6_send 96 = .ok (.ireturn, 1) := by decide +kernel
set_option maxRecDepth 20000 in
theorem ggX6_home_X6_isSon : GoodIn wsX6_home wsX6_isSon := goodIn_r _ [7, 8, 9, 10, 11, 12, 13, 14, 15, 16, 17, 18, 19, 20, 21, 22, 23, 24, 25, 26, 27, 28, 29, 30, 31, 32, 33, 34, 35] (by decide +kernel) (by decide +kernel)
set_option maxRecDepth 20000 in
theorem gX6_home_X6_isSon : GoodIn wsX6_home (wsV RX6 131 RX6 yX6_isSon wsX6_isSon) := goodIn_app (goodIn_of _ (by decide +kernel)) ggX6_home_X6_isSon
theorem dX6_home_0 : decode cX6_home 0 = .ok (.aload_n 0, 1) := by decide +kernel
theorem dX6_home_1 : decode cX6_home 1 = .ok (.iload_n 1, 1) := by decide +kernel
theorem dX6_home_2 : decode cX6_home 2 = .ok (.invokevirtual 131, 3) := by decide +kernel
theorem dX6_home_5 : decode cX6_home 5 = .ok (.ifCond .ne 5, 3) := by decide +kernel
theorem dX6_home_8 : decode cX6_home 8 = .ok (.iconst (-1), 1) := by decide +kernel
theorem dX6_home_9 : decode cX6_home 9 = .ok (.ireturn, 1) := by decide +kernel
theorem dX6_home_10 : decode cX6_home 10 = .ok (.aload_n 0, 1) := by decide +kernel
theorem dX6_home_11 : decode cX6_home 11 = .ok (.getfield 34, 3) := by decide +kernel
theorem dX6_home_14 : decode cX6_home 14 = .ok (.iload_n 1, 1) := by decide +kernel
theorem dX6_home_15 : decode cX6_home 15 = .ok (.iaload, 1) := by decide +kernel
theorem dX6_home_16 : decode cX6_home 16 = .ok (.bipush (-9), 2) := by decide +kernel
theorem dX6_home_18 : decode cX6_home 18 = .ok (.if_icmp .ne 7, 3) := by decide +kernel
theorem dX6_home_21 : decode cX6_home 21 = .ok (.iconst 0, 1) := by decide +kernel
theorem dX6_home_22 : decode cX6_home 22 = .ok (.goto 4, 3) := by decide +kernel
theorem dX6_home_25 : decode cX6_home 25 = .ok (.iconst 1, 1) := by decide +kernel
theorem dX6_home_26 : decode cX6_home 26 = .ok (.istore_n 2, 1) := by decide +kernel
theorem dX6_home_27 : decode cX6_home 27 = .ok (.aload_n 0, 1) := by decide +kernel
theorem dX6_home_28 : decode cX6_home 28 = .ok (.getfield 34, 3) := by decide +kernel
theorem dX6_home_31 : decode cX6_home 31 = .ok (.iload_n 1, 1) := by decide +kernel
theorem dX6_home_32 : decode cX6_home 32 = .ok (.bipush (-9), 2) := by decide +kernel
theorem dX6_home_34 : decode cX6_home 34 = .ok (.iastore, 1) := by decide +kernel
theorem dX6_home_35 : decode cX6_home 35 = .ok (.aload_n 0, 1) := by decide +kernel
theorem dX6_home_36 : decode cX6_home 36 = .ok (.getfield 37, 3) := by decide +kernel
theorem dX6_home_39 : decode cX6_home 39 = .ok (.iload_n 1, 1) := by decide +kernel
theorem dX6_home_40 : decode cX6_home 40 = .ok (.bipush (-9), 2) := by decide +kernel
theorem dX6_home_42 : decode cX6_home 42 = .ok (.iastore, 1) := by decide +kernel
theorem dX6_home_43 : decode cX6_home 43 = .ok (.iload_n 2, 1) := by decide +kernel
theorem dX6_home_44 : decode cX6_home 44 = .ok (.ireturn, 1) := by decide +kernel
theorem dX6_stakeBy_0 : decode cX6_stakeBy 0 = .ok (.aload_n 0, 1) := by decide +kernel
theorem dX6_stakeBy_1 : decode cX6_stakeBy 1 = .ok (.getfield 28, 3) := by decide +kernel
theorem dX6_stakeBy_4 : decode cX6_stakeBy 4 = .ok (.iload_n 1, 1) := by decide +kernel
theorem dX6_stakeBy_5 : decode cX6_stakeBy 5 = .ok (.iaload, 1) := by decide +kernel
theorem dX6_stakeBy_6 : decode cX6_stakeBy 6 = .ok (.aload_n 0, 1) := by decide +kernel
theorem dX6_stakeBy_7 : decode cX6_stakeBy 7 = .ok (.getfield 31, 3) := by decide +kernel
theorem dX6_stakeBy_10 : decode cX6_stakeBy 10 = .ok (.iload_n 1, 1) := by decide +kernel
theorem dX6_stakeBy_11 : decode cX6_stakeBy 11 = .ok (.iaload, 1) := by decide +kernel
theorem dX6_stakeBy_12 : decode cX6_stakeBy 12 = .ok (.iload_n 3, 1) := by decide +kernel
theorem dX6_stakeBy_13 : decode cX6_stakeBy 13 = .ok (.iload_n 2, 1) := by decide +kernel
theorem dX6_stakeBy_14 : decode cX6_stakeBy 14 = .ok (.isub, 1) := by decide +kernel
theorem dX6_stakeBy_15 : decode cX6_stakeBy 15 = .ok (.imul, 1) := by decide +kernel
theorem dX6_stakeBy_16 : decode cX6_stakeBy 16 = .ok (.isub, 1) := by decide +kernel
theorem dX6_stakeBy_17 : decode cX6_stakeBy 17 = .ok (.istore 4, 2) := by decide +kernel
theorem dX6_stakeBy_19 : decode cX6_stakeBy 19 = .ok (.iload 4, 2) := by decide +kernel
theorem dX6_stakeBy_21 : decode cX6_stakeBy 21 = .ok (.ifCond .ge 7, 3) := by decide +kernel
theorem dX6_stakeBy_24 : decode cX6_stakeBy 24 = .ok (.iconst 0, 1) := by decide +kernel
theorem dX6_stakeBy_25 : decode cX6_stakeBy 25 = .ok (.goto 5, 3) := by decide +kernel
theorem dX6_stakeBy_28 : decode cX6_stakeBy 28 = .ok (.iload 4, 2) := by decide +kernel
theorem dX6_stakeBy_30 : decode cX6_stakeBy 30 = .ok (.istore 4, 2) := by decide +kernel
theorem dX6_stakeBy_32 : decode cX6_stakeBy 32 = .ok (.aload_n 0, 1) := by decide +kernel
theorem dX6_stakeBy_33 : decode cX6_stakeBy 33 = .ok (.getfield 22, 3) := by decide +kernel
theorem dX6_stakeBy_36 : decode cX6_stakeBy 36 = .ok (.iload_n 1, 1) := by decide +kernel
theorem dX6_stakeBy_37 : decode cX6_stakeBy 37 = .ok (.iaload, 1) := by decide +kernel
theorem dX6_stakeBy_38 : decode cX6_stakeBy 38 = .ok (.ifCond .ne 8, 3) := by decide +kernel
theorem dX6_stakeBy_41 : decode cX6_stakeBy 41 = .ok (.iload 4, 2) := by decide +kernel
theorem dX6_stakeBy_43 : decode cX6_stakeBy 43 = .ok (.goto 24, 3) := by decide +kernel
theorem dX6_stakeBy_46 : decode cX6_stakeBy 46 = .ok (.aload_n 0, 1) := by decide +kernel
theorem dX6_stakeBy_47 : decode cX6_stakeBy 47 = .ok (.getfield 22, 3) := by decide +kernel
theorem dX6_stakeBy_50 : decode cX6_stakeBy 50 = .ok (.iload_n 1, 1) := by decide +kernel
theorem dX6_stakeBy_51 : decode cX6_stakeBy 51 = .ok (.iaload, 1) := by decide +kernel
theorem dX6_stakeBy_52 : decode cX6_stakeBy 52 = .ok (.iconst 1, 1) := by decide +kernel
theorem dX6_stakeBy_53 : decode cX6_stakeBy 53 = .ok (.if_icmp .ne 10, 3) := by decide +kernel
theorem dX6_stakeBy_56 : decode cX6_stakeBy 56 = .ok (.iload 4, 2) := by decide +kernel
theorem dX6_stakeBy_58 : decode cX6_stakeBy 58 = .ok (.iconst 2, 1) := by decide +kernel
theorem dX6_stakeBy_59 : decode cX6_stakeBy 59 = .ok (.iadd, 1) := by decide +kernel
theorem dX6_stakeBy_60 : decode cX6_stakeBy 60 = .ok (.goto 7, 3) := by decide +kernel
theorem dX6_stakeBy_63 : decode cX6_stakeBy 63 = .ok (.iload 4, 2) := by decide +kernel
theorem dX6_stakeBy_65 : decode cX6_stakeBy 65 = .ok (.iconst 2, 1) := by decide +kernel
theorem dX6_stakeBy_66 : decode cX6_stakeBy 66 = .ok (.idiv, 1) := by decide +kernel
theorem dX6_stakeBy_67 : decode cX6_stakeBy 67 = .ok (.ireturn, 1) := by decide +kernel
set_option maxRecDepth 20000 in
theorem ggX6_stake_X6_isSon : GoodIn wsX6_stake wsX6_isSon := goodIn_r _ [6, 7, 20, 21, 22, 23, 24, 25, 26, 27, 28, 29, 30, 31, 32, 33, 34, 35, 36, 37, 38, 39, 40, 41, 42, 43, 44, 45, 46] (by decide +kernel) (by decide +kernel)
set_option maxRecDepth 20000 in
theorem gX6_stake_X6_isSon : GoodIn wsX6_stake (wsV RX6 131 RX6 yX6_isSon wsX6_isSon) := goodIn_app (goodIn_of _ (by decide +kernel)) ggX6_stake_X6_isSon
set_option maxRecDepth 20000 in
theorem ggX6_stake_X6_isYear : GoodIn wsX6_stake wsX6_isYear := goodIn_r _ [11, 12, 20, 21, 22, 23, 24, 25, 26, 27, 28, 29, 30, 31, 32, 33, 34, 35, 36, 37, 38, 39, 40, 41, 42, 43, 44, 45, 46] (by decide +kernel) (by decide +kernel)
set_option maxRecDepth 20000 in
theorem gX6_stake_X6_isYear : GoodIn wsX6_stake (wsV RX6 137 RX6 yX6_isYear wsX6_isYear) := goodIn_app (goodIn_of _ (by decide +kernel)) ggX6_stake_X6_isYear
set_option maxRecDepth 20000 in
theorem ggX6_stake_X6_stakeBy : GoodIn wsX6_stake wsX6_stakeBy := goodIn_r _ [16, 17, 18, 19, 20, 21, 22, 23, 24, 25, 26, 27, 28, 29, 30, 31, 32, 33, 34, 35, 36, 37, 38, 39, 40, 41, 42, 43, 44, 45, 46] (by decide +kernel) (by decide +kernel)
set_option maxRecDepth 20000 in
theorem gX6_stake_X6_stakeBy : GoodIn wsX6_stake (wsV RX6 140 RX6 yX6_stakeBy wsX6_stakeBy) := goodIn_app (goodIn_of _ (by decide +kernel)) ggX6_stake_X6_stakeBy
theorem dX6_stake_0 : decode cX6_stake 0 = .ok (.aload_n 0, 1) := by decide +kernel
theorem dX6_stake_1 : decode cX6_stake 1 = .ok (.iload_n 1, 1) := by decide +kernel
theorem dX6_stake_2 : decode cX6_stake 2 = .ok (.invokevirtual 131, 3) := by decide +kernel
theorem dX6_stake_5 : decode cX6_stake 5 = .ok (.ifCond .ne 5, 3) := by decide +kernel
theorem dX6_stake_8 : decode cX6_stake 8 = .ok (.iconst (-1), 1) := by decide +kernel
theorem dX6_stake_9 : decode cX6_stake 9 = .ok (.ireturn, 1) := by decide +kernel
theorem dX6_stake_10 : decode cX6_stake 10 = .ok (.aload_n 0, 1) := by decide +kernel
theorem dX6_stake_11 : decode cX6_stake 11 = .ok (.iload_n 2, 1) := by decide +kernel
theorem dX6_stake_12 : decode cX6_stake 12 = .ok (.invokevirtual 137, 3) := by decide +kernel
theorem dX6_stake_15 : decode cX6_stake 15 = .ok (.ifCond .ne 6, 3) := by decide +kernel
theorem dX6_stake_18 : decode cX6_stake 18 = .ok (.bipush (-2), 2) := by decide +kernel
theorem dX6_stake_20 : decode cX6_stake 20 = .ok (.ireturn, 1) := by decide +kernel
theorem dX6_stake_21 : decode cX6_stake 21 = .ok (.aload_n 0, 1) := by decide +kernel
theorem dX6_stake_22 : decode cX6_stake 22 = .ok (.getfield 37, 3) := by decide +kernel
theorem dX6_stake_25 : decode cX6_stake 25 = .ok (.iload_n 1, 1) := by decide +kernel
theorem dX6_stake_26 : decode cX6_stake 26 = .ok (.iaload, 1) := by decide +kernel
theorem dX6_stake_27 : decode cX6_stake 27 = .ok (.bipush (-9), 2) := by decide +kernel
theorem dX6_stake_29 : decode cX6_stake 29 = .ok (.if_icmp .eq 13, 3) := by decide +kernel
theorem dX6_stake_32 : decode cX6_stake 32 = .ok (.aload_n 0, 1) := by decide +kernel
theorem dX6_stake_33 : decode cX6_stake 33 = .ok (.getfield 37, 3) := by decide +kernel
theorem dX6_stake_36 : decode cX6_stake 36 = .ok (.iload_n 1, 1) := by decide +kernel
theorem dX6_stake_37 : decode cX6_stake 37 = .ok (.iaload, 1) := by decide +kernel
theorem dX6_stake_38 : decode cX6_stake 38 = .ok (.iload_n 2, 1) := by decide +kernel
theorem dX6_stake_39 : decode cX6_stake 39 = .ok (.if_icmp .le 8, 3) := by decide +kernel
theorem dX6_stake_42 : decode cX6_stake 42 = .ok (.bipush (-9), 2) := by decide +kernel
theorem dX6_stake_44 : decode cX6_stake 44 = .ok (.goto 15, 3) := by decide +kernel
theorem dX6_stake_47 : decode cX6_stake 47 = .ok (.aload_n 0, 1) := by decide +kernel
theorem dX6_stake_48 : decode cX6_stake 48 = .ok (.iload_n 1, 1) := by decide +kernel
theorem dX6_stake_49 : decode cX6_stake 49 = .ok (.aload_n 0, 1) := by decide +kernel
theorem dX6_stake_50 : decode cX6_stake 50 = .ok (.getfield 37, 3) := by decide +kernel
theorem dX6_stake_53 : decode cX6_stake 53 = .ok (.iload_n 1, 1) := by decide +kernel
theorem dX6_stake_54 : decode cX6_stake 54 = .ok (.iaload, 1) := by decide +kernel
theorem dX6_stake_55 : decode cX6_stake 55 = .ok (.iload_n 2, 1) := by decide +kernel
theorem dX6_stake_56 : decode cX6_stake 56 = .ok (.invokevirtual 140, 3) := by decide +kernel
theorem dX6_stake_59 : decode cX6_stake 59 = .ok (.ireturn, 1) := by decide +kernel
theorem dX6_askNow_0 : decode cX6_askNow 0 = .ok (.iconst 0, 1) := by decide +kernel
theorem dX6_askNow_1 : decode cX6_askNow 1 = .ok (.istore_n 1, 1) := by decide +kernel
theorem dX6_askNow_2 : decode cX6_askNow 2 = .ok (.iload_n 1, 1) := by decide +kernel
theorem dX6_askNow_3 : decode cX6_askNow 3 = .ok (.aload_n 0, 1) := by decide +kernel
theorem dX6_askNow_4 : decode cX6_askNow 4 = .ok (.getfield 78, 3) := by decide +kernel
theorem dX6_askNow_7 : decode cX6_askNow 7 = .ok (.if_icmp .ge 39, 3) := by decide +kernel
theorem dX6_askNow_10 : decode cX6_askNow 10 = .ok (.aload_n 0, 1) := by decide +kernel
theorem dX6_askNow_11 : decode cX6_askNow 11 = .ok (.getfield 46, 3) := by decide +kernel
theorem dX6_askNow_14 : decode cX6_askNow 14 = .ok (.iload_n 1, 1) := by decide +kernel
theorem dX6_askNow_15 : decode cX6_askNow 15 = .ok (.aload_n 0, 1) := by decide +kernel
theorem dX6_askNow_16 : decode cX6_askNow 16 = .ok (.getfield 37, 3) := by decide +kernel
theorem dX6_askNow_19 : decode cX6_askNow 19 = .ok (.iload_n 1, 1) := by decide +kernel
theorem dX6_askNow_20 : decode cX6_askNow 20 = .ok (.iaload, 1) := by decide +kernel
theorem dX6_askNow_21 : decode cX6_askNow 21 = .ok (.bipush (-9), 2) := by decide +kernel
theorem dX6_askNow_23 : decode cX6_askNow 23 = .ok (.if_icmp .ne 10, 3) := by decide +kernel
theorem dX6_askNow_26 : decode cX6_askNow 26 = .ok (.aload_n 0, 1) := by decide +kernel
theorem dX6_askNow_27 : decode cX6_askNow 27 = .ok (.getfield 75, 3) := by decide +kernel
theorem dX6_askNow_30 : decode cX6_askNow 30 = .ok (.goto 9, 3) := by decide +kernel
theorem dX6_askNow_33 : decode cX6_askNow 33 = .ok (.aload_n 0, 1) := by decide +kernel
theorem dX6_askNow_34 : decode cX6_askNow 34 = .ok (.getfield 37, 3) := by decide +kernel
theorem dX6_askNow_37 : decode cX6_askNow 37 = .ok (.iload_n 1, 1) := by decide +kernel
theorem dX6_askNow_38 : decode cX6_askNow 38 = .ok (.iaload, 1) := by decide +kernel
theorem dX6_askNow_39 : decode cX6_askNow 39 = .ok (.iastore, 1) := by decide +kernel
theorem dX6_askNow_40 : decode cX6_askNow 40 = .ok (.iinc 1 1, 3) := by decide +kernel
theorem dX6_askNow_43 : decode cX6_askNow 43 = .ok (.goto (-41), 3) := by decide +kernel
theorem dX6_askNow_46 : decode cX6_askNow 46 = .ok (.return_, 1) := by decide +kernel
set_option maxRecDepth 20000 in
theorem ggX6_stakesBy_X6_stakeBy : GoodIn wsX6_stakesBy wsX6_stakeBy := goodIn_r _ [8, 9, 10, 11, 12, 13, 14, 15, 16, 17, 18, 19, 20, 21, 22, 23, 24, 25, 26, 27, 28, 29, 30, 31, 32, 33, 34, 35, 36, 37, 38] (by decide +kernel) (by decide +kernel)
set_option maxRecDepth 20000 in
theorem gX6_stakesBy_X6_stakeBy : GoodIn wsX6_stakesBy (wsV RX6 140 RX6 yX6_stakeBy wsX6_stakeBy) := goodIn_app (goodIn_of _ (by decide +kernel)) ggX6_stakesBy_X6_stakeBy
theorem dX6_stakesBy_0 : decode cX6_stakesBy 0 = .ok (.iconst 0, 1) := by decide +kernel
theorem dX6_stakesBy_1 : decode cX6_stakesBy 1 = .ok (.istore_n 3, 1) := by decide +kernel
theorem dX6_stakesBy_2 : decode cX6_stakesBy 2 = .ok (.iconst 0, 1) := by decide +kernel
theorem dX6_stakesBy_3 : decode cX6_stakesBy 3 = .ok (.istore 4, 2) := by decide +kernel
theorem dX6_stakesBy_5 : decode cX6_stakesBy 5 = .ok (.iload 4, 2) := by decide +kernel
theorem dX6_stakesBy_7 : decode cX6_stakesBy 7 = .ok (.aload_n 0, 1) := by decide +kernel
theorem dX6_stakesBy_8 : decode cX6_stakesBy 8 = .ok (.getfield 78, 3) := by decide +kernel
theorem dX6_stakesBy_11 : decode cX6_stakesBy 11 = .ok (.if_icmp .ge 52, 3) := by decide +kernel
theorem dX6_stakesBy_14 : decode cX6_stakesBy 14 = .ok (.iload_n 3, 1) := by decide +kernel
theorem dX6_stakesBy_15 : decode cX6_stakesBy 15 = .ok (.aload_n 0, 1) := by decide +kernel
theorem dX6_stakesBy_16 : decode cX6_stakesBy 16 = .ok (.getfield 25, 3) := by decide +kernel
theorem dX6_stakesBy_19 : decode cX6_stakesBy 19 = .ok (.iload 4, 2) := by decide +kernel
theorem dX6_stakesBy_21 : decode cX6_stakesBy 21 = .ok (.iaload, 1) := by decide +kernel
theorem dX6_stakesBy_22 : decode cX6_stakesBy 22 = .ok (.iload_n 1, 1) := by decide +kernel
theorem dX6_stakesBy_23 : decode cX6_stakesBy 23 = .ok (.if_icmp .ne 31, 3) := by decide +kernel
theorem dX6_stakesBy_26 : decode cX6_stakesBy 26 = .ok (.aload_n 0, 1) := by decide +kernel
theorem dX6_stakesBy_27 : decode cX6_stakesBy 27 = .ok (.getfield 46, 3) := by decide +kernel
theorem dX6_stakesBy_30 : decode cX6_stakesBy 30 = .ok (.iload 4, 2) := by decide +kernel
theorem dX6_stakesBy_32 : decode cX6_stakesBy 32 = .ok (.iaload, 1) := by decide +kernel
theorem dX6_stakesBy_33 : decode cX6_stakesBy 33 = .ok (.iload_n 2, 1) := by decide +kernel
theorem dX6_stakesBy_34 : decode cX6_stakesBy 34 = .ok (.if_icmp .gt 20, 3) := by decide +kernel
theorem dX6_stakesBy_37 : decode cX6_stakesBy 37 = .ok (.aload_n 0, 1) := by decide +kernel
theorem dX6_stakesBy_38 : decode cX6_stakesBy 38 = .ok (.iload 4, 2) := by decide +kernel
theorem dX6_stakesBy_40 : decode cX6_stakesBy 40 = .ok (.aload_n 0, 1) := by decide +kernel
theorem dX6_stakesBy_41 : decode cX6_stakesBy 41 = .ok (.getfield 46, 3) := by decide +kernel
theorem dX6_stakesBy_44 : decode cX6_stakesBy 44 = .ok (.iload 4, 2) := by decide +kernel
theorem dX6_stakesBy_46 : decode cX6_stakesBy 46 = .ok (.iaload, 1) := by decide +kernel
theorem dX6_stakesBy_47 : decode cX6_stakesBy 47 = .ok (.iload_n 2, 1) := by decide +kernel
theorem dX6_stakesBy_48 : decode cX6_stakesBy 48 = .ok (.invokevirtual 140, 3) := by decide +kernel
theorem dX6_stakesBy_51 : decode cX6_stakesBy 51 = .ok (.goto 4, 3) := by decide +kernel
theorem dX6_stakesBy_54 : decode cX6_stakesBy 54 = .ok (.iconst 0, 1) := by decide +kernel
theorem dX6_stakesBy_55 : decode cX6_stakesBy 55 = .ok (.iadd, 1) := by decide +kernel
theorem dX6_stakesBy_56 : decode cX6_stakesBy 56 = .ok (.istore_n 3, 1) := by decide +kernel
theorem dX6_stakesBy_57 : decode cX6_stakesBy 57 = .ok (.iinc 4 1, 3) := by decide +kernel
theorem dX6_stakesBy_60 : decode cX6_stakesBy 60 = .ok (.goto (-55), 3) := by decide +kernel
theorem dX6_stakesBy_63 : decode cX6_stakesBy 63 = .ok (.iload_n 3, 1) := by decide +kernel
theorem dX6_stakesBy_64 : decode cX6_stakesBy 64 = .ok (.ireturn, 1) := by decide +kernel
set_option maxRecDepth 20000 in
theorem ggX6_isTempted_X6_stakesBy : GoodIn wsX6_isTempted wsX6_stakesBy := goodIn_r _ [6, 7, 8, 9, 10, 11, 12, 5, 13, 14, 15, 16, 17, 18, 19, 20, 21, 22, 23, 24, 25, 26, 27, 28, 29, 30, 31, 32, 33, 34, 35, 36, 37, 38, 39, 40, 41, 42, 43] (by decide +kernel) (by decide +kernel)
set_option maxRecDepth 20000 in
theorem gX6_isTempted_X6_stakesBy : GoodIn wsX6_isTempted (wsV RX6 143 RX6 yX6_stakesBy wsX6_stakesBy) := goodIn_app (goodIn_of _ (by decide +kernel)) ggX6_isTempted_X6_stakesBy
theorem dX6_isTempted_0 : decode cX6_isTempted 0 = .ok (.aload_n 0, 1) := by decide +kernel
theorem dX6_isTempted_1 : decode cX6_isTempted 1 = .ok (.getfield 19, 3) := by decide +kernel
theorem dX6_isTempted_4 : decode cX6_isTempted 4 = .ok (.bipush 6, 2) := by decide +kernel
theorem dX6_isTempted_6 : decode cX6_isTempted 6 = .ok (.iload_n 1, 1) := by decide +kernel
theorem dX6_isTempted_7 : decode cX6_isTempted 7 = .ok (.imul, 1) := by decide +kernel
theorem dX6_isTempted_8 : decode cX6_isTempted 8 = .ok (.iload_n 2, 1) := by decide +kernel
theorem dX6_isTempted_9 : decode cX6_isTempted 9 = .ok (.iadd, 1) := by decide +kernel
theorem dX6_isTempted_10 : decode cX6_isTempted 10 = .ok (.iaload, 1) := by decide +kernel
theorem dX6_isTempted_11 : decode cX6_isTempted 11 = .ok (.aload_n 0, 1) := by decide +kernel
theorem dX6_isTempted_12 : decode cX6_isTempted 12 = .ok (.iload_n 1, 1) := by decide +kernel
theorem dX6_isTempted_13 : decode cX6_isTempted 13 = .ok (.iload_n 2, 1) := by decide +kernel
theorem dX6_isTempted_14 : decode cX6_isTempted 14 = .ok (.invokevirtual 143, 3) := by decide +kernel
theorem dX6_isTempted_17 : decode cX6_isTempted 17 = .ok (.if_icmp .le 7, 3) := by decide +kernel
theorem dX6_isTempted_20 : decode cX6_isTempted 20 = .ok (.iconst 1, 1) := by decide +kernel
theorem dX6_isTempted_21 : decode cX6_isTempted 21 = .ok (.goto 4, 3) := by decide +kernel
theorem dX6_isTempted_24 : decode cX6_isTempted 24 = .ok (.iconst 0, 1) := by decide +kernel
theorem dX6_isTempted_25 : decode cX6_isTempted 25 = .ok (.ireturn, 1) := by decide +kernel
set_option maxRecDepth 20000 in
theorem ggX6_stakes_X6_isCourt : GoodIn wsX6_stakes wsX6_isCourt := goodIn_r _ [5, 6, 31, 32, 33, 34, 35, 36, 37, 38, 39, 40, 41, 42, 43, 44, 45, 46, 47, 48, 49, 50, 51, 52, 53, 54, 55, 56, 57] (by decide +kernel) (by decide +kernel)
set_option maxRecDepth 20000 in
theorem gX6_stakes_X6_isCourt : GoodIn wsX6_stakes (wsV RX6 134 RX6 yX6_isCourt wsX6_isCourt) := goodIn_app (goodIn_of _ (by decide +kernel)) ggX6_stakes_X6_isCourt
set_option maxRecDepth 20000 in
theorem ggX6_stakes_X6_isYear : GoodIn wsX6_stakes wsX6_isYear := goodIn_r _ [10, 11, 31, 32, 33, 34, 35, 36, 37, 38, 39, 40, 41, 42, 43, 44, 45, 46, 47, 48, 49, 50, 51, 52, 53, 54, 55, 56, 57] (by decide +kernel) (by decide +kernel)
set_option maxRecDepth 20000 in
theorem gX6_stakes_X6_isYear : GoodIn wsX6_stakes (wsV RX6 137 RX6 yX6_isYear wsX6_isYear) := goodIn_app (goodIn_of _ (by decide +kernel)) ggX6_stakes_X6_isYear
set_option maxRecDepth 20000 in
theorem ggX6_stakes_X6_askNow : GoodIn wsX6_stakes wsX6_askNow := goodIn_r _ [15, 16, 17, 18, 11, 31, 32, 33, 34, 35, 36, 37, 38, 39, 40, 41, 42, 43, 44, 45, 46, 47, 48, 49, 50, 51, 52, 53, 54, 55, 56, 57] (by decide +kernel) (by decide +kernel)
set_option maxRecDepth 20000 in
theorem gX6_stakes_X6_askNow : GoodIn wsX6_stakes (wsV RX6 147 RX6 yX6_askNow wsX6_askNow) := goodIn_app (goodIn_of _ (by decide +kernel)) ggX6_stakes_X6_askNow
set_option maxRecDepth 20000 in
theorem ggX6_stakes_X6_stakesBy : GoodIn wsX6_stakes wsX6_stakesBy := goodIn_r _ [22, 16, 23, 17, 24, 25, 26, 4, 27, 28, 29, 30, 31, 32, 33, 34, 35, 36, 37, 38, 39, 40, 41, 42, 43, 44, 45, 46, 47, 48, 49, 50, 51, 52, 53, 54, 55, 56, 57] (by decide +kernel) (by decide +kernel)
set_option maxRecDepth 20000 in
theorem gX6_stakes_X6_stakesBy : GoodIn wsX6_stakes (wsV RX6 143 RX6 yX6_stakesBy wsX6_stakesBy) := goodIn_app (goodIn_of _ (by decide +kernel)) ggX6_stakes_X6_stakesBy
theorem dX6_stakes_0 : decode cX6_stakes 0 = .ok (.aload_n 0, 1) := by decide +kernel
theorem dX6_stakes_1 : decode cX6_stakes 1 = .ok (.iload_n 1, 1) := by decide +kernel
theorem dX6_stakes_2 : decode cX6_stakes 2 = .ok (.invokevirtual 134, 3) := by decide +kernel
theorem dX6_stakes_5 : decode cX6_stakes 5 = .ok (.ifCond .ne 5, 3) := by decide +kernel
theorem dX6_stakes_8 : decode cX6_stakes 8 = .ok (.iconst (-1), 1) := by decide +kernel
theorem dX6_stakes_9 : decode cX6_stakes 9 = .ok (.ireturn, 1) := by decide +kernel
theorem dX6_stakes_10 : decode cX6_stakes 10 = .ok (.aload_n 0, 1) := by decide +kernel
theorem dX6_stakes_11 : decode cX6_stakes 11 = .ok (.iload_n 2, 1) := by decide +kernel
theorem dX6_stakes_12 : decode cX6_stakes 12 = .ok (.invokevirtual 137, 3) := by decide +kernel
theorem dX6_stakes_15 : decode cX6_stakes 15 = .ok (.ifCond .ne 6, 3) := by decide +kernel
theorem dX6_stakes_18 : decode cX6_stakes 18 = .ok (.bipush (-2), 2) := by decide +kernel
theorem dX6_stakes_20 : decode cX6_stakes 20 = .ok (.ireturn, 1) := by decide +kernel
theorem dX6_stakes_21 : decode cX6_stakes 21 = .ok (.aload_n 0, 1) := by decide +kernel
theorem dX6_stakes_22 : decode cX6_stakes 22 = .ok (.invokevirtual 147, 3) := by decide +kernel
theorem dX6_stakes_25 : decode cX6_stakes 25 = .ok (.aload_n 0, 1) := by decide +kernel
theorem dX6_stakes_26 : decode cX6_stakes 26 = .ok (.iload_n 1, 1) := by decide +kernel
theorem dX6_stakes_27 : decode cX6_stakes 27 = .ok (.iload_n 2, 1) := by decide +kernel
theorem dX6_stakes_28 : decode cX6_stakes 28 = .ok (.invokevirtual 143, 3) := by decide +kernel
theorem dX6_stakes_31 : decode cX6_stakes 31 = .ok (.ireturn, 1) := by decide +kernel
set_option maxRecDepth 20000 in
theorem ggX6_temptedSet_X6_isTempted : GoodIn wsX6_temptedSet wsX6_isTempted := goodIn_r _ [6, 7, 8, 9, 10, 5, 11, 12, 13, 14, 15, 16, 17, 18, 19, 20, 21, 22, 23, 24, 25, 26, 27, 28, 29, 30, 31, 32, 33, 34, 35, 36, 37, 38, 39, 40, 41, 42, 43, 44, 45, 46, 47, 48] (by decide +kernel) (by decide +kernel)
set_option maxRecDepth 20000 in
theorem gX6_temptedSet_X6_isTempted : GoodIn wsX6_temptedSet (wsV RX6 150 RX6 yX6_isTempted wsX6_isTempted) := goodIn_app (goodIn_of _ (by decide +kernel)) ggX6_temptedSet_X6_isTempted
theorem dX6_temptedSet_0 : decode cX6_temptedSet 0 = .ok (.iconst 0, 1) := by decide +kernel
theorem dX6_temptedSet_1 : decode cX6_temptedSet 1 = .ok (.istore_n 2, 1) := by decide +kernel
theorem dX6_temptedSet_2 : decode cX6_temptedSet 2 = .ok (.iconst 0, 1) := by decide +kernel
theorem dX6_temptedSet_3 : decode cX6_temptedSet 3 = .ok (.istore_n 3, 1) := by decide +kernel
theorem dX6_temptedSet_4 : decode cX6_temptedSet 4 = .ok (.iload_n 3, 1) := by decide +kernel
theorem dX6_temptedSet_5 : decode cX6_temptedSet 5 = .ok (.aload_n 0, 1) := by decide +kernel
theorem dX6_temptedSet_6 : decode cX6_temptedSet 6 = .ok (.getfield 72, 3) := by decide +kernel
theorem dX6_temptedSet_9 : decode cX6_temptedSet 9 = .ok (.if_icmp .ge 28, 3) := by decide +kernel
theorem dX6_temptedSet_12 : decode cX6_temptedSet 12 = .ok (.iload_n 2, 1) := by decide +kernel
theorem dX6_temptedSet_13 : decode cX6_temptedSet 13 = .ok (.aload_n 0, 1) := by decide +kernel
theorem dX6_temptedSet_14 : decode cX6_temptedSet 14 = .ok (.iload_n 3, 1) := by decide +kernel
theorem dX6_temptedSet_15 : decode cX6_temptedSet 15 = .ok (.iload_n 1, 1) := by decide +kernel
theorem dX6_temptedSet_16 : decode cX6_temptedSet 16 = .ok (.invokevirtual 150, 3) := by decide +kernel
theorem dX6_temptedSet_19 : decode cX6_temptedSet 19 = .ok (.ifCond .eq 9, 3) := by decide +kernel
theorem dX6_temptedSet_22 : decode cX6_temptedSet 22 = .ok (.iconst 1, 1) := by decide +kernel
theorem dX6_temptedSet_23 : decode cX6_temptedSet 23 = .ok (.iload_n 3, 1) := by decide +kernel
theorem dX6_temptedSet_24 : decode cX6_temptedSet 24 = .ok (.ishl, 1) := by decide +kernel
theorem dX6_temptedSet_25 : decode cX6_temptedSet 25 = .ok (.goto 4, 3) := by decide +kernel
theorem dX6_temptedSet_28 : decode cX6_temptedSet 28 = .ok (.iconst 0, 1) := by decide +kernel
theorem dX6_temptedSet_29 : decode cX6_temptedSet 29 = .ok (.ior, 1) := by decide +kernel
theorem dX6_temptedSet_30 : decode cX6_temptedSet 30 = .ok (.istore_n 2, 1) := by decide +kernel
theorem dX6_temptedSet_31 : decode cX6_temptedSet 31 = .ok (.iinc 3 1, 3) := by decide +kernel
theorem dX6_temptedSet_34 : decode cX6_temptedSet 34 = .ok (.goto (-30), 3) := by decide +kernel
theorem dX6_temptedSet_37 : decode cX6_temptedSet 37 = .ok (.iload_n 2, 1) := by decide +kernel
theorem dX6_temptedSet_38 : decode cX6_temptedSet 38 = .ok (.ireturn, 1) := by decide +kernel
set_option maxRecDepth 20000 in
theorem ggX6_tempted_X6_isYear : GoodIn wsX6_tempted wsX6_isYear := goodIn_r _ [6, 7, 36, 37, 38, 39, 40, 41, 42, 43, 44, 45, 46, 47, 48, 49, 50, 51, 52, 53, 54, 55, 56, 57, 58, 59, 60, 61, 62] (by decide +kernel) (by decide +kernel)
set_option maxRecDepth 20000 in
theorem gX6_tempted_X6_isYear : GoodIn wsX6_tempted (wsV RX6 137 RX6 yX6_isYear wsX6_isYear) := goodIn_app (goodIn_of _ (by decide +kernel)) ggX6_tempted_X6_isYear
set_option maxRecDepth 20000 in
theorem ggX6_tempted_X6_askNow : GoodIn wsX6_tempted wsX6_askNow := goodIn_r _ [11, 12, 13, 14, 7, 36, 37, 38, 39, 40, 41, 42, 43, 44, 45, 46, 47, 48, 49, 50, 51, 52, 53, 54, 55, 56, 57, 58, 59, 60, 61, 62] (by decide +kernel) (by decide +kernel)
set_option maxRecDepth 20000 in
theorem gX6_tempted_X6_askNow : GoodIn wsX6_tempted (wsV RX6 147 RX6 yX6_askNow wsX6_askNow) := goodIn_app (goodIn_of _ (by decide +kernel)) ggX6_tempted_X6_askNow
set_option maxRecDepth 20000 in
theorem ggX6_tempted_X6_temptedSet : GoodIn wsX6_tempted wsX6_temptedSet := goodIn_r _ [18, 1, 19, 20, 21, 5, 22, 23, 24, 25, 26, 27, 12, 28, 13, 29, 30, 31, 32, 33, 34, 35, 36, 37, 38, 39, 40, 41, 42, 43, 44, 45, 46, 47, 48, 49, 50, 51, 52, 53, 54, 55, 56, 57, 58, 59, 60, 61, 62] (by decide +kernel) (by decide +kernel)
set_option maxRecDepth 20000 in
theorem gX6_tempted_X6_temptedSet : GoodIn wsX6_tempted (wsV RX6 153 RX6 yX6_temptedSet wsX6_temptedSet) := goodIn_app (goodIn_of _ (by decide +kernel)) ggX6_tempted_X6_temptedSet
theorem dX6_tempted_0 : decode cX6_tempted 0 = .ok (.aload_n 0, 1) := by decide +kernel
theorem dX6_tempted_1 : decode cX6_tempted 1 = .ok (.getfield 72, 3) := by decide +kernel
end
section
theorem dX6_tempted_4 : decode cX6_tempted 4 = .ok (.ifCond .ne 6, 3) := by decide +kernel
theorem dX6_tempted_7 : decode cX6_tempted 7 = .ok (.bipush (-3), 2) := by decide +kernel
theorem dX6_tempted_9 : decode cX6_tempted 9 = .ok (.ireturn, 1) := by decide +kernel
theorem dX6_tempted_10 : decode cX6_tempted 10 = .ok (.aload_n 0, 1) := by decide +kernel
theorem dX6_tempted_11 : decode cX6_tempted 11 = .ok (.iload_n 1, 1) := by decide +kernel
theorem dX6_tempted_12 : decode cX6_tempted 12 = .ok (.invokevirtual 137, 3) := by decide +kernel
theorem dX6_tempted_15 : decode cX6_tempted 15 = .ok (.ifCond .ne 6, 3) := by decide +kernel
theorem dX6_tempted_18 : decode cX6_tempted 18 = .ok (.bipush (-2), 2) := by decide +kernel
theorem dX6_tempted_20 : decode cX6_tempted 20 = .ok (.ireturn, 1) := by decide +kernel
theorem dX6_tempted_21 : decode cX6_tempted 21 = .ok (.aload_n 0, 1) := by decide +kernel
theorem dX6_tempted_22 : decode cX6_tempted 22 = .ok (.invokevirtual 147, 3) := by decide +kernel
theorem dX6_tempted_25 : decode cX6_tempted 25 = .ok (.aload_n 0, 1) := by decide +kernel
theorem dX6_tempted_26 : decode cX6_tempted 26 = .ok (.iload_n 1, 1) := by decide +kernel
theorem dX6_tempted_27 : decode cX6_tempted 27 = .ok (.invokevirtual 153, 3) := by decide +kernel
theorem dX6_tempted_30 : decode cX6_tempted 30 = .ok (.ireturn, 1) := by decide +kernel
set_option maxRecDepth 20000 in
theorem ggX6_breakYear_X6_temptedSet : GoodIn wsX6_breakYear wsX6_temptedSet := goodIn_r _ [6, 7, 8, 9, 10, 5, 11, 12, 13, 14, 15, 16, 17, 18, 19, 20, 21, 22, 23, 24, 25, 26, 27, 28, 29, 30, 31, 32, 33, 34, 35, 36, 37, 38, 39, 40, 41, 42, 43, 44, 45, 46, 47, 48, 49, 50, 51, 52, 53] (by decide +kernel) (by decide +kernel)
set_option maxRecDepth 20000 in
theorem gX6_breakYear_X6_temptedSet : GoodIn wsX6_breakYear (wsV RX6 153 RX6 yX6_temptedSet wsX6_temptedSet) := goodIn_app (goodIn_of _ (by decide +kernel)) ggX6_breakYear_X6_temptedSet
theorem dX6_breakYear_0 : decode cX6_breakYear 0 = .ok (.iconst 0, 1) := by decide +kernel
theorem dX6_breakYear_1 : decode cX6_breakYear 1 = .ok (.istore_n 1, 1) := by decide +kernel
theorem dX6_breakYear_2 : decode cX6_breakYear 2 = .ok (.iload_n 1, 1) := by decide +kernel
theorem dX6_breakYear_3 : decode cX6_breakYear 3 = .ok (.aload_n 0, 1) := by decide +kernel
theorem dX6_breakYear_4 : decode cX6_breakYear 4 = .ok (.getfield 75, 3) := by decide +kernel
theorem dX6_breakYear_7 : decode cX6_breakYear 7 = .ok (.if_icmp .ge 19, 3) := by decide +kernel
theorem dX6_breakYear_10 : decode cX6_breakYear 10 = .ok (.aload_n 0, 1) := by decide +kernel
theorem dX6_breakYear_11 : decode cX6_breakYear 11 = .ok (.iload_n 1, 1) := by decide +kernel
theorem dX6_breakYear_12 : decode cX6_breakYear 12 = .ok (.invokevirtual 153, 3) := by decide +kernel
theorem dX6_breakYear_15 : decode cX6_breakYear 15 = .ok (.ifCond .eq 5, 3) := by decide +kernel
theorem dX6_breakYear_18 : decode cX6_breakYear 18 = .ok (.iload_n 1, 1) := by decide +kernel
theorem dX6_breakYear_19 : decode cX6_breakYear 19 = .ok (.ireturn, 1) := by decide +kernel
theorem dX6_breakYear_20 : decode cX6_breakYear 20 = .ok (.iinc 1 1, 3) := by decide +kernel
theorem dX6_breakYear_23 : decode cX6_breakYear 23 = .ok (.goto (-21), 3) := by decide +kernel
theorem dX6_breakYear_26 : decode cX6_breakYear 26 = .ok (.bipush (-9), 2) := by decide +kernel
theorem dX6_breakYear_28 : decode cX6_breakYear 28 = .ok (.ireturn, 1) := by decide +kernel
set_option maxRecDepth 20000 in
theorem ggX6_breakCourt_X6_breakYear : GoodIn wsX6_breakCourt wsX6_breakYear := goodIn_r _ [6, 7, 8, 9, 10, 5, 11, 1, 12, 13, 14, 15, 16, 17, 18, 19, 20, 21, 22, 23, 24, 25, 26, 27, 28, 29, 30, 31, 32, 33, 34, 35, 36, 37, 38, 39, 40, 41, 42, 43, 44, 45, 46, 47, 48, 49, 50, 51, 52, 53, 54, 55, 56, 57] (by decide +kernel) (by decide +kernel)
set_option maxRecDepth 20000 in
theorem gX6_breakCourt_X6_breakYear : GoodIn wsX6_breakCourt (wsV RX6 156 RX6 yX6_breakYear wsX6_breakYear) := goodIn_app (goodIn_of _ (by decide +kernel)) ggX6_breakCourt_X6_breakYear
set_option maxRecDepth 20000 in
theorem ggX6_breakCourt_X6_isTempted : GoodIn wsX6_breakCourt wsX6_isTempted := goodIn_r _ [15, 16, 17, 18, 19, 5, 20, 21, 22, 23, 24, 25, 26, 27, 28, 29, 30, 31, 32, 33, 34, 35, 36, 37, 38, 39, 40, 41, 42, 43, 44, 45, 46, 47, 48, 49, 50, 51, 52, 53, 54, 55, 56, 57] (by decide +kernel) (by decide +kernel)
set_option maxRecDepth 20000 in
theorem gX6_breakCourt_X6_isTempted : GoodIn wsX6_breakCourt (wsV RX6 150 RX6 yX6_isTempted wsX6_isTempted) := goodIn_app (goodIn_of _ (by decide +kernel)) ggX6_breakCourt_X6_isTempted
theorem dX6_breakCourt_0 : decode cX6_breakCourt 0 = .ok (.aload_n 0, 1) := by decide +kernel
theorem dX6_breakCourt_1 : decode cX6_breakCourt 1 = .ok (.invokevirtual 156, 3) := by decide +kernel
theorem dX6_breakCourt_4 : decode cX6_breakCourt 4 = .ok (.istore_n 1, 1) := by decide +kernel
theorem dX6_breakCourt_5 : decode cX6_breakCourt 5 = .ok (.iconst 0, 1) := by decide +kernel
theorem dX6_breakCourt_6 : decode cX6_breakCourt 6 = .ok (.istore_n 2, 1) := by decide +kernel
theorem dX6_breakCourt_7 : decode cX6_breakCourt 7 = .ok (.iload_n 2, 1) := by decide +kernel
theorem dX6_breakCourt_8 : decode cX6_breakCourt 8 = .ok (.aload_n 0, 1) := by decide +kernel
theorem dX6_breakCourt_9 : decode cX6_breakCourt 9 = .ok (.getfield 72, 3) := by decide +kernel
theorem dX6_breakCourt_12 : decode cX6_breakCourt 12 = .ok (.if_icmp .ge 26, 3) := by decide +kernel
theorem dX6_breakCourt_15 : decode cX6_breakCourt 15 = .ok (.iload_n 1, 1) := by decide +kernel
theorem dX6_breakCourt_16 : decode cX6_breakCourt 16 = .ok (.bipush (-9), 2) := by decide +kernel
theorem dX6_breakCourt_18 : decode cX6_breakCourt 18 = .ok (.if_icmp .eq 20, 3) := by decide +kernel
theorem dX6_breakCourt_21 : decode cX6_breakCourt 21 = .ok (.aload_n 0, 1) := by decide +kernel
theorem dX6_breakCourt_22 : decode cX6_breakCourt 22 = .ok (.iload_n 2, 1) := by decide +kernel
theorem dX6_breakCourt_23 : decode cX6_breakCourt 23 = .ok (.iload_n 1, 1) := by decide +kernel
theorem dX6_breakCourt_24 : decode cX6_breakCourt 24 = .ok (.invokevirtual 150, 3) := by decide +kernel
theorem dX6_breakCourt_27 : decode cX6_breakCourt 27 = .ok (.ifCond .eq 5, 3) := by decide +kernel
theorem dX6_breakCourt_30 : decode cX6_breakCourt 30 = .ok (.iload_n 2, 1) := by decide +kernel
theorem dX6_breakCourt_31 : decode cX6_breakCourt 31 = .ok (.ireturn, 1) := by decide +kernel
theorem dX6_breakCourt_32 : decode cX6_breakCourt 32 = .ok (.iinc 2 1, 3) := by decide +kernel
theorem dX6_breakCourt_35 : decode cX6_breakCourt 35 = .ok (.goto (-28), 3) := by decide +kernel
theorem dX6_breakCourt_38 : decode cX6_breakCourt 38 = .ok (.bipush (-9), 2) := by decide +kernel
theorem dX6_breakCourt_40 : decode cX6_breakCourt 40 = .ok (.ireturn, 1) := by decide +kernel
set_option maxRecDepth 20000 in
theorem ggX6_broken_X6_within : GoodIn wsX6_broken wsX6_within := goodIn_r _ [5] (by decide +kernel) (by decide +kernel)
set_option maxRecDepth 20000 in
theorem gX6_broken_X6_within : GoodIn wsX6_broken (va_wsS RX6 68 yX6_within wsX6_within) := goodIn_app (goodIn_of _ (by decide +kernel)) ggX6_broken_X6_within
set_option maxRecDepth 20000 in
theorem ggX6_broken_X6_askNow : GoodIn wsX6_broken wsX6_askNow := goodIn_r _ [9, 10, 11, 12, 13, 43, 44, 45, 46, 47, 48, 49, 50, 51, 52, 53, 54, 55, 56, 57, 58, 59, 60, 61, 62, 63, 64, 65, 66, 67, 68, 69] (by decide +kernel) (by decide +kernel)
set_option maxRecDepth 20000 in
theorem gX6_broken_X6_askNow : GoodIn wsX6_broken (wsV RX6 147 RX6 yX6_askNow wsX6_askNow) := goodIn_app (goodIn_of _ (by decide +kernel)) ggX6_broken_X6_askNow
set_option maxRecDepth 20000 in
theorem ggX6_broken_X6_breakYear : GoodIn wsX6_broken wsX6_breakYear := goodIn_r _ [17, 13, 18, 19, 20, 4, 21, 1, 22, 23, 24, 25, 26, 27, 28, 29, 30, 10, 31, 11, 32, 33, 34, 35, 36, 37, 38, 43, 44, 45, 46, 47, 48, 49, 50, 51, 52, 53, 54, 55, 56, 57, 58, 59, 60, 61, 62, 63, 64, 65, 66, 67, 68, 69] (by decide +kernel) (by decide +kernel)
set_option maxRecDepth 20000 in
theorem gX6_broken_X6_breakYear : GoodIn wsX6_broken (wsV RX6 156 RX6 yX6_breakYear wsX6_breakYear) := goodIn_app (goodIn_of _ (by decide +kernel)) ggX6_broken_X6_breakYear
set_option maxRecDepth 20000 in
theorem ggX6_broken_X6_breakCourt : GoodIn wsX6_broken wsX6_breakCourt := goodIn_r _ [42, 1, 14, 15, 16, 4, 17, 13, 18, 19, 20, 21, 22, 23, 24, 25, 26, 27, 28, 29, 30, 10, 31, 11, 32, 33, 34, 35, 36, 37, 38, 43, 44, 45, 46, 47, 48, 49, 50, 51, 52, 53, 54, 55, 56, 57, 58, 59, 60, 61, 62, 63, 64, 65, 66, 67, 68, 69] (by decide +kernel) (by decide +kernel)
set_option maxRecDepth 20000 in
theorem gX6_broken_X6_breakCourt : GoodIn wsX6_broken (wsV RX6 160 RX6 yX6_breakCourt wsX6_breakCourt) := goodIn_app (goodIn_of _ (by decide +kernel)) ggX6_broken_X6_breakCourt
theorem dX6_broken_0 : decode cX6_broken 0 = .ok (.iload_n 1, 1) := by decide +kernel
theorem dX6_broken_1 : decode cX6_broken 1 = .ok (.iconst 0, 1) := by decide +kernel
theorem dX6_broken_2 : decode cX6_broken 2 = .ok (.iconst 1, 1) := by decide +kernel
theorem dX6_broken_3 : decode cX6_broken 3 = .ok (.invokestatic 68, 3) := by decide +kernel
theorem dX6_broken_6 : decode cX6_broken 6 = .ok (.ifCond .ne 6, 3) := by decide +kernel
theorem dX6_broken_9 : decode cX6_broken 9 = .ok (.bipush (-2), 2) := by decide +kernel
theorem dX6_broken_11 : decode cX6_broken 11 = .ok (.ireturn, 1) := by decide +kernel
theorem dX6_broken_12 : decode cX6_broken 12 = .ok (.aload_n 0, 1) := by decide +kernel
theorem dX6_broken_13 : decode cX6_broken 13 = .ok (.getfield 72, 3) := by decide +kernel
theorem dX6_broken_16 : decode cX6_broken 16 = .ok (.ifCond .ne 6, 3) := by decide +kernel
theorem dX6_broken_19 : decode cX6_broken 19 = .ok (.bipush (-3), 2) := by decide +kernel
theorem dX6_broken_21 : decode cX6_broken 21 = .ok (.ireturn, 1) := by decide +kernel
theorem dX6_broken_22 : decode cX6_broken 22 = .ok (.aload_n 0, 1) := by decide +kernel
theorem dX6_broken_23 : decode cX6_broken 23 = .ok (.invokevirtual 147, 3) := by decide +kernel
theorem dX6_broken_26 : decode cX6_broken 26 = .ok (.iload_n 1, 1) := by decide +kernel
theorem dX6_broken_27 : decode cX6_broken 27 = .ok (.ifCond .ne 10, 3) := by decide +kernel
theorem dX6_broken_30 : decode cX6_broken 30 = .ok (.aload_n 0, 1) := by decide +kernel
theorem dX6_broken_31 : decode cX6_broken 31 = .ok (.invokevirtual 156, 3) := by decide +kernel
theorem dX6_broken_34 : decode cX6_broken 34 = .ok (.goto 7, 3) := by decide +kernel
theorem dX6_broken_37 : decode cX6_broken 37 = .ok (.aload_n 0, 1) := by decide +kernel
theorem dX6_broken_38 : decode cX6_broken 38 = .ok (.invokevirtual 160, 3) := by decide +kernel
theorem dX6_broken_41 : decode cX6_broken 41 = .ok (.ireturn, 1) := by decide +kernel
set_option maxRecDepth 20000 in
theorem ggX6_plan_X6_isSheet : GoodIn wsX6_plan wsX6_isSheet := goodIn_r _ [10, 11, 12, 9, 13] (by decide +kernel) (by decide +kernel)
set_option maxRecDepth 20000 in
theorem gX6_plan_X6_isSheet : GoodIn wsX6_plan (va_wsS RX6 84 yX6_isSheet wsX6_isSheet) := goodIn_app (goodIn_of _ (by decide +kernel)) ggX6_plan_X6_isSheet
set_option maxRecDepth 20000 in
theorem ggX6_plan_X6_isSort : GoodIn wsX6_plan wsX6_isSort := goodIn_r _ [16, 11, 12, 9, 13] (by decide +kernel) (by decide +kernel)
set_option maxRecDepth 20000 in
theorem gX6_plan_X6_isSort : GoodIn wsX6_plan (va_wsS RX6 88 yX6_isSort wsX6_isSort) := goodIn_app (goodIn_of _ (by decide +kernel)) ggX6_plan_X6_isSort
set_option maxRecDepth 20000 in
theorem ggX6_plan_X6_within : GoodIn wsX6_plan wsX6_within := goodIn_r _ [13] (by decide +kernel) (by decide +kernel)
set_option maxRecDepth 20000 in
theorem gX6_plan_X6_within : GoodIn wsX6_plan (va_wsS RX6 68 yX6_within wsX6_within) := goodIn_app (goodIn_of _ (by decide +kernel)) ggX6_plan_X6_within
set_option maxRecDepth 20000 in
theorem ggX6_plan_X6_against : GoodIn wsX6_plan wsX6_against := goodIn_r _ [20, 21, 22, 64, 65, 66, 67, 68, 69, 70, 71, 72, 73, 74, 75, 76, 77, 78, 79, 80, 81, 82, 83, 84, 85, 86, 87, 88, 89, 90] (by decide +kernel) (by decide +kernel)
set_option maxRecDepth 20000 in
theorem gX6_plan_X6_against : GoodIn wsX6_plan (wsV RX6 91 RX6 yX6_against wsX6_against) := goodIn_app (goodIn_of _ (by decide +kernel)) ggX6_plan_X6_against
set_option maxRecDepth 20000 in
theorem ggX6_plan_X6_fails : GoodIn wsX6_plan wsX6_fails := goodIn_r _ [26, 1, 64, 65, 66, 67, 68, 69, 70, 71, 72, 73, 74, 75, 76, 77, 78, 79, 80, 81, 82, 83, 84, 85, 86, 87, 88, 89, 90] (by decide +kernel) (by decide +kernel)
set_option maxRecDepth 20000 in
theorem gX6_plan_X6_fails : GoodIn wsX6_plan (wsV RX6 95 RX6 yX6_fails wsX6_fails) := goodIn_app (goodIn_of _ (by decide +kernel)) ggX6_plan_X6_fails
set_option maxRecDepth 20000 in
theorem ggX6_plan_X6_tellPlan : GoodIn wsX6_plan wsX6_tellPlan := goodIn_r _ [30, 3, 4, 6, 31, 32, 33, 9, 34, 35, 36, 37, 38, 2, 39, 40, 41, 42, 43, 44, 45, 46, 47, 48, 49, 50, 51, 52, 53, 54, 55, 56, 57, 58, 59, 60, 61, 62, 63, 64, 65, 66, 67, 68, 69, 70, 71, 72, 73, 74, 75, 76, 77, 78, 79, 80, 81, 82, 83, 84, 85, 86, 87, 88, 89, 90] (by decide +kernel) (by decide +kernel)
set_option maxRecDepth 20000 in
theorem gX6_plan_X6_tellPlan : GoodIn wsX6_plan (wsV RX6 163 RX6 yX6_tellPlan wsX6_tellPlan) := goodIn_app (goodIn_of _ (by decide +kernel)) ggX6_plan_X6_tellPlan
theorem dX6_plan_0 : decode cX6_plan 0 = .ok (.aload_n 0, 1) := by decide +kernel
theorem dX6_plan_1 : decode cX6_plan 1 = .ok (.iconst 0, 1) := by decide +kernel
theorem dX6_plan_2 : decode cX6_plan 2 = .ok (.putfield 62, 3) := by decide +kernel
theorem dX6_plan_5 : decode cX6_plan 5 = .ok (.iload_n 1, 1) := by decide +kernel
theorem dX6_plan_6 : decode cX6_plan 6 = .ok (.invokestatic 84, 3) := by decide +kernel
theorem dX6_plan_9 : decode cX6_plan 9 = .ok (.ifCond .ne 5, 3) := by decide +kernel
theorem dX6_plan_12 : decode cX6_plan 12 = .ok (.iconst (-1), 1) := by decide +kernel
theorem dX6_plan_13 : decode cX6_plan 13 = .ok (.ireturn, 1) := by decide +kernel
theorem dX6_plan_14 : decode cX6_plan 14 = .ok (.iload_n 2, 1) := by decide +kernel
theorem dX6_plan_15 : decode cX6_plan 15 = .ok (.invokestatic 88, 3) := by decide +kernel
theorem dX6_plan_18 : decode cX6_plan 18 = .ok (.ifCond .eq 25, 3) := by decide +kernel
theorem dX6_plan_21 : decode cX6_plan 21 = .ok (.iload 5, 2) := by decide +kernel
theorem dX6_plan_23 : decode cX6_plan 23 = .ok (.iconst 0, 1) := by decide +kernel
theorem dX6_plan_24 : decode cX6_plan 24 = .ok (.iconst 2, 1) := by decide +kernel
theorem dX6_plan_25 : decode cX6_plan 25 = .ok (.invokestatic 68, 3) := by decide +kernel
theorem dX6_plan_28 : decode cX6_plan 28 = .ok (.ifCond .ne 18, 3) := by decide +kernel
theorem dX6_plan_31 : decode cX6_plan 31 = .ok (.iload 5, 2) := by decide +kernel
theorem dX6_plan_33 : decode cX6_plan 33 = .ok (.bipush 10, 2) := by decide +kernel
theorem dX6_plan_35 : decode cX6_plan 35 = .ok (.bipush 13, 2) := by decide +kernel
theorem dX6_plan_37 : decode cX6_plan 37 = .ok (.invokestatic 68, 3) := by decide +kernel
theorem dX6_plan_40 : decode cX6_plan 40 = .ok (.ifCond .ne 6, 3) := by decide +kernel
theorem dX6_plan_43 : decode cX6_plan 43 = .ok (.bipush (-2), 2) := by decide +kernel
theorem dX6_plan_45 : decode cX6_plan 45 = .ok (.ireturn, 1) := by decide +kernel
theorem dX6_plan_46 : decode cX6_plan 46 = .ok (.aload_n 0, 1) := by decide +kernel
theorem dX6_plan_47 : decode cX6_plan 47 = .ok (.iload_n 1, 1) := by decide +kernel
theorem dX6_plan_48 : decode cX6_plan 48 = .ok (.iload_n 2, 1) := by decide +kernel
theorem dX6_plan_49 : decode cX6_plan 49 = .ok (.iload_n 3, 1) := by decide +kernel
theorem dX6_plan_50 : decode cX6_plan 50 = .ok (.iload 4, 2) := by decide +kernel
theorem dX6_plan_52 : decode cX6_plan 52 = .ok (.invokevirtual 91, 3) := by decide +kernel
theorem dX6_plan_55 : decode cX6_plan 55 = .ok (.istore 6, 2) := by decide +kernel
theorem dX6_plan_57 : decode cX6_plan 57 = .ok (.iload 6, 2) := by decide +kernel
theorem dX6_plan_59 : decode cX6_plan 59 = .ok (.ifCond .eq 10, 3) := by decide +kernel
theorem dX6_plan_62 : decode cX6_plan 62 = .ok (.aload_n 0, 1) := by decide +kernel
theorem dX6_plan_63 : decode cX6_plan 63 = .ok (.iload 6, 2) := by decide +kernel
theorem dX6_plan_65 : decode cX6_plan 65 = .ok (.invokevirtual 95, 3) := by decide +kernel
theorem dX6_plan_68 : decode cX6_plan 68 = .ok (.ireturn, 1) := by decide +kernel
theorem dX6_plan_69 : decode cX6_plan 69 = .ok (.aload_n 0, 1) := by decide +kernel
theorem dX6_plan_70 : decode cX6_plan 70 = .ok (.getfield 72, 3) := by decide +kernel
theorem dX6_plan_73 : decode cX6_plan 73 = .ok (.ifCond .ne 6, 3) := by decide +kernel
theorem dX6_plan_76 : decode cX6_plan 76 = .ok (.bipush (-3), 2) := by decide +kernel
theorem dX6_plan_78 : decode cX6_plan 78 = .ok (.ireturn, 1) := by decide +kernel
theorem dX6_plan_79 : decode cX6_plan 79 = .ok (.iload 4, 2) := by decide +kernel
theorem dX6_plan_81 : decode cX6_plan 81 = .ok (.aload_n 0, 1) := by decide +kernel
theorem dX6_plan_82 : decode cX6_plan 82 = .ok (.getfield 78, 3) := by decide +kernel
theorem dX6_plan_85 : decode cX6_plan 85 = .ok (.if_icmp .eq 6, 3) := by decide +kernel
theorem dX6_plan_88 : decode cX6_plan 88 = .ok (.bipush (-2), 2) := by decide +kernel
theorem dX6_plan_90 : decode cX6_plan 90 = .ok (.ireturn, 1) := by decide +kernel
theorem dX6_plan_91 : decode cX6_plan 91 = .ok (.iconst 0, 1) := by decide +kernel
theorem dX6_plan_92 : decode cX6_plan 92 = .ok (.istore 7, 2) := by decide +kernel
theorem dX6_plan_94 : decode cX6_plan 94 = .ok (.iload 7, 2) := by decide +kernel
theorem dX6_plan_96 : decode cX6_plan 96 = .ok (.iload 4, 2) := by decide +kernel
theorem dX6_plan_98 : decode cX6_plan 98 = .ok (.if_icmp .ge 51, 3) := by decide +kernel
theorem dX6_plan_101 : decode cX6_plan 101 = .ok (.aload_n 0, 1) := by decide +kernel
theorem dX6_plan_102 : decode cX6_plan 102 = .ok (.getfield 46, 3) := by decide +kernel
theorem dX6_plan_105 : decode cX6_plan 105 = .ok (.iload 7, 2) := by decide +kernel
theorem dX6_plan_107 : decode cX6_plan 107 = .ok (.aload_n 0, 1) := by decide +kernel
theorem dX6_plan_108 : decode cX6_plan 108 = .ok (.getfield 16, 3) := by decide +kernel
theorem dX6_plan_111 : decode cX6_plan 111 = .ok (.bipush 60, 2) := by decide +kernel
theorem dX6_plan_113 : decode cX6_plan 113 = .ok (.iload_n 1, 1) := by decide +kernel
theorem dX6_plan_114 : decode cX6_plan 114 = .ok (.imul, 1) := by decide +kernel
theorem dX6_plan_115 : decode cX6_plan 115 = .ok (.iload_n 3, 1) := by decide +kernel
theorem dX6_plan_116 : decode cX6_plan 116 = .ok (.iadd, 1) := by decide +kernel
theorem dX6_plan_117 : decode cX6_plan 117 = .ok (.iload 7, 2) := by decide +kernel
theorem dX6_plan_119 : decode cX6_plan 119 = .ok (.iadd, 1) := by decide +kernel
theorem dX6_plan_120 : decode cX6_plan 120 = .ok (.iaload, 1) := by decide +kernel
theorem dX6_plan_121 : decode cX6_plan 121 = .ok (.iastore, 1) := by decide +kernel
theorem dX6_plan_122 : decode cX6_plan 122 = .ok (.aload_n 0, 1) := by decide +kernel
theorem dX6_plan_123 : decode cX6_plan 123 = .ok (.getfield 46, 3) := by decide +kernel
theorem dX6_plan_126 : decode cX6_plan 126 = .ok (.iload 7, 2) := by decide +kernel
theorem dX6_plan_128 : decode cX6_plan 128 = .ok (.iaload, 1) := by decide +kernel
theorem dX6_plan_129 : decode cX6_plan 129 = .ok (.iconst 0, 1) := by decide +kernel
theorem dX6_plan_130 : decode cX6_plan 130 = .ok (.aload_n 0, 1) := by decide +kernel
theorem dX6_plan_131 : decode cX6_plan 131 = .ok (.getfield 75, 3) := by decide +kernel
theorem dX6_plan_134 : decode cX6_plan 134 = .ok (.invokestatic 68, 3) := by decide +kernel
theorem dX6_plan_137 : decode cX6_plan 137 = .ok (.ifCond .ne 6, 3) := by decide +kernel
theorem dX6_plan_140 : decode cX6_plan 140 = .ok (.bipush (-2), 2) := by decide +kernel
theorem dX6_plan_142 : decode cX6_plan 142 = .ok (.ireturn, 1) := by decide +kernel
theorem dX6_plan_143 : decode cX6_plan 143 = .ok (.iinc 7 1, 3) := by decide +kernel
theorem dX6_plan_146 : decode cX6_plan 146 = .ok (.goto (-52), 3) := by decide +kernel
theorem dX6_plan_149 : decode cX6_plan 149 = .ok (.aload_n 0, 1) := by decide +kernel
theorem dX6_plan_150 : decode cX6_plan 150 = .ok (.iload 5, 2) := by decide +kernel
theorem dX6_plan_152 : decode cX6_plan 152 = .ok (.invokevirtual 163, 3) := by decide +kernel
theorem dX6_plan_155 : decode cX6_plan 155 = .ok (.ireturn, 1) := by decide +kernel
set_option maxRecDepth 20000 in
theorem ggX6_tellPlan_X6_breakYear : GoodIn wsX6_tellPlan wsX6_breakYear := goodIn_r _ [8, 3, 9, 10, 11, 7, 12, 13, 14, 15, 16, 17, 18, 19, 20, 21, 22, 1, 23, 2, 24, 25, 26, 27, 28, 29, 30, 39, 40, 41, 42, 43, 44, 45, 46, 47, 48, 49, 50, 51, 52, 53, 54, 55, 56, 57, 58, 59, 60, 61, 62, 63, 64, 65] (by decide +kernel) (by decide +kernel)
set_option maxRecDepth 20000 in
theorem gX6_tellPlan_X6_breakYear : GoodIn wsX6_tellPlan (wsV RX6 156 RX6 yX6_breakYear wsX6_breakYear) := goodIn_app (goodIn_of _ (by decide +kernel)) ggX6_tellPlan_X6_breakYear
set_option maxRecDepth 20000 in
theorem ggX6_tellPlan_X6_breakCourt : GoodIn wsX6_tellPlan wsX6_breakCourt := goodIn_r _ [34, 13, 4, 5, 6, 7, 8, 3, 9, 10, 11, 12, 14, 15, 16, 17, 18, 19, 20, 21, 22, 1, 23, 2, 24, 25, 26, 27, 28, 29, 30, 39, 40, 41, 42, 43, 44, 45, 46, 47, 48, 49, 50, 51, 52, 53, 54, 55, 56, 57, 58, 59, 60, 61, 62, 63, 64, 65] (by decide +kernel) (by decide +kernel)
set_option maxRecDepth 20000 in
theorem gX6_tellPlan_X6_breakCourt : GoodIn wsX6_tellPlan (wsV RX6 160 RX6 yX6_breakCourt wsX6_breakCourt) := goodIn_app (goodIn_of _ (by decide +kernel)) ggX6_tellPlan_X6_breakCourt
set_option maxRecDepth 20000 in
theorem ggX6_tellPlan_X6_isCourt : GoodIn wsX6_tellPlan wsX6_isCourt := goodIn_r _ [38, 13, 39, 40, 41, 42, 43, 44, 45, 46, 47, 48, 49, 50, 51, 52, 53, 54, 55, 56, 57, 58, 59, 60, 61, 62, 63, 64, 65] (by decide +kernel) (by decide +kernel)
set_option maxRecDepth 20000 in
theorem gX6_tellPlan_X6_isCourt : GoodIn wsX6_tellPlan (wsV RX6 134 RX6 yX6_isCourt wsX6_isCourt) := goodIn_app (goodIn_of _ (by decide +kernel)) ggX6_tellPlan_X6_isCourt
set_option maxRecDepth 20000 in
theorem ggX6_tellPlan_X6_stakesBy : GoodIn wsX6_tellPlan wsX6_stakesBy := goodIn_r _ [22, 1, 23, 2, 24, 25, 26, 7, 27, 28, 29, 30, 39, 40, 41, 42, 43, 44, 45, 46, 47, 48, 49, 50, 51, 52, 53, 54, 55, 56, 57, 58, 59, 60, 61, 62, 63, 64, 65] (by decide +kernel) (by decide +kernel)
set_option maxRecDepth 20000 in
theorem gX6_tellPlan_X6_stakesBy : GoodIn wsX6_tellPlan (wsV RX6 143 RX6 yX6_stakesBy wsX6_stakesBy) := goodIn_app (goodIn_of _ (by decide +kernel)) ggX6_tellPlan_X6_stakesBy
theorem dX6_tellPlan_0 : decode cX6_tellPlan 0 = .ok (.iload_n 1, 1) := by decide +kernel
theorem dX6_tellPlan_1 : decode cX6_tellPlan 1 = .ok (.ifCond .ne 8, 3) := by decide +kernel
theorem dX6_tellPlan_4 : decode cX6_tellPlan 4 = .ok (.aload_n 0, 1) := by decide +kernel
theorem dX6_tellPlan_5 : decode cX6_tellPlan 5 = .ok (.invokevirtual 156, 3) := by decide +kernel
theorem dX6_tellPlan_8 : decode cX6_tellPlan 8 = .ok (.ireturn, 1) := by decide +kernel
theorem dX6_tellPlan_9 : decode cX6_tellPlan 9 = .ok (.iload_n 1, 1) := by decide +kernel
theorem dX6_tellPlan_10 : decode cX6_tellPlan 10 = .ok (.iconst 1, 1) := by decide +kernel
theorem dX6_tellPlan_11 : decode cX6_tellPlan 11 = .ok (.if_icmp .ne 8, 3) := by decide +kernel
theorem dX6_tellPlan_14 : decode cX6_tellPlan 14 = .ok (.aload_n 0, 1) := by decide +kernel
theorem dX6_tellPlan_15 : decode cX6_tellPlan 15 = .ok (.invokevirtual 160, 3) := by decide +kernel
theorem dX6_tellPlan_18 : decode cX6_tellPlan 18 = .ok (.ireturn, 1) := by decide +kernel
theorem dX6_tellPlan_19 : decode cX6_tellPlan 19 = .ok (.iload_n 1, 1) := by decide +kernel
theorem dX6_tellPlan_20 : decode cX6_tellPlan 20 = .ok (.iconst 2, 1) := by decide +kernel
theorem dX6_tellPlan_21 : decode cX6_tellPlan 21 = .ok (.if_icmp .ne 44, 3) := by decide +kernel
theorem dX6_tellPlan_24 : decode cX6_tellPlan 24 = .ok (.iconst 0, 1) := by decide +kernel
theorem dX6_tellPlan_25 : decode cX6_tellPlan 25 = .ok (.istore_n 2, 1) := by decide +kernel
theorem dX6_tellPlan_26 : decode cX6_tellPlan 26 = .ok (.iconst 0, 1) := by decide +kernel
theorem dX6_tellPlan_27 : decode cX6_tellPlan 27 = .ok (.istore_n 3, 1) := by decide +kernel
theorem dX6_tellPlan_28 : decode cX6_tellPlan 28 = .ok (.iload_n 3, 1) := by decide +kernel
theorem dX6_tellPlan_29 : decode cX6_tellPlan 29 = .ok (.aload_n 0, 1) := by decide +kernel
theorem dX6_tellPlan_30 : decode cX6_tellPlan 30 = .ok (.getfield 78, 3) := by decide +kernel
theorem dX6_tellPlan_33 : decode cX6_tellPlan 33 = .ok (.if_icmp .ge 30, 3) := by decide +kernel
theorem dX6_tellPlan_36 : decode cX6_tellPlan 36 = .ok (.iload_n 2, 1) := by decide +kernel
theorem dX6_tellPlan_37 : decode cX6_tellPlan 37 = .ok (.aload_n 0, 1) := by decide +kernel
theorem dX6_tellPlan_38 : decode cX6_tellPlan 38 = .ok (.getfield 46, 3) := by decide +kernel
theorem dX6_tellPlan_41 : decode cX6_tellPlan 41 = .ok (.iload_n 3, 1) := by decide +kernel
theorem dX6_tellPlan_42 : decode cX6_tellPlan 42 = .ok (.iaload, 1) := by decide +kernel
theorem dX6_tellPlan_43 : decode cX6_tellPlan 43 = .ok (.aload_n 0, 1) := by decide +kernel
theorem dX6_tellPlan_44 : decode cX6_tellPlan 44 = .ok (.getfield 75, 3) := by decide +kernel
theorem dX6_tellPlan_47 : decode cX6_tellPlan 47 = .ok (.if_icmp .ge 7, 3) := by decide +kernel
theorem dX6_tellPlan_50 : decode cX6_tellPlan 50 = .ok (.iconst 1, 1) := by decide +kernel
theorem dX6_tellPlan_51 : decode cX6_tellPlan 51 = .ok (.goto 4, 3) := by decide +kernel
theorem dX6_tellPlan_54 : decode cX6_tellPlan 54 = .ok (.iconst 0, 1) := by decide +kernel
theorem dX6_tellPlan_55 : decode cX6_tellPlan 55 = .ok (.iadd, 1) := by decide +kernel
theorem dX6_tellPlan_56 : decode cX6_tellPlan 56 = .ok (.istore_n 2, 1) := by decide +kernel
theorem dX6_tellPlan_57 : decode cX6_tellPlan 57 = .ok (.iinc 3 1, 3) := by decide +kernel
theorem dX6_tellPlan_60 : decode cX6_tellPlan 60 = .ok (.goto (-32), 3) := by decide +kernel
theorem dX6_tellPlan_63 : decode cX6_tellPlan 63 = .ok (.iload_n 2, 1) := by decide +kernel
theorem dX6_tellPlan_64 : decode cX6_tellPlan 64 = .ok (.ireturn, 1) := by decide +kernel
theorem dX6_tellPlan_65 : decode cX6_tellPlan 65 = .ok (.aload_n 0, 1) := by decide +kernel
theorem dX6_tellPlan_66 : decode cX6_tellPlan 66 = .ok (.iload_n 1, 1) := by decide +kernel
theorem dX6_tellPlan_67 : decode cX6_tellPlan 67 = .ok (.bipush 10, 2) := by decide +kernel
theorem dX6_tellPlan_69 : decode cX6_tellPlan 69 = .ok (.isub, 1) := by decide +kernel
theorem dX6_tellPlan_70 : decode cX6_tellPlan 70 = .ok (.invokevirtual 134, 3) := by decide +kernel
theorem dX6_tellPlan_73 : decode cX6_tellPlan 73 = .ok (.ifCond .eq 20, 3) := by decide +kernel
theorem dX6_tellPlan_76 : decode cX6_tellPlan 76 = .ok (.aload_n 0, 1) := by decide +kernel
theorem dX6_tellPlan_77 : decode cX6_tellPlan 77 = .ok (.iload_n 1, 1) := by decide +kernel
theorem dX6_tellPlan_78 : decode cX6_tellPlan 78 = .ok (.bipush 10, 2) := by decide +kernel
theorem dX6_tellPlan_80 : decode cX6_tellPlan 80 = .ok (.isub, 1) := by decide +kernel
theorem dX6_tellPlan_81 : decode cX6_tellPlan 81 = .ok (.aload_n 0, 1) := by decide +kernel
theorem dX6_tellPlan_82 : decode cX6_tellPlan 82 = .ok (.getfield 75, 3) := by decide +kernel
theorem dX6_tellPlan_85 : decode cX6_tellPlan 85 = .ok (.iconst 1, 1) := by decide +kernel
theorem dX6_tellPlan_86 : decode cX6_tellPlan 86 = .ok (.isub, 1) := by decide +kernel
theorem dX6_tellPlan_87 : decode cX6_tellPlan 87 = .ok (.invokevirtual 143, 3) := by decide +kernel
theorem dX6_tellPlan_90 : decode cX6_tellPlan 90 = .ok (.goto 5, 3) := by decide +kernel
theorem dX6_tellPlan_93 : decode cX6_tellPlan 93 = .ok (.bipush (-9), 2) := by decide +kernel
theorem dX6_tellPlan_95 : decode cX6_tellPlan 95 = .ok (.ireturn, 1) := by decide +kernel
theorem dX6_size_0 : decode cX6_size 0 = .ok (.iconst 0, 1) := by decide +kernel
theorem dX6_size_1 : decode cX6_size 1 = .ok (.istore_n 1, 1) := by decide +kernel
theorem dX6_size_2 : decode cX6_size 2 = .ok (.iload_n 0, 1) := by decide +kernel
theorem dX6_size_3 : decode cX6_size 3 = .ok (.istore_n 2, 1) := by decide +kernel
theorem dX6_size_4 : decode cX6_size 4 = .ok (.iload_n 2, 1) := by decide +kernel
theorem dX6_size_5 : decode cX6_size 5 = .ok (.ifCond .le 16, 3) := by decide +kernel
theorem dX6_size_8 : decode cX6_size 8 = .ok (.iload_n 1, 1) := by decide +kernel
theorem dX6_size_9 : decode cX6_size 9 = .ok (.iload_n 2, 1) := by decide +kernel
theorem dX6_size_10 : decode cX6_size 10 = .ok (.iconst 1, 1) := by decide +kernel
theorem dX6_size_11 : decode cX6_size 11 = .ok (.iand, 1) := by decide +kernel
theorem dX6_size_12 : decode cX6_size 12 = .ok (.iadd, 1) := by decide +kernel
theorem dX6_size_13 : decode cX6_size 13 = .ok (.istore_n 1, 1) := by decide +kernel
theorem dX6_size_14 : decode cX6_size 14 = .ok (.iload_n 2, 1) := by decide +kernel
theorem dX6_size_15 : decode cX6_size 15 = .ok (.iconst 1, 1) := by decide +kernel
theorem dX6_size_16 : decode cX6_size 16 = .ok (.ishr, 1) := by decide +kernel
theorem dX6_size_17 : decode cX6_size 17 = .ok (.istore_n 2, 1) := by decide +kernel
theorem dX6_size_18 : decode cX6_size 18 = .ok (.goto (-14), 3) := by decide +kernel
theorem dX6_size_21 : decode cX6_size 21 = .ok (.iload_n 1, 1) := by decide +kernel
theorem dX6_size_22 : decode cX6_size 22 = .ok (.ireturn, 1) := by decide +kernel
theorem dX6_askSet_0 : decode cX6_askSet 0 = .ok (.iconst 0, 1) := by decide +kernel
theorem dX6_askSet_1 : decode cX6_askSet 1 = .ok (.istore_n 2, 1) := by decide +kernel
theorem dX6_askSet_2 : decode cX6_askSet 2 = .ok (.iload_n 2, 1) := by decide +kernel
theorem dX6_askSet_3 : decode cX6_askSet 3 = .ok (.aload_n 0, 1) := by decide +kernel
theorem dX6_askSet_4 : decode cX6_askSet 4 = .ok (.getfield 78, 3) := by decide +kernel
theorem dX6_askSet_7 : decode cX6_askSet 7 = .ok (.if_icmp .ge 32, 3) := by decide +kernel
theorem dX6_askSet_10 : decode cX6_askSet 10 = .ok (.aload_n 0, 1) := by decide +kernel
theorem dX6_askSet_11 : decode cX6_askSet 11 = .ok (.getfield 46, 3) := by decide +kernel
theorem dX6_askSet_14 : decode cX6_askSet 14 = .ok (.iload_n 2, 1) := by decide +kernel
theorem dX6_askSet_15 : decode cX6_askSet 15 = .ok (.iload_n 1, 1) := by decide +kernel
theorem dX6_askSet_16 : decode cX6_askSet 16 = .ok (.iload_n 2, 1) := by decide +kernel
theorem dX6_askSet_17 : decode cX6_askSet 17 = .ok (.ishr, 1) := by decide +kernel
theorem dX6_askSet_18 : decode cX6_askSet 18 = .ok (.iconst 1, 1) := by decide +kernel
theorem dX6_askSet_19 : decode cX6_askSet 19 = .ok (.iand, 1) := by decide +kernel
theorem dX6_askSet_20 : decode cX6_askSet 20 = .ok (.iconst 1, 1) := by decide +kernel
theorem dX6_askSet_21 : decode cX6_askSet 21 = .ok (.if_icmp .ne 7, 3) := by decide +kernel
theorem dX6_askSet_24 : decode cX6_askSet 24 = .ok (.iconst 0, 1) := by decide +kernel
theorem dX6_askSet_25 : decode cX6_askSet 25 = .ok (.goto 7, 3) := by decide +kernel
theorem dX6_askSet_28 : decode cX6_askSet 28 = .ok (.aload_n 0, 1) := by decide +kernel
theorem dX6_askSet_29 : decode cX6_askSet 29 = .ok (.getfield 75, 3) := by decide +kernel
theorem dX6_askSet_32 : decode cX6_askSet 32 = .ok (.iastore, 1) := by decide +kernel
theorem dX6_askSet_33 : decode cX6_askSet 33 = .ok (.iinc 2 1, 3) := by decide +kernel
theorem dX6_askSet_36 : decode cX6_askSet 36 = .ok (.goto (-34), 3) := by decide +kernel
theorem dX6_askSet_39 : decode cX6_askSet 39 = .ok (.return_, 1) := by decide +kernel
set_option maxRecDepth 20000 in
theorem ggX6_least_X6_size : GoodIn wsX6_least wsX6_size := goodIn_r _ [6] (by decide +kernel) (by decide +kernel)
set_option maxRecDepth 20000 in
theorem gX6_least_X6_size : GoodIn wsX6_least (va_wsS RX6 166 yX6_size wsX6_size) := goodIn_app (goodIn_of _ (by decide +kernel)) ggX6_least_X6_size
set_option maxRecDepth 20000 in
theorem ggX6_least_X6_askSet : GoodIn wsX6_least wsX6_askSet := goodIn_r _ [10, 2, 11, 12, 38, 39, 40, 41, 42, 43, 44, 45, 46, 47, 48, 49, 50, 51, 52, 53, 54, 55, 56, 57, 58, 59, 60, 61, 62, 63, 64] (by decide +kernel) (by decide +kernel)
set_option maxRecDepth 20000 in
theorem gX6_least_X6_askSet : GoodIn wsX6_least (wsV RX6 169 RX6 yX6_askSet wsX6_askSet) := goodIn_app (goodIn_of _ (by decide +kernel)) ggX6_least_X6_askSet
set_option maxRecDepth 20000 in
theorem ggX6_least_X6_breakYear : GoodIn wsX6_least wsX6_breakYear := goodIn_r _ [16, 12, 17, 18, 19, 5, 20, 1, 21, 22, 23, 24, 25, 26, 27, 28, 29, 2, 30, 11, 31, 32, 33, 34, 35, 36, 37, 38, 39, 40, 41, 42, 43, 44, 45, 46, 47, 48, 49, 50, 51, 52, 53, 54, 55, 56, 57, 58, 59, 60, 61, 62, 63, 64] (by decide +kernel) (by decide +kernel)
set_option maxRecDepth 20000 in
theorem gX6_least_X6_breakYear : GoodIn wsX6_least (wsV RX6 156 RX6 yX6_breakYear wsX6_breakYear) := goodIn_app (goodIn_of _ (by decide +kernel)) ggX6_least_X6_breakYear
theorem dX6_least_0 : decode cX6_least 0 = .ok (.aload_n 0, 1) := by decide +kernel
theorem dX6_least_1 : decode cX6_least 1 = .ok (.getfield 72, 3) := by decide +kernel
theorem dX6_least_4 : decode cX6_least 4 = .ok (.ifCond .ne 6, 3) := by decide +kernel
theorem dX6_least_7 : decode cX6_least 7 = .ok (.bipush (-3), 2) := by decide +kernel
theorem dX6_least_9 : decode cX6_least 9 = .ok (.ireturn, 1) := by decide +kernel
theorem dX6_least_10 : decode cX6_least 10 = .ok (.bipush (-9), 2) := by decide +kernel
theorem dX6_least_12 : decode cX6_least 12 = .ok (.istore_n 1, 1) := by decide +kernel
theorem dX6_least_13 : decode cX6_least 13 = .ok (.iconst 0, 1) := by decide +kernel
theorem dX6_least_14 : decode cX6_least 14 = .ok (.istore_n 2, 1) := by decide +kernel
theorem dX6_least_15 : decode cX6_least 15 = .ok (.iload_n 2, 1) := by decide +kernel
theorem dX6_least_16 : decode cX6_least 16 = .ok (.iconst 1, 1) := by decide +kernel
theorem dX6_least_17 : decode cX6_least 17 = .ok (.aload_n 0, 1) := by decide +kernel
theorem dX6_least_18 : decode cX6_least 18 = .ok (.getfield 78, 3) := by decide +kernel
theorem dX6_least_21 : decode cX6_least 21 = .ok (.ishl, 1) := by decide +kernel
theorem dX6_least_22 : decode cX6_least 22 = .ok (.if_icmp .ge 46, 3) := by decide +kernel
theorem dX6_least_25 : decode cX6_least 25 = .ok (.iload_n 1, 1) := by decide +kernel
theorem dX6_least_26 : decode cX6_least 26 = .ok (.bipush (-9), 2) := by decide +kernel
theorem dX6_least_28 : decode cX6_least 28 = .ok (.if_icmp .eq 14, 3) := by decide +kernel
theorem dX6_least_31 : decode cX6_least 31 = .ok (.iload_n 2, 1) := by decide +kernel
theorem dX6_least_32 : decode cX6_least 32 = .ok (.invokestatic 166, 3) := by decide +kernel
theorem dX6_least_35 : decode cX6_least 35 = .ok (.iload_n 1, 1) := by decide +kernel
theorem dX6_least_36 : decode cX6_least 36 = .ok (.invokestatic 166, 3) := by decide +kernel
theorem dX6_least_39 : decode cX6_least 39 = .ok (.if_icmp .ge 23, 3) := by decide +kernel
theorem dX6_least_42 : decode cX6_least 42 = .ok (.aload_n 0, 1) := by decide +kernel
theorem dX6_least_43 : decode cX6_least 43 = .ok (.iload_n 2, 1) := by decide +kernel
theorem dX6_least_44 : decode cX6_least 44 = .ok (.invokevirtual 169, 3) := by decide +kernel
theorem dX6_least_47 : decode cX6_least 47 = .ok (.aload_n 0, 1) := by decide +kernel
theorem dX6_least_48 : decode cX6_least 48 = .ok (.invokevirtual 156, 3) := by decide +kernel
theorem dX6_least_51 : decode cX6_least 51 = .ok (.bipush (-9), 2) := by decide +kernel
theorem dX6_least_53 : decode cX6_least 53 = .ok (.if_icmp .ne 7, 3) := by decide +kernel
theorem dX6_least_56 : decode cX6_least 56 = .ok (.iload_n 2, 1) := by decide +kernel
theorem dX6_least_57 : decode cX6_least 57 = .ok (.goto 4, 3) := by decide +kernel
theorem dX6_least_60 : decode cX6_least 60 = .ok (.iload_n 1, 1) := by decide +kernel
theorem dX6_least_61 : decode cX6_least 61 = .ok (.istore_n 1, 1) := by decide +kernel
theorem dX6_least_62 : decode cX6_least 62 = .ok (.iinc 2 1, 3) := by decide +kernel
theorem dX6_least_65 : decode cX6_least 65 = .ok (.goto (-50), 3) := by decide +kernel
theorem dX6_least_68 : decode cX6_least 68 = .ok (.iload_n 1, 1) := by decide +kernel
theorem dX6_least_69 : decode cX6_least 69 = .ok (.ireturn, 1) := by decide +kernel
set_option maxRecDepth 20000 in
theorem ggX6_holeOf_X6_isTempted : GoodIn wsX6_holeOf wsX6_isTempted := goodIn_r _ [6, 7, 8, 9, 10, 5, 11, 12, 13, 14, 15, 16, 17, 18, 19, 20, 21, 22, 23, 24, 25, 26, 27, 28, 29, 30, 31, 32, 33, 34, 35, 36, 37, 38, 39, 40, 41, 42, 43, 44, 45, 46, 47, 48] (by decide +kernel) (by decide +kernel)
set_option maxRecDepth 20000 in
theorem gX6_holeOf_X6_isTempted : GoodIn wsX6_holeOf (wsV RX6 150 RX6 yX6_isTempted wsX6_isTempted) := goodIn_app (goodIn_of _ (by decide +kernel)) ggX6_holeOf_X6_isTempted
theorem dX6_holeOf_0 : decode cX6_holeOf 0 = .ok (.iconst 0, 1) := by decide +kernel
theorem dX6_holeOf_1 : decode cX6_holeOf 1 = .ok (.istore_n 2, 1) := by decide +kernel
theorem dX6_holeOf_2 : decode cX6_holeOf 2 = .ok (.iload_n 2, 1) := by decide +kernel
theorem dX6_holeOf_3 : decode cX6_holeOf 3 = .ok (.aload_n 0, 1) := by decide +kernel
theorem dX6_holeOf_4 : decode cX6_holeOf 4 = .ok (.getfield 75, 3) := by decide +kernel
theorem dX6_holeOf_7 : decode cX6_holeOf 7 = .ok (.if_icmp .ge 20, 3) := by decide +kernel
theorem dX6_holeOf_10 : decode cX6_holeOf 10 = .ok (.aload_n 0, 1) := by decide +kernel
theorem dX6_holeOf_11 : decode cX6_holeOf 11 = .ok (.iload_n 1, 1) := by decide +kernel
theorem dX6_holeOf_12 : decode cX6_holeOf 12 = .ok (.iload_n 2, 1) := by decide +kernel
theorem dX6_holeOf_13 : decode cX6_holeOf 13 = .ok (.invokevirtual 150, 3) := by decide +kernel
theorem dX6_holeOf_16 : decode cX6_holeOf 16 = .ok (.ifCond .eq 5, 3) := by decide +kernel
theorem dX6_holeOf_19 : decode cX6_holeOf 19 = .ok (.iload_n 2, 1) := by decide +kernel
theorem dX6_holeOf_20 : decode cX6_holeOf 20 = .ok (.ireturn, 1) := by decide +kernel
theorem dX6_holeOf_21 : decode cX6_holeOf 21 = .ok (.iinc 2 1, 3) := by decide +kernel
theorem dX6_holeOf_24 : decode cX6_holeOf 24 = .ok (.goto (-22), 3) := by decide +kernel
theorem dX6_holeOf_27 : decode cX6_holeOf 27 = .ok (.bipush (-9), 2) := by decide +kernel
theorem dX6_holeOf_29 : decode cX6_holeOf 29 = .ok (.ireturn, 1) := by decide +kernel
set_option maxRecDepth 20000 in
theorem ggX6_hole_X6_isCourt : GoodIn wsX6_hole wsX6_isCourt := goodIn_r _ [6, 7, 35, 36, 37, 38, 39, 40, 41, 42, 43, 44, 45, 46, 47, 48, 49, 50, 51, 52, 53, 54, 55, 56, 57, 58, 59, 60, 61] (by decide +kernel) (by decide +kernel)
set_option maxRecDepth 20000 in
theorem gX6_hole_X6_isCourt : GoodIn wsX6_hole (wsV RX6 134 RX6 yX6_isCourt wsX6_isCourt) := goodIn_app (goodIn_of _ (by decide +kernel)) ggX6_hole_X6_isCourt
set_option maxRecDepth 20000 in
theorem ggX6_hole_X6_askSet : GoodIn wsX6_hole wsX6_askSet := goodIn_r _ [11, 1, 12, 13, 35, 36, 37, 38, 39, 40, 41, 42, 43, 44, 45, 46, 47, 48, 49, 50, 51, 52, 53, 54, 55, 56, 57, 58, 59, 60, 61] (by decide +kernel) (by decide +kernel)
set_option maxRecDepth 20000 in
theorem gX6_hole_X6_askSet : GoodIn wsX6_hole (wsV RX6 169 RX6 yX6_askSet wsX6_askSet) := goodIn_app (goodIn_of _ (by decide +kernel)) ggX6_hole_X6_askSet
set_option maxRecDepth 20000 in
theorem ggX6_hole_X6_holeOf : GoodIn wsX6_hole wsX6_holeOf := goodIn_r _ [17, 13, 18, 19, 20, 5, 21, 22, 23, 24, 25, 26, 1, 27, 12, 28, 29, 30, 31, 32, 33, 34, 35, 36, 37, 38, 39, 40, 41, 42, 43, 44, 45, 46, 47, 48, 49, 50, 51, 52, 53, 54, 55, 56, 57, 58, 59, 60, 61] (by decide +kernel) (by decide +kernel)
set_option maxRecDepth 20000 in
theorem gX6_hole_X6_holeOf : GoodIn wsX6_hole (wsV RX6 173 RX6 yX6_holeOf wsX6_holeOf) := goodIn_app (goodIn_of _ (by decide +kernel)) ggX6_hole_X6_holeOf
theorem dX6_hole_0 : decode cX6_hole 0 = .ok (.aload_n 0, 1) := by decide +kernel
theorem dX6_hole_1 : decode cX6_hole 1 = .ok (.iload_n 1, 1) := by decide +kernel
theorem dX6_hole_2 : decode cX6_hole 2 = .ok (.invokevirtual 134, 3) := by decide +kernel
theorem dX6_hole_5 : decode cX6_hole 5 = .ok (.ifCond .ne 5, 3) := by decide +kernel
theorem dX6_hole_8 : decode cX6_hole 8 = .ok (.iconst (-1), 1) := by decide +kernel
theorem dX6_hole_9 : decode cX6_hole 9 = .ok (.ireturn, 1) := by decide +kernel
theorem dX6_hole_10 : decode cX6_hole 10 = .ok (.aload_n 0, 1) := by decide +kernel
theorem dX6_hole_11 : decode cX6_hole 11 = .ok (.iconst 1, 1) := by decide +kernel
theorem dX6_hole_12 : decode cX6_hole 12 = .ok (.aload_n 0, 1) := by decide +kernel
theorem dX6_hole_13 : decode cX6_hole 13 = .ok (.getfield 78, 3) := by decide +kernel
theorem dX6_hole_16 : decode cX6_hole 16 = .ok (.ishl, 1) := by decide +kernel
theorem dX6_hole_17 : decode cX6_hole 17 = .ok (.iconst 1, 1) := by decide +kernel
theorem dX6_hole_18 : decode cX6_hole 18 = .ok (.isub, 1) := by decide +kernel
theorem dX6_hole_19 : decode cX6_hole 19 = .ok (.invokevirtual 169, 3) := by decide +kernel
theorem dX6_hole_22 : decode cX6_hole 22 = .ok (.aload_n 0, 1) := by decide +kernel
theorem dX6_hole_23 : decode cX6_hole 23 = .ok (.iload_n 1, 1) := by decide +kernel
theorem dX6_hole_24 : decode cX6_hole 24 = .ok (.invokevirtual 173, 3) := by decide +kernel
theorem dX6_hole_27 : decode cX6_hole 27 = .ok (.ireturn, 1) := by decide +kernel
set_option maxRecDepth 20000 in
theorem ggX6_when_X6_isSon : GoodIn wsX6_when wsX6_isSon := goodIn_r _ [9, 1, 34, 35, 36, 37, 38, 39, 40, 41, 42, 43, 44, 45, 46, 47, 48, 49, 50, 51, 52, 53, 54, 55, 56, 57, 58, 59, 60] (by decide +kernel) (by decide +kernel)
set_option maxRecDepth 20000 in
theorem gX6_when_X6_isSon : GoodIn wsX6_when (wsV RX6 131 RX6 yX6_isSon wsX6_isSon) := goodIn_app (goodIn_of _ (by decide +kernel)) ggX6_when_X6_isSon
set_option maxRecDepth 20000 in
theorem ggX6_when_X6_askSet : GoodIn wsX6_when wsX6_askSet := goodIn_r _ [13, 1, 3, 2, 34, 35, 36, 37, 38, 39, 40, 41, 42, 43, 44, 45, 46, 47, 48, 49, 50, 51, 52, 53, 54, 55, 56, 57, 58, 59, 60] (by decide +kernel) (by decide +kernel)
set_option maxRecDepth 20000 in
theorem gX6_when_X6_askSet : GoodIn wsX6_when (wsV RX6 169 RX6 yX6_askSet wsX6_askSet) := goodIn_app (goodIn_of _ (by decide +kernel)) ggX6_when_X6_askSet
set_option maxRecDepth 20000 in
theorem ggX6_when_X6_holeOf : GoodIn wsX6_when wsX6_holeOf := goodIn_r _ [17, 2, 18, 19, 20, 8, 21, 22, 23, 24, 25, 26, 1, 4, 3, 27, 28, 29, 30, 31, 32, 33, 34, 35, 36, 37, 38, 39, 40, 41, 42, 43, 44, 45, 46, 47, 48, 49, 50, 51, 52, 53, 54, 55, 56, 57, 58, 59, 60] (by decide +kernel) (by decide +kernel)
set_option maxRecDepth 20000 in
theorem gX6_when_X6_holeOf : GoodIn wsX6_when (wsV RX6 173 RX6 yX6_holeOf wsX6_holeOf) := goodIn_app (goodIn_of _ (by decide +kernel)) ggX6_when_X6_holeOf
theorem dX6_when_0 : decode cX6_when 0 = .ok (.aload_n 0, 1) := by decide +kernel
theorem dX6_when_1 : decode cX6_when 1 = .ok (.iload_n 1, 1) := by decide +kernel
theorem dX6_when_2 : decode cX6_when 2 = .ok (.invokevirtual 131, 3) := by decide +kernel
theorem dX6_when_5 : decode cX6_when 5 = .ok (.ifCond .ne 5, 3) := by decide +kernel
theorem dX6_when_8 : decode cX6_when 8 = .ok (.iconst (-1), 1) := by decide +kernel
theorem dX6_when_9 : decode cX6_when 9 = .ok (.ireturn, 1) := by decide +kernel
theorem dX6_when_10 : decode cX6_when 10 = .ok (.aload_n 0, 1) := by decide +kernel
theorem dX6_when_11 : decode cX6_when 11 = .ok (.iconst 1, 1) := by decide +kernel
theorem dX6_when_12 : decode cX6_when 12 = .ok (.aload_n 0, 1) := by decide +kernel
theorem dX6_when_13 : decode cX6_when 13 = .ok (.getfield 78, 3) := by decide +kernel
theorem dX6_when_16 : decode cX6_when 16 = .ok (.ishl, 1) := by decide +kernel
theorem dX6_when_17 : decode cX6_when 17 = .ok (.iconst 1, 1) := by decide +kernel
theorem dX6_when_18 : decode cX6_when 18 = .ok (.isub, 1) := by decide +kernel
theorem dX6_when_19 : decode cX6_when 19 = .ok (.invokevirtual 169, 3) := by decide +kernel
theorem dX6_when_22 : decode cX6_when 22 = .ok (.aload_n 0, 1) := by decide +kernel
theorem dX6_when_23 : decode cX6_when 23 = .ok (.getfield 75, 3) := by decide +kernel
theorem dX6_when_26 : decode cX6_when 26 = .ok (.istore_n 2, 1) := by decide +kernel
theorem dX6_when_27 : decode cX6_when 27 = .ok (.iload_n 2, 1) := by decide +kernel
theorem dX6_when_28 : decode cX6_when 28 = .ok (.ifCond .lt 33, 3) := by decide +kernel
theorem dX6_when_31 : decode cX6_when 31 = .ok (.aload_n 0, 1) := by decide +kernel
theorem dX6_when_32 : decode cX6_when 32 = .ok (.getfield 46, 3) := by decide +kernel
theorem dX6_when_35 : decode cX6_when 35 = .ok (.iload_n 1, 1) := by decide +kernel
theorem dX6_when_36 : decode cX6_when 36 = .ok (.iload_n 2, 1) := by decide +kernel
theorem dX6_when_37 : decode cX6_when 37 = .ok (.iastore, 1) := by decide +kernel
theorem dX6_when_38 : decode cX6_when 38 = .ok (.aload_n 0, 1) := by decide +kernel
theorem dX6_when_39 : decode cX6_when 39 = .ok (.aload_n 0, 1) := by decide +kernel
theorem dX6_when_40 : decode cX6_when 40 = .ok (.getfield 25, 3) := by decide +kernel
theorem dX6_when_43 : decode cX6_when 43 = .ok (.iload_n 1, 1) := by decide +kernel
theorem dX6_when_44 : decode cX6_when 44 = .ok (.iaload, 1) := by decide +kernel
theorem dX6_when_45 : decode cX6_when 45 = .ok (.invokevirtual 173, 3) := by decide +kernel
theorem dX6_when_48 : decode cX6_when 48 = .ok (.bipush (-9), 2) := by decide +kernel
theorem dX6_when_50 : decode cX6_when 50 = .ok (.if_icmp .ne 5, 3) := by decide +kernel
theorem dX6_when_53 : decode cX6_when 53 = .ok (.iload_n 2, 1) := by decide +kernel
theorem dX6_when_54 : decode cX6_when 54 = .ok (.ireturn, 1) := by decide +kernel
theorem dX6_when_55 : decode cX6_when 55 = .ok (.iinc 2 (-1), 3) := by decide +kernel
theorem dX6_when_58 : decode cX6_when 58 = .ok (.goto (-31), 3) := by decide +kernel
theorem dX6_when_61 : decode cX6_when 61 = .ok (.bipush (-9), 2) := by decide +kernel
theorem dX6_when_63 : decode cX6_when 63 = .ok (.ireturn, 1) := by decide +kernel
set_option maxRecDepth 20000 in
theorem ggX6_reading_X6_isCourt : GoodIn wsX6_reading wsX6_isCourt := goodIn_r _ [9, 10, 16, 17, 18, 19, 20, 21, 22, 23, 24, 25, 26, 27, 28, 29, 30, 31, 32, 33, 34, 35, 36, 37, 38, 39, 40, 41, 42] (by decide +kernel) (by decide +kernel)
set_option maxRecDepth 20000 in
theorem gX6_reading_X6_isCourt : GoodIn wsX6_reading (wsV RX6 134 RX6 yX6_isCourt wsX6_isCourt) := goodIn_app (goodIn_of _ (by decide +kernel)) ggX6_reading_X6_isCourt
set_option maxRecDepth 20000 in
theorem ggX6_reading_X6_isYear : GoodIn wsX6_reading wsX6_isYear := goodIn_r _ [14, 15, 16, 17, 18, 19, 20, 21, 22, 23, 24, 25, 26, 27, 28, 29, 30, 31, 32, 33, 34, 35, 36, 37, 38, 39, 40, 41, 42] (by decide +kernel) (by decide +kernel)
set_option maxRecDepth 20000 in
theorem gX6_reading_X6_isYear : GoodIn wsX6_reading (wsV RX6 137 RX6 yX6_isYear wsX6_isYear) := goodIn_app (goodIn_of _ (by decide +kernel)) ggX6_reading_X6_isYear
theorem dX6_reading_0 : decode cX6_reading 0 = .ok (.aload_n 0, 1) := by decide +kernel
theorem dX6_reading_1 : decode cX6_reading 1 = .ok (.iload_n 1, 1) := by decide +kernel
theorem dX6_reading_2 : decode cX6_reading 2 = .ok (.invokevirtual 134, 3) := by decide +kernel
theorem dX6_reading_5 : decode cX6_reading 5 = .ok (.ifCond .ne 5, 3) := by decide +kernel
theorem dX6_reading_8 : decode cX6_reading 8 = .ok (.iconst (-1), 1) := by decide +kernel
theorem dX6_reading_9 : decode cX6_reading 9 = .ok (.ireturn, 1) := by decide +kernel
theorem dX6_reading_10 : decode cX6_reading 10 = .ok (.aload_n 0, 1) := by decide +kernel
theorem dX6_reading_11 : decode cX6_reading 11 = .ok (.iload_n 2, 1) := by decide +kernel
theorem dX6_reading_12 : decode cX6_reading 12 = .ok (.invokevirtual 137, 3) := by decide +kernel
theorem dX6_reading_15 : decode cX6_reading 15 = .ok (.ifCond .ne 6, 3) := by decide +kernel
theorem dX6_reading_18 : decode cX6_reading 18 = .ok (.bipush (-2), 2) := by decide +kernel
theorem dX6_reading_20 : decode cX6_reading 20 = .ok (.ireturn, 1) := by decide +kernel
theorem dX6_reading_21 : decode cX6_reading 21 = .ok (.aload_n 0, 1) := by decide +kernel
theorem dX6_reading_22 : decode cX6_reading 22 = .ok (.getfield 114, 3) := by decide +kernel
theorem dX6_reading_25 : decode cX6_reading 25 = .ok (.bipush 8, 2) := by decide +kernel
theorem dX6_reading_27 : decode cX6_reading 27 = .ok (.if_icmp .ne 6, 3) := by decide +kernel
theorem dX6_reading_30 : decode cX6_reading 30 = .ok (.bipush (-4), 2) := by decide +kernel
theorem dX6_reading_32 : decode cX6_reading 32 = .ok (.ireturn, 1) := by decide +kernel
theorem dX6_reading_33 : decode cX6_reading 33 = .ok (.aload_n 0, 1) := by decide +kernel
theorem dX6_reading_34 : decode cX6_reading 34 = .ok (.getfield 49, 3) := by decide +kernel
theorem dX6_reading_37 : decode cX6_reading 37 = .ok (.aload_n 0, 1) := by decide +kernel
theorem dX6_reading_38 : decode cX6_reading 38 = .ok (.getfield 114, 3) := by decide +kernel
theorem dX6_reading_41 : decode cX6_reading 41 = .ok (.iload_n 1, 1) := by decide +kernel
theorem dX6_reading_42 : decode cX6_reading 42 = .ok (.iastore, 1) := by decide +kernel
theorem dX6_reading_43 : decode cX6_reading 43 = .ok (.aload_n 0, 1) := by decide +kernel
theorem dX6_reading_44 : decode cX6_reading 44 = .ok (.getfield 52, 3) := by decide +kernel
theorem dX6_reading_47 : decode cX6_reading 47 = .ok (.aload_n 0, 1) := by decide +kernel
theorem dX6_reading_48 : decode cX6_reading 48 = .ok (.getfield 114, 3) := by decide +kernel
theorem dX6_reading_51 : decode cX6_reading 51 = .ok (.iload_n 2, 1) := by decide +kernel
theorem dX6_reading_52 : decode cX6_reading 52 = .ok (.iastore, 1) := by decide +kernel
theorem dX6_reading_53 : decode cX6_reading 53 = .ok (.aload_n 0, 1) := by decide +kernel
theorem dX6_reading_54 : decode cX6_reading 54 = .ok (.getfield 55, 3) := by decide +kernel
theorem dX6_reading_57 : decode cX6_reading 57 = .ok (.aload_n 0, 1) := by decide +kernel
theorem dX6_reading_58 : decode cX6_reading 58 = .ok (.getfield 114, 3) := by decide +kernel
theorem dX6_reading_61 : decode cX6_reading 61 = .ok (.iload_n 3, 1) := by decide +kernel
theorem dX6_reading_62 : decode cX6_reading 62 = .ok (.bastore, 1) := by decide +kernel
theorem dX6_reading_63 : decode cX6_reading 63 = .ok (.aload_n 0, 1) := by decide +kernel
theorem dX6_reading_64 : decode cX6_reading 64 = .ok (.dup, 1) := by decide +kernel
theorem dX6_reading_65 : decode cX6_reading 65 = .ok (.getfield 114, 3) := by decide +kernel
theorem dX6_reading_68 : decode cX6_reading 68 = .ok (.iconst 1, 1) := by decide +kernel
theorem dX6_reading_69 : decode cX6_reading 69 = .ok (.iadd, 1) := by decide +kernel
theorem dX6_reading_70 : decode cX6_reading 70 = .ok (.putfield 114, 3) := by decide +kernel
theorem dX6_reading_73 : decode cX6_reading 73 = .ok (.aload_n 0, 1) := by decide +kernel
theorem dX6_reading_74 : decode cX6_reading 74 = .ok (.getfield 114, 3) := by decide +kernel
theorem dX6_reading_77 : decode cX6_reading 77 = .ok (.iconst 1, 1) := by decide +kernel
theorem dX6_reading_78 : decode cX6_reading 78 = .ok (.isub, 1) := by decide +kernel
theorem dX6_reading_79 : decode cX6_reading 79 = .ok (.ireturn, 1) := by decide +kernel
set_option maxRecDepth 20000 in
theorem ggX6_back_X6_within : GoodIn wsX6_back wsX6_within := goodIn_r _ [5] (by decide +kernel) (by decide +kernel)
set_option maxRecDepth 20000 in
theorem gX6_back_X6_within : GoodIn wsX6_back (va_wsS RX6 68 yX6_within wsX6_within) := goodIn_app (goodIn_of _ (by decide +kernel)) ggX6_back_X6_within
theorem dX6_back_0 : decode cX6_back 0 = .ok (.iload_n 1, 1) := by decide +kernel
theorem dX6_back_1 : decode cX6_back 1 = .ok (.iconst 0, 1) := by decide +kernel
theorem dX6_back_2 : decode cX6_back 2 = .ok (.aload_n 0, 1) := by decide +kernel
theorem dX6_back_3 : decode cX6_back 3 = .ok (.getfield 114, 3) := by decide +kernel
theorem dX6_back_6 : decode cX6_back 6 = .ok (.invokestatic 68, 3) := by decide +kernel
theorem dX6_back_9 : decode cX6_back 9 = .ok (.ifCond .ne 6, 3) := by decide +kernel
theorem dX6_back_12 : decode cX6_back 12 = .ok (.bipush (-2), 2) := by decide +kernel
theorem dX6_back_14 : decode cX6_back 14 = .ok (.ireturn, 1) := by decide +kernel
theorem dX6_back_15 : decode cX6_back 15 = .ok (.aload_n 0, 1) := by decide +kernel
theorem dX6_back_16 : decode cX6_back 16 = .ok (.dup, 1) := by decide +kernel
theorem dX6_back_17 : decode cX6_back 17 = .ok (.getfield 114, 3) := by decide +kernel
theorem dX6_back_20 : decode cX6_back 20 = .ok (.iload_n 1, 1) := by decide +kernel
theorem dX6_back_21 : decode cX6_back 21 = .ok (.isub, 1) := by decide +kernel
theorem dX6_back_22 : decode cX6_back 22 = .ok (.putfield 114, 3) := by decide +kernel
theorem dX6_back_25 : decode cX6_back 25 = .ok (.aload_n 0, 1) := by decide +kernel
theorem dX6_back_26 : decode cX6_back 26 = .ok (.getfield 114, 3) := by decide +kernel
theorem dX6_back_29 : decode cX6_back 29 = .ok (.ireturn, 1) := by decide +kernel
set_option maxRecDepth 20000 in
theorem ggX6_areSo_X6_askNow : GoodIn wsX6_areSo wsX6_askNow := goodIn_r _ [9, 10, 11, 12, 13, 31, 32, 33, 34, 35, 36, 37, 38, 39, 40, 41, 42, 43, 44, 45, 46, 47, 48, 49, 50, 51, 52, 53, 54, 55, 56, 57] (by decide +kernel) (by decide +kernel)
set_option maxRecDepth 20000 in
theorem gX6_areSo_X6_askNow : GoodIn wsX6_areSo (wsV RX6 147 RX6 yX6_askNow wsX6_askNow) := goodIn_app (goodIn_of _ (by decide +kernel)) ggX6_areSo_X6_askNow
set_option maxRecDepth 20000 in
theorem ggX6_areSo_X6_isTempted : GoodIn wsX6_areSo wsX6_isTempted := goodIn_r _ [17, 18, 19, 20, 21, 8, 22, 10, 23, 11, 24, 25, 26, 27, 28, 29, 30, 31, 32, 33, 34, 35, 36, 37, 38, 39, 40, 41, 42, 43, 44, 45, 46, 47, 48, 49, 50, 51, 52, 53, 54, 55, 56, 57] (by decide +kernel) (by decide +kernel)
set_option maxRecDepth 20000 in
theorem gX6_areSo_X6_isTempted : GoodIn wsX6_areSo (wsV RX6 150 RX6 yX6_isTempted wsX6_isTempted) := goodIn_app (goodIn_of _ (by decide +kernel)) ggX6_areSo_X6_isTempted
theorem dX6_areSo_0 : decode cX6_areSo 0 = .ok (.aload_n 0, 1) := by decide +kernel
theorem dX6_areSo_1 : decode cX6_areSo 1 = .ok (.invokevirtual 147, 3) := by decide +kernel
theorem dX6_areSo_4 : decode cX6_areSo 4 = .ok (.iconst 0, 1) := by decide +kernel
theorem dX6_areSo_5 : decode cX6_areSo 5 = .ok (.istore_n 1, 1) := by decide +kernel
theorem dX6_areSo_6 : decode cX6_areSo 6 = .ok (.iload_n 1, 1) := by decide +kernel
theorem dX6_areSo_7 : decode cX6_areSo 7 = .ok (.aload_n 0, 1) := by decide +kernel
theorem dX6_areSo_8 : decode cX6_areSo 8 = .ok (.getfield 114, 3) := by decide +kernel
theorem dX6_areSo_11 : decode cX6_areSo 11 = .ok (.if_icmp .ge 36, 3) := by decide +kernel
theorem dX6_areSo_14 : decode cX6_areSo 14 = .ok (.aload_n 0, 1) := by decide +kernel
theorem dX6_areSo_15 : decode cX6_areSo 15 = .ok (.aload_n 0, 1) := by decide +kernel
theorem dX6_areSo_16 : decode cX6_areSo 16 = .ok (.getfield 49, 3) := by decide +kernel
theorem dX6_areSo_19 : decode cX6_areSo 19 = .ok (.iload_n 1, 1) := by decide +kernel
theorem dX6_areSo_20 : decode cX6_areSo 20 = .ok (.iaload, 1) := by decide +kernel
theorem dX6_areSo_21 : decode cX6_areSo 21 = .ok (.aload_n 0, 1) := by decide +kernel
theorem dX6_areSo_22 : decode cX6_areSo 22 = .ok (.getfield 52, 3) := by decide +kernel
theorem dX6_areSo_25 : decode cX6_areSo 25 = .ok (.iload_n 1, 1) := by decide +kernel
theorem dX6_areSo_26 : decode cX6_areSo 26 = .ok (.iaload, 1) := by decide +kernel
theorem dX6_areSo_27 : decode cX6_areSo 27 = .ok (.invokevirtual 150, 3) := by decide +kernel
theorem dX6_areSo_30 : decode cX6_areSo 30 = .ok (.aload_n 0, 1) := by decide +kernel
theorem dX6_areSo_31 : decode cX6_areSo 31 = .ok (.getfield 55, 3) := by decide +kernel
theorem dX6_areSo_34 : decode cX6_areSo 34 = .ok (.iload_n 1, 1) := by decide +kernel
theorem dX6_areSo_35 : decode cX6_areSo 35 = .ok (.baload, 1) := by decide +kernel
theorem dX6_areSo_36 : decode cX6_areSo 36 = .ok (.if_icmp .eq 5, 3) := by decide +kernel
theorem dX6_areSo_39 : decode cX6_areSo 39 = .ok (.iconst 0, 1) := by decide +kernel
theorem dX6_areSo_40 : decode cX6_areSo 40 = .ok (.ireturn, 1) := by decide +kernel
theorem dX6_areSo_41 : decode cX6_areSo 41 = .ok (.iinc 1 1, 3) := by decide +kernel
theorem dX6_areSo_44 : decode cX6_areSo 44 = .ok (.goto (-38), 3) := by decide +kernel
theorem dX6_areSo_47 : decode cX6_areSo 47 = .ok (.iconst 1, 1) := by decide +kernel
theorem dX6_areSo_48 : decode cX6_areSo 48 = .ok (.ireturn, 1) := by decide +kernel
set_option maxRecDepth 20000 in
theorem ggX6_worths_X6_isSon : GoodIn wsX6_worths wsX6_isSon := goodIn_r _ [6, 7, 39, 40, 41, 42, 43, 44, 45, 46, 47, 48, 49, 50, 51, 52, 53, 54, 55, 56, 57, 58, 59, 60, 61, 62, 63, 64, 65] (by decide +kernel) (by decide +kernel)
set_option maxRecDepth 20000 in
theorem gX6_worths_X6_isSon : GoodIn wsX6_worths (wsV RX6 131 RX6 yX6_isSon wsX6_isSon) := goodIn_app (goodIn_of _ (by decide +kernel)) ggX6_worths_X6_isSon
set_option maxRecDepth 20000 in
theorem ggX6_worths_X6_areSo : GoodIn wsX6_worths wsX6_areSo := goodIn_r _ [11, 12, 13, 14, 15, 16, 17, 18, 5, 19, 7, 20, 21, 22, 23, 24, 25, 26, 27, 28, 29, 30, 31, 32, 33, 34, 35, 36, 1, 37, 38, 39, 40, 41, 42, 43, 44, 45, 46, 47, 48, 49, 50, 51, 52, 53, 54, 55, 56, 57, 58, 59, 60, 61, 62, 63, 64, 65] (by decide +kernel) (by decide +kernel)
set_option maxRecDepth 20000 in
theorem gX6_worths_X6_areSo : GoodIn wsX6_worths (wsV RX6 176 RX6 yX6_areSo wsX6_areSo) := goodIn_app (goodIn_of _ (by decide +kernel)) ggX6_worths_X6_areSo
theorem dX6_worths_0 : decode cX6_worths 0 = .ok (.aload_n 0, 1) := by decide +kernel
theorem dX6_worths_1 : decode cX6_worths 1 = .ok (.iload_n 1, 1) := by decide +kernel
theorem dX6_worths_2 : decode cX6_worths 2 = .ok (.invokevirtual 131, 3) := by decide +kernel
theorem dX6_worths_5 : decode cX6_worths 5 = .ok (.ifCond .ne 5, 3) := by decide +kernel
theorem dX6_worths_8 : decode cX6_worths 8 = .ok (.iconst (-1), 1) := by decide +kernel
theorem dX6_worths_9 : decode cX6_worths 9 = .ok (.ireturn, 1) := by decide +kernel
theorem dX6_worths_10 : decode cX6_worths 10 = .ok (.aload_n 0, 1) := by decide +kernel
theorem dX6_worths_11 : decode cX6_worths 11 = .ok (.getfield 28, 3) := by decide +kernel
theorem dX6_worths_14 : decode cX6_worths 14 = .ok (.iload_n 1, 1) := by decide +kernel
theorem dX6_worths_15 : decode cX6_worths 15 = .ok (.iaload, 1) := by decide +kernel
theorem dX6_worths_16 : decode cX6_worths 16 = .ok (.istore_n 2, 1) := by decide +kernel
theorem dX6_worths_17 : decode cX6_worths 17 = .ok (.iconst 0, 1) := by decide +kernel
theorem dX6_worths_18 : decode cX6_worths 18 = .ok (.istore_n 3, 1) := by decide +kernel
theorem dX6_worths_19 : decode cX6_worths 19 = .ok (.iconst 0, 1) := by decide +kernel
theorem dX6_worths_20 : decode cX6_worths 20 = .ok (.istore 4, 2) := by decide +kernel
theorem dX6_worths_22 : decode cX6_worths 22 = .ok (.iload 4, 2) := by decide +kernel
theorem dX6_worths_24 : decode cX6_worths 24 = .ok (.bipush 9, 2) := by decide +kernel
theorem dX6_worths_26 : decode cX6_worths 26 = .ok (.if_icmp .gt 35, 3) := by decide +kernel
theorem dX6_worths_29 : decode cX6_worths 29 = .ok (.aload_n 0, 1) := by decide +kernel
theorem dX6_worths_30 : decode cX6_worths 30 = .ok (.getfield 28, 3) := by decide +kernel
theorem dX6_worths_33 : decode cX6_worths 33 = .ok (.iload_n 1, 1) := by decide +kernel
theorem dX6_worths_34 : decode cX6_worths 34 = .ok (.iload 4, 2) := by decide +kernel
theorem dX6_worths_36 : decode cX6_worths 36 = .ok (.iastore, 1) := by decide +kernel
theorem dX6_worths_37 : decode cX6_worths 37 = .ok (.iload_n 3, 1) := by decide +kernel
theorem dX6_worths_38 : decode cX6_worths 38 = .ok (.aload_n 0, 1) := by decide +kernel
theorem dX6_worths_39 : decode cX6_worths 39 = .ok (.invokevirtual 176, 3) := by decide +kernel
theorem dX6_worths_42 : decode cX6_worths 42 = .ok (.ifCond .eq 10, 3) := by decide +kernel
theorem dX6_worths_45 : decode cX6_worths 45 = .ok (.iconst 1, 1) := by decide +kernel
theorem dX6_worths_46 : decode cX6_worths 46 = .ok (.iload 4, 2) := by decide +kernel
theorem dX6_worths_48 : decode cX6_worths 48 = .ok (.ishl, 1) := by decide +kernel
theorem dX6_worths_49 : decode cX6_worths 49 = .ok (.goto 4, 3) := by decide +kernel
theorem dX6_worths_52 : decode cX6_worths 52 = .ok (.iconst 0, 1) := by decide +kernel
theorem dX6_worths_53 : decode cX6_worths 53 = .ok (.ior, 1) := by decide +kernel
theorem dX6_worths_54 : decode cX6_worths 54 = .ok (.istore_n 3, 1) := by decide +kernel
theorem dX6_worths_55 : decode cX6_worths 55 = .ok (.iinc 4 1, 3) := by decide +kernel
theorem dX6_worths_58 : decode cX6_worths 58 = .ok (.goto (-36), 3) := by decide +kernel
theorem dX6_worths_61 : decode cX6_worths 61 = .ok (.aload_n 0, 1) := by decide +kernel
theorem dX6_worths_62 : decode cX6_worths 62 = .ok (.getfield 28, 3) := by decide +kernel
theorem dX6_worths_65 : decode cX6_worths 65 = .ok (.iload_n 1, 1) := by decide +kernel
theorem dX6_worths_66 : decode cX6_worths 66 = .ok (.iload_n 2, 1) := by decide +kernel
theorem dX6_worths_67 : decode cX6_worths 67 = .ok (.iastore, 1) := by decide +kernel
theorem dX6_worths_68 : decode cX6_worths 68 = .ok (.iload_n 3, 1) := by decide +kernel
theorem dX6_worths_69 : decode cX6_worths 69 = .ok (.ireturn, 1) := by decide +kernel
set_option maxRecDepth 20000 in
theorem ggX6_kinds_X6_isSon : GoodIn wsX6_kinds wsX6_isSon := goodIn_r _ [6, 7, 39, 40, 41, 42, 43, 44, 45, 46, 47, 48, 49, 50, 51, 52, 53, 54, 55, 56, 57, 58, 59, 60, 61, 62, 63, 64, 65] (by decide +kernel) (by decide +kernel)
set_option maxRecDepth 20000 in
theorem gX6_kinds_X6_isSon : GoodIn wsX6_kinds (wsV RX6 131 RX6 yX6_isSon wsX6_isSon) := goodIn_app (goodIn_of _ (by decide +kernel)) ggX6_kinds_X6_isSon
set_option maxRecDepth 20000 in
theorem ggX6_kinds_X6_areSo : GoodIn wsX6_kinds wsX6_areSo := goodIn_r _ [11, 12, 13, 14, 15, 16, 17, 18, 5, 19, 7, 20, 21, 22, 23, 24, 25, 26, 27, 28, 29, 30, 31, 32, 33, 34, 35, 36, 37, 38, 1, 39, 40, 41, 42, 43, 44, 45, 46, 47, 48, 49, 50, 51, 52, 53, 54, 55, 56, 57, 58, 59, 60, 61, 62, 63, 64, 65] (by decide +kernel) (by decide +kernel)
set_option maxRecDepth 20000 in
theorem gX6_kinds_X6_areSo : GoodIn wsX6_kinds (wsV RX6 176 RX6 yX6_areSo wsX6_areSo) := goodIn_app (goodIn_of _ (by decide +kernel)) ggX6_kinds_X6_areSo
theorem dX6_kinds_0 : decode cX6_kinds 0 = .ok (.aload_n 0, 1) := by decide +kernel
theorem dX6_kinds_1 : decode cX6_kinds 1 = .ok (.iload_n 1, 1) := by decide +kernel
theorem dX6_kinds_2 : decode cX6_kinds 2 = .ok (.invokevirtual 131, 3) := by decide +kernel
theorem dX6_kinds_5 : decode cX6_kinds 5 = .ok (.ifCond .ne 5, 3) := by decide +kernel
theorem dX6_kinds_8 : decode cX6_kinds 8 = .ok (.iconst (-1), 1) := by decide +kernel
theorem dX6_kinds_9 : decode cX6_kinds 9 = .ok (.ireturn, 1) := by decide +kernel
theorem dX6_kinds_10 : decode cX6_kinds 10 = .ok (.aload_n 0, 1) := by decide +kernel
theorem dX6_kinds_11 : decode cX6_kinds 11 = .ok (.getfield 22, 3) := by decide +kernel
theorem dX6_kinds_14 : decode cX6_kinds 14 = .ok (.iload_n 1, 1) := by decide +kernel
theorem dX6_kinds_15 : decode cX6_kinds 15 = .ok (.iaload, 1) := by decide +kernel
theorem dX6_kinds_16 : decode cX6_kinds 16 = .ok (.istore_n 2, 1) := by decide +kernel
theorem dX6_kinds_17 : decode cX6_kinds 17 = .ok (.iconst 0, 1) := by decide +kernel
theorem dX6_kinds_18 : decode cX6_kinds 18 = .ok (.istore_n 3, 1) := by decide +kernel
theorem dX6_kinds_19 : decode cX6_kinds 19 = .ok (.iconst 0, 1) := by decide +kernel
theorem dX6_kinds_20 : decode cX6_kinds 20 = .ok (.istore 4, 2) := by decide +kernel
theorem dX6_kinds_22 : decode cX6_kinds 22 = .ok (.iload 4, 2) := by decide +kernel
theorem dX6_kinds_24 : decode cX6_kinds 24 = .ok (.iconst 3, 1) := by decide +kernel
theorem dX6_kinds_25 : decode cX6_kinds 25 = .ok (.if_icmp .ge 35, 3) := by decide +kernel
theorem dX6_kinds_28 : decode cX6_kinds 28 = .ok (.aload_n 0, 1) := by decide +kernel
theorem dX6_kinds_29 : decode cX6_kinds 29 = .ok (.getfield 22, 3) := by decide +kernel
theorem dX6_kinds_32 : decode cX6_kinds 32 = .ok (.iload_n 1, 1) := by decide +kernel
theorem dX6_kinds_33 : decode cX6_kinds 33 = .ok (.iload 4, 2) := by decide +kernel
theorem dX6_kinds_35 : decode cX6_kinds 35 = .ok (.iastore, 1) := by decide +kernel
theorem dX6_kinds_36 : decode cX6_kinds 36 = .ok (.iload_n 3, 1) := by decide +kernel
theorem dX6_kinds_37 : decode cX6_kinds 37 = .ok (.aload_n 0, 1) := by decide +kernel
theorem dX6_kinds_38 : decode cX6_kinds 38 = .ok (.invokevirtual 176, 3) := by decide +kernel
theorem dX6_kinds_41 : decode cX6_kinds 41 = .ok (.ifCond .eq 10, 3) := by decide +kernel
theorem dX6_kinds_44 : decode cX6_kinds 44 = .ok (.iconst 1, 1) := by decide +kernel
theorem dX6_kinds_45 : decode cX6_kinds 45 = .ok (.iload 4, 2) := by decide +kernel
theorem dX6_kinds_47 : decode cX6_kinds 47 = .ok (.ishl, 1) := by decide +kernel
theorem dX6_kinds_48 : decode cX6_kinds 48 = .ok (.goto 4, 3) := by decide +kernel
theorem dX6_kinds_51 : decode cX6_kinds 51 = .ok (.iconst 0, 1) := by decide +kernel
theorem dX6_kinds_52 : decode cX6_kinds 52 = .ok (.ior, 1) := by decide +kernel
theorem dX6_kinds_53 : decode cX6_kinds 53 = .ok (.istore_n 3, 1) := by decide +kernel
theorem dX6_kinds_54 : decode cX6_kinds 54 = .ok (.iinc 4 1, 3) := by decide +kernel
theorem dX6_kinds_57 : decode cX6_kinds 57 = .ok (.goto (-35), 3) := by decide +kernel
theorem dX6_kinds_60 : decode cX6_kinds 60 = .ok (.aload_n 0, 1) := by decide +kernel
theorem dX6_kinds_61 : decode cX6_kinds 61 = .ok (.getfield 22, 3) := by decide +kernel
theorem dX6_kinds_64 : decode cX6_kinds 64 = .ok (.iload_n 1, 1) := by decide +kernel
theorem dX6_kinds_65 : decode cX6_kinds 65 = .ok (.iload_n 2, 1) := by decide +kernel
theorem dX6_kinds_66 : decode cX6_kinds 66 = .ok (.iastore, 1) := by decide +kernel
theorem dX6_kinds_67 : decode cX6_kinds 67 = .ok (.iload_n 3, 1) := by decide +kernel
theorem dX6_kinds_68 : decode cX6_kinds 68 = .ok (.ireturn, 1) := by decide +kernel
set_option maxRecDepth 20000 in
theorem ggX6_fondness_X6_isSon : GoodIn wsX6_fondness wsX6_isSon := goodIn_r _ [6, 7, 39, 40, 41, 42, 43, 44, 45, 46, 47, 48, 49, 50, 51, 52, 53, 54, 55, 56, 57, 58, 59, 60, 61, 62, 63, 64, 65] (by decide +kernel) (by decide +kernel)
set_option maxRecDepth 20000 in
theorem gX6_fondness_X6_isSon : GoodIn wsX6_fondness (wsV RX6 131 RX6 yX6_isSon wsX6_isSon) := goodIn_app (goodIn_of _ (by decide +kernel)) ggX6_fondness_X6_isSon
set_option maxRecDepth 20000 in
theorem ggX6_fondness_X6_areSo : GoodIn wsX6_fondness wsX6_areSo := goodIn_r _ [11, 12, 13, 14, 15, 16, 17, 18, 5, 19, 7, 20, 21, 22, 23, 24, 25, 26, 27, 28, 29, 30, 31, 32, 33, 34, 35, 36, 37, 1, 38, 39, 40, 41, 42, 43, 44, 45, 46, 47, 48, 49, 50, 51, 52, 53, 54, 55, 56, 57, 58, 59, 60, 61, 62, 63, 64, 65] (by decide +kernel) (by decide +kernel)
set_option maxRecDepth 20000 in
theorem gX6_fondness_X6_areSo : GoodIn wsX6_fondness (wsV RX6 176 RX6 yX6_areSo wsX6_areSo) := goodIn_app (goodIn_of _ (by decide +kernel)) ggX6_fondness_X6_areSo
theorem dX6_fondness_0 : decode cX6_fondness 0 = .ok (.aload_n 0, 1) := by decide +kernel
theorem dX6_fondness_1 : decode cX6_fondness 1 = .ok (.iload_n 1, 1) := by decide +kernel
theorem dX6_fondness_2 : decode cX6_fondness 2 = .ok (.invokevirtual 131, 3) := by decide +kernel
theorem dX6_fondness_5 : decode cX6_fondness 5 = .ok (.ifCond .ne 5, 3) := by decide +kernel
theorem dX6_fondness_8 : decode cX6_fondness 8 = .ok (.iconst (-1), 1) := by decide +kernel
theorem dX6_fondness_9 : decode cX6_fondness 9 = .ok (.ireturn, 1) := by decide +kernel
theorem dX6_fondness_10 : decode cX6_fondness 10 = .ok (.aload_n 0, 1) := by decide +kernel
theorem dX6_fondness_11 : decode cX6_fondness 11 = .ok (.getfield 31, 3) := by decide +kernel
theorem dX6_fondness_14 : decode cX6_fondness 14 = .ok (.iload_n 1, 1) := by decide +kernel
theorem dX6_fondness_15 : decode cX6_fondness 15 = .ok (.iaload, 1) := by decide +kernel
theorem dX6_fondness_16 : decode cX6_fondness 16 = .ok (.istore_n 2, 1) := by decide +kernel
theorem dX6_fondness_17 : decode cX6_fondness 17 = .ok (.iconst 0, 1) := by decide +kernel
theorem dX6_fondness_18 : decode cX6_fondness 18 = .ok (.istore_n 3, 1) := by decide +kernel
theorem dX6_fondness_19 : decode cX6_fondness 19 = .ok (.iconst 0, 1) := by decide +kernel
theorem dX6_fondness_20 : decode cX6_fondness 20 = .ok (.istore 4, 2) := by decide +kernel
theorem dX6_fondness_22 : decode cX6_fondness 22 = .ok (.iload 4, 2) := by decide +kernel
theorem dX6_fondness_24 : decode cX6_fondness 24 = .ok (.iconst 3, 1) := by decide +kernel
theorem dX6_fondness_25 : decode cX6_fondness 25 = .ok (.if_icmp .gt 35, 3) := by decide +kernel
theorem dX6_fondness_28 : decode cX6_fondness 28 = .ok (.aload_n 0, 1) := by decide +kernel
theorem dX6_fondness_29 : decode cX6_fondness 29 = .ok (.getfield 31, 3) := by decide +kernel
theorem dX6_fondness_32 : decode cX6_fondness 32 = .ok (.iload_n 1, 1) := by decide +kernel
theorem dX6_fondness_33 : decode cX6_fondness 33 = .ok (.iload 4, 2) := by decide +kernel
theorem dX6_fondness_35 : decode cX6_fondness 35 = .ok (.iastore, 1) := by decide +kernel
theorem dX6_fondness_36 : decode cX6_fondness 36 = .ok (.iload_n 3, 1) := by decide +kernel
theorem dX6_fondness_37 : decode cX6_fondness 37 = .ok (.aload_n 0, 1) := by decide +kernel
theorem dX6_fondness_38 : decode cX6_fondness 38 = .ok (.invokevirtual 176, 3) := by decide +kernel
theorem dX6_fondness_41 : decode cX6_fondness 41 = .ok (.ifCond .eq 10, 3) := by decide +kernel
theorem dX6_fondness_44 : decode cX6_fondness 44 = .ok (.iconst 1, 1) := by decide +kernel
theorem dX6_fondness_45 : decode cX6_fondness 45 = .ok (.iload 4, 2) := by decide +kernel
theorem dX6_fondness_47 : decode cX6_fondness 47 = .ok (.ishl, 1) := by decide +kernel
theorem dX6_fondness_48 : decode cX6_fondness 48 = .ok (.goto 4, 3) := by decide +kernel
theorem dX6_fondness_51 : decode cX6_fondness 51 = .ok (.iconst 0, 1) := by decide +kernel
theorem dX6_fondness_52 : decode cX6_fondness 52 = .ok (.ior, 1) := by decide +kernel
theorem dX6_fondness_53 : decode cX6_fondness 53 = .ok (.istore_n 3, 1) := by decide +kernel
theorem dX6_fondness_54 : decode cX6_fondness 54 = .ok (.iinc 4 1, 3) := by decide +kernel
theorem dX6_fondness_57 : decode cX6_fondness 57 = .ok (.goto (-35), 3) := by decide +kernel
theorem dX6_fondness_60 : decode cX6_fondness 60 = .ok (.aload_n 0, 1) := by decide +kernel
theorem dX6_fondness_61 : decode cX6_fondness 61 = .ok (.getfield 31, 3) := by decide +kernel
theorem dX6_fondness_64 : decode cX6_fondness 64 = .ok (.iload_n 1, 1) := by decide +kernel
theorem dX6_fondness_65 : decode cX6_fondness 65 = .ok (.iload_n 2, 1) := by decide +kernel
theorem dX6_fondness_66 : decode cX6_fondness 66 = .ok (.iastore, 1) := by decide +kernel
theorem dX6_fondness_67 : decode cX6_fondness 67 = .ok (.iload_n 3, 1) := by decide +kernel
theorem dX6_fondness_68 : decode cX6_fondness 68 = .ok (.ireturn, 1) := by decide +kernel
theorem dX6_inLeastTerms_0 : decode cX6_inLeastTerms 0 = .ok (.lload_n 0, 1) := by decide +kernel
theorem dX6_inLeastTerms_1 : decode cX6_inLeastTerms 1 = .ok (.lstore 5, 2) := by decide +kernel
theorem dX6_inLeastTerms_3 : decode cX6_inLeastTerms 3 = .ok (.lload_n 2, 1) := by decide +kernel
theorem dX6_inLeastTerms_4 : decode cX6_inLeastTerms 4 = .ok (.lstore 7, 2) := by decide +kernel
theorem dX6_inLeastTerms_6 : decode cX6_inLeastTerms 6 = .ok (.lload 7, 2) := by decide +kernel
theorem dX6_inLeastTerms_8 : decode cX6_inLeastTerms 8 = .ok (.lconst 0, 1) := by decide +kernel
theorem dX6_inLeastTerms_9 : decode cX6_inLeastTerms 9 = .ok (.lcmp, 1) := by decide +kernel
theorem dX6_inLeastTerms_10 : decode cX6_inLeastTerms 10 = .ok (.ifCond .eq 21, 3) := by decide +kernel
theorem dX6_inLeastTerms_13 : decode cX6_inLeastTerms 13 = .ok (.lload 5, 2) := by decide +kernel
theorem dX6_inLeastTerms_15 : decode cX6_inLeastTerms 15 = .ok (.lload 7, 2) := by decide +kernel
theorem dX6_inLeastTerms_17 : decode cX6_inLeastTerms 17 = .ok (.lrem, 1) := by decide +kernel
theorem dX6_inLeastTerms_18 : decode cX6_inLeastTerms 18 = .ok (.lstore 9, 2) := by decide +kernel
theorem dX6_inLeastTerms_20 : decode cX6_inLeastTerms 20 = .ok (.lload 7, 2) := by decide +kernel
theorem dX6_inLeastTerms_22 : decode cX6_inLeastTerms 22 = .ok (.lstore 5, 2) := by decide +kernel
theorem dX6_inLeastTerms_24 : decode cX6_inLeastTerms 24 = .ok (.lload 9, 2) := by decide +kernel
theorem dX6_inLeastTerms_26 : decode cX6_inLeastTerms 26 = .ok (.lstore 7, 2) := by decide +kernel
theorem dX6_inLeastTerms_28 : decode cX6_inLeastTerms 28 = .ok (.goto (-22), 3) := by decide +kernel
theorem dX6_inLeastTerms_31 : decode cX6_inLeastTerms 31 = .ok (.iload 4, 2) := by decide +kernel
theorem dX6_inLeastTerms_33 : decode cX6_inLeastTerms 33 = .ok (.ifCond .ne 10, 3) := by decide +kernel
theorem dX6_inLeastTerms_36 : decode cX6_inLeastTerms 36 = .ok (.lload_n 0, 1) := by decide +kernel
theorem dX6_inLeastTerms_37 : decode cX6_inLeastTerms 37 = .ok (.lload 5, 2) := by decide +kernel
theorem dX6_inLeastTerms_39 : decode cX6_inLeastTerms 39 = .ok (.ldiv, 1) := by decide +kernel
theorem dX6_inLeastTerms_40 : decode cX6_inLeastTerms 40 = .ok (.goto 7, 3) := by decide +kernel
theorem dX6_inLeastTerms_43 : decode cX6_inLeastTerms 43 = .ok (.lload_n 2, 1) := by decide +kernel
theorem dX6_inLeastTerms_44 : decode cX6_inLeastTerms 44 = .ok (.lload 5, 2) := by decide +kernel
theorem dX6_inLeastTerms_46 : decode cX6_inLeastTerms 46 = .ok (.ldiv, 1) := by decide +kernel
theorem dX6_inLeastTerms_47 : decode cX6_inLeastTerms 47 = .ok (.lreturn, 1) := by decide +kernel
theorem dX6_sentSet_0 : decode cX6_sentSet 0 = .ok (.iconst 0, 1) := by decide +kernel
theorem dX6_sentSet_1 : decode cX6_sentSet 1 = .ok (.istore_n 1, 1) := by decide +kernel
theorem dX6_sentSet_2 : decode cX6_sentSet 2 = .ok (.iconst 0, 1) := by decide +kernel
theorem dX6_sentSet_3 : decode cX6_sentSet 3 = .ok (.istore_n 2, 1) := by decide +kernel
theorem dX6_sentSet_4 : decode cX6_sentSet 4 = .ok (.iload_n 2, 1) := by decide +kernel
theorem dX6_sentSet_5 : decode cX6_sentSet 5 = .ok (.aload_n 0, 1) := by decide +kernel
theorem dX6_sentSet_6 : decode cX6_sentSet 6 = .ok (.getfield 78, 3) := by decide +kernel
theorem dX6_sentSet_9 : decode cX6_sentSet 9 = .ok (.if_icmp .ge 30, 3) := by decide +kernel
theorem dX6_sentSet_12 : decode cX6_sentSet 12 = .ok (.iload_n 1, 1) := by decide +kernel
theorem dX6_sentSet_13 : decode cX6_sentSet 13 = .ok (.aload_n 0, 1) := by decide +kernel
theorem dX6_sentSet_14 : decode cX6_sentSet 14 = .ok (.getfield 34, 3) := by decide +kernel
theorem dX6_sentSet_17 : decode cX6_sentSet 17 = .ok (.iload_n 2, 1) := by decide +kernel
theorem dX6_sentSet_18 : decode cX6_sentSet 18 = .ok (.iaload, 1) := by decide +kernel
theorem dX6_sentSet_19 : decode cX6_sentSet 19 = .ok (.bipush (-9), 2) := by decide +kernel
theorem dX6_sentSet_21 : decode cX6_sentSet 21 = .ok (.if_icmp .ne 7, 3) := by decide +kernel
theorem dX6_sentSet_24 : decode cX6_sentSet 24 = .ok (.iconst 0, 1) := by decide +kernel
theorem dX6_sentSet_25 : decode cX6_sentSet 25 = .ok (.goto 6, 3) := by decide +kernel
theorem dX6_sentSet_28 : decode cX6_sentSet 28 = .ok (.iconst 1, 1) := by decide +kernel
theorem dX6_sentSet_29 : decode cX6_sentSet 29 = .ok (.iload_n 2, 1) := by decide +kernel
theorem dX6_sentSet_30 : decode cX6_sentSet 30 = .ok (.ishl, 1) := by decide +kernel
theorem dX6_sentSet_31 : decode cX6_sentSet 31 = .ok (.ior, 1) := by decide +kernel
theorem dX6_sentSet_32 : decode cX6_sentSet 32 = .ok (.istore_n 1, 1) := by decide +kernel
theorem dX6_sentSet_33 : decode cX6_sentSet 33 = .ok (.iinc 2 1, 3) := by decide +kernel
theorem dX6_sentSet_36 : decode cX6_sentSet 36 = .ok (.goto (-32), 3) := by decide +kernel
theorem dX6_sentSet_39 : decode cX6_sentSet 39 = .ok (.iload_n 1, 1) := by decide +kernel
theorem dX6_sentSet_40 : decode cX6_sentSet 40 = .ok (.ireturn, 1) := by decide +kernel
set_option maxRecDepth 20000 in
theorem ggX6_odds_X6_isYear : GoodIn wsX6_odds wsX6_isYear := goodIn_r _ [10, 11, 56, 57, 58, 59, 60, 61, 62, 63, 64, 65, 66, 67, 68, 69, 70, 71, 72, 73, 74, 75, 76, 77, 78, 79, 80, 81, 82] (by decide +kernel) (by decide +kernel)
set_option maxRecDepth 20000 in
theorem gX6_odds_X6_isYear : GoodIn wsX6_odds (wsV RX6 137 RX6 yX6_isYear wsX6_isYear) := goodIn_app (goodIn_of _ (by decide +kernel)) ggX6_odds_X6_isYear
set_option maxRecDepth 20000 in
theorem ggX6_odds_X6_within : GoodIn wsX6_odds wsX6_within := goodIn_r _ [14] (by decide +kernel) (by decide +kernel)
set_option maxRecDepth 20000 in
theorem gX6_odds_X6_within : GoodIn wsX6_odds (va_wsS RX6 68 yX6_within wsX6_within) := goodIn_app (goodIn_of _ (by decide +kernel)) ggX6_odds_X6_within
set_option maxRecDepth 20000 in
theorem ggX6_odds_X6_askNow : GoodIn wsX6_odds wsX6_askNow := goodIn_r _ [18, 3, 19, 20, 11, 56, 57, 58, 59, 60, 61, 62, 63, 64, 65, 66, 67, 68, 69, 70, 71, 72, 73, 74, 75, 76, 77, 78, 79, 80, 81, 82] (by decide +kernel) (by decide +kernel)
set_option maxRecDepth 20000 in
theorem gX6_odds_X6_askNow : GoodIn wsX6_odds (wsV RX6 147 RX6 yX6_askNow wsX6_askNow) := goodIn_app (goodIn_of _ (by decide +kernel)) ggX6_odds_X6_askNow
set_option maxRecDepth 20000 in
theorem ggX6_odds_X6_sentSet : GoodIn wsX6_odds wsX6_sentSet := goodIn_r _ [24, 3, 25, 56, 57, 58, 59, 60, 61, 62, 63, 64, 65, 66, 67, 68, 69, 70, 71, 72, 73, 74, 75, 76, 77, 78, 79, 80, 81, 82] (by decide +kernel) (by decide +kernel)
set_option maxRecDepth 20000 in
theorem gX6_odds_X6_sentSet : GoodIn wsX6_odds (wsV RX6 180 RX6 yX6_sentSet wsX6_sentSet) := goodIn_app (goodIn_of _ (by decide +kernel)) ggX6_odds_X6_sentSet
set_option maxRecDepth 20000 in
theorem ggX6_odds_X6_breakYear : GoodIn wsX6_odds wsX6_breakYear := goodIn_r _ [29, 11, 30, 31, 32, 9, 33, 1, 34, 35, 36, 37, 38, 39, 40, 41, 42, 3, 43, 19, 44, 45, 46, 47, 48, 49, 5, 56, 57, 58, 59, 60, 61, 62, 63, 64, 65, 66, 67, 68, 69, 70, 71, 72, 73, 74, 75, 76, 77, 78, 79, 80, 81, 82] (by decide +kernel) (by decide +kernel)
set_option maxRecDepth 20000 in
theorem gX6_odds_X6_breakYear : GoodIn wsX6_odds (wsV RX6 156 RX6 yX6_breakYear wsX6_breakYear) := goodIn_app (goodIn_of _ (by decide +kernel)) ggX6_odds_X6_breakYear
set_option maxRecDepth 20000 in
theorem ggX6_odds_X6_size : GoodIn wsX6_odds wsX6_size := goodIn_r _ [52] (by decide +kernel) (by decide +kernel)
set_option maxRecDepth 20000 in
theorem gX6_odds_X6_size : GoodIn wsX6_odds (va_wsS RX6 166 yX6_size wsX6_size) := goodIn_app (goodIn_of _ (by decide +kernel)) ggX6_odds_X6_size
set_option maxRecDepth 20000 in
theorem ggX6_odds_X6_inLeastTerms : GoodIn wsX6_odds wsX6_inLeastTerms := goodIn_r _ [55] (by decide +kernel) (by decide +kernel)
set_option maxRecDepth 20000 in
theorem gX6_odds_X6_inLeastTerms : GoodIn wsX6_odds (va_wsS RX6 183 yX6_inLeastTerms wsX6_inLeastTerms) := goodIn_app (goodIn_of _ (by decide +kernel)) ggX6_odds_X6_inLeastTerms
theorem dX6_odds_0 : decode cX6_odds 0 = .ok (.aload_n 0, 1) := by decide +kernel
theorem dX6_odds_1 : decode cX6_odds 1 = .ok (.getfield 72, 3) := by decide +kernel
theorem dX6_odds_4 : decode cX6_odds 4 = .ok (.ifCond .eq 20, 3) := by decide +kernel
theorem dX6_odds_7 : decode cX6_odds 7 = .ok (.aload_n 0, 1) := by decide +kernel
theorem dX6_odds_8 : decode cX6_odds 8 = .ok (.iload_n 1, 1) := by decide +kernel
theorem dX6_odds_9 : decode cX6_odds 9 = .ok (.invokevirtual 137, 3) := by decide +kernel
theorem dX6_odds_12 : decode cX6_odds 12 = .ok (.ifCond .eq 12, 3) := by decide +kernel
theorem dX6_odds_15 : decode cX6_odds 15 = .ok (.iload_n 2, 1) := by decide +kernel
theorem dX6_odds_16 : decode cX6_odds 16 = .ok (.iconst 0, 1) := by decide +kernel
theorem dX6_odds_17 : decode cX6_odds 17 = .ok (.iconst 1, 1) := by decide +kernel
theorem dX6_odds_18 : decode cX6_odds 18 = .ok (.invokestatic 68, 3) := by decide +kernel
theorem dX6_odds_21 : decode cX6_odds 21 = .ok (.ifCond .ne 7, 3) := by decide +kernel
theorem dX6_odds_24 : decode cX6_odds 24 = .ok (.ldc2_w 66, 3) := by decide +kernel
theorem dX6_odds_27 : decode cX6_odds 27 = .ok (.lreturn, 1) := by decide +kernel
theorem dX6_odds_28 : decode cX6_odds 28 = .ok (.aload_n 0, 1) := by decide +kernel
theorem dX6_odds_29 : decode cX6_odds 29 = .ok (.invokevirtual 147, 3) := by decide +kernel
theorem dX6_odds_32 : decode cX6_odds 32 = .ok (.iconst 0, 1) := by decide +kernel
theorem dX6_odds_33 : decode cX6_odds 33 = .ok (.istore_n 3, 1) := by decide +kernel
theorem dX6_odds_34 : decode cX6_odds 34 = .ok (.iload_n 3, 1) := by decide +kernel
theorem dX6_odds_35 : decode cX6_odds 35 = .ok (.aload_n 0, 1) := by decide +kernel
theorem dX6_odds_36 : decode cX6_odds 36 = .ok (.getfield 78, 3) := by decide +kernel
theorem dX6_odds_39 : decode cX6_odds 39 = .ok (.if_icmp .ge 21, 3) := by decide +kernel
theorem dX6_odds_42 : decode cX6_odds 42 = .ok (.aload_n 0, 1) := by decide +kernel
theorem dX6_odds_43 : decode cX6_odds 43 = .ok (.getfield 59, 3) := by decide +kernel
theorem dX6_odds_46 : decode cX6_odds 46 = .ok (.iload_n 3, 1) := by decide +kernel
theorem dX6_odds_47 : decode cX6_odds 47 = .ok (.aload_n 0, 1) := by decide +kernel
theorem dX6_odds_48 : decode cX6_odds 48 = .ok (.getfield 22, 3) := by decide +kernel
theorem dX6_odds_51 : decode cX6_odds 51 = .ok (.iload_n 3, 1) := by decide +kernel
theorem dX6_odds_52 : decode cX6_odds 52 = .ok (.iaload, 1) := by decide +kernel
theorem dX6_odds_53 : decode cX6_odds 53 = .ok (.iastore, 1) := by decide +kernel
theorem dX6_odds_54 : decode cX6_odds 54 = .ok (.iinc 3 1, 3) := by decide +kernel
theorem dX6_odds_57 : decode cX6_odds 57 = .ok (.goto (-23), 3) := by decide +kernel
theorem dX6_odds_60 : decode cX6_odds 60 = .ok (.aload_n 0, 1) := by decide +kernel
theorem dX6_odds_61 : decode cX6_odds 61 = .ok (.invokevirtual 180, 3) := by decide +kernel
theorem dX6_odds_64 : decode cX6_odds 64 = .ok (.istore_n 3, 1) := by decide +kernel
theorem dX6_odds_65 : decode cX6_odds 65 = .ok (.iconst 0, 1) := by decide +kernel
theorem dX6_odds_66 : decode cX6_odds 66 = .ok (.istore 4, 2) := by decide +kernel
theorem dX6_odds_68 : decode cX6_odds 68 = .ok (.iconst 0, 1) := by decide +kernel
theorem dX6_odds_69 : decode cX6_odds 69 = .ok (.istore 5, 2) := by decide +kernel
theorem dX6_odds_71 : decode cX6_odds 71 = .ok (.iload 5, 2) := by decide +kernel
theorem dX6_odds_73 : decode cX6_odds 73 = .ok (.iconst 1, 1) := by decide +kernel
theorem dX6_odds_74 : decode cX6_odds 74 = .ok (.aload_n 0, 1) := by decide +kernel
theorem dX6_odds_75 : decode cX6_odds 75 = .ok (.getfield 78, 3) := by decide +kernel
theorem dX6_odds_78 : decode cX6_odds 78 = .ok (.ishl, 1) := by decide +kernel
theorem dX6_odds_79 : decode cX6_odds 79 = .ok (.if_icmp .ge 94, 3) := by decide +kernel
theorem dX6_odds_82 : decode cX6_odds 82 = .ok (.iload 5, 2) := by decide +kernel
theorem dX6_odds_84 : decode cX6_odds 84 = .ok (.iload_n 3, 1) := by decide +kernel
theorem dX6_odds_85 : decode cX6_odds 85 = .ok (.iconst (-1), 1) := by decide +kernel
theorem dX6_odds_86 : decode cX6_odds 86 = .ok (.ixor, 1) := by decide +kernel
theorem dX6_odds_87 : decode cX6_odds 87 = .ok (.iand, 1) := by decide +kernel
theorem dX6_odds_88 : decode cX6_odds 88 = .ok (.ifCond .ne 79, 3) := by decide +kernel
theorem dX6_odds_91 : decode cX6_odds 91 = .ok (.iconst 0, 1) := by decide +kernel
theorem dX6_odds_92 : decode cX6_odds 92 = .ok (.istore 6, 2) := by decide +kernel
theorem dX6_odds_94 : decode cX6_odds 94 = .ok (.iload 6, 2) := by decide +kernel
theorem dX6_odds_96 : decode cX6_odds 96 = .ok (.aload_n 0, 1) := by decide +kernel
theorem dX6_odds_97 : decode cX6_odds 97 = .ok (.getfield 78, 3) := by decide +kernel
theorem dX6_odds_100 : decode cX6_odds 100 = .ok (.if_icmp .ge 38, 3) := by decide +kernel
theorem dX6_odds_103 : decode cX6_odds 103 = .ok (.aload_n 0, 1) := by decide +kernel
theorem dX6_odds_104 : decode cX6_odds 104 = .ok (.getfield 22, 3) := by decide +kernel
theorem dX6_odds_107 : decode cX6_odds 107 = .ok (.iload 6, 2) := by decide +kernel
theorem dX6_odds_109 : decode cX6_odds 109 = .ok (.iload 5, 2) := by decide +kernel
theorem dX6_odds_111 : decode cX6_odds 111 = .ok (.iload 6, 2) := by decide +kernel
theorem dX6_odds_113 : decode cX6_odds 113 = .ok (.ishr, 1) := by decide +kernel
theorem dX6_odds_114 : decode cX6_odds 114 = .ok (.iconst 1, 1) := by decide +kernel
theorem dX6_odds_115 : decode cX6_odds 115 = .ok (.iand, 1) := by decide +kernel
theorem dX6_odds_116 : decode cX6_odds 116 = .ok (.iconst 1, 1) := by decide +kernel
theorem dX6_odds_117 : decode cX6_odds 117 = .ok (.if_icmp .ne 7, 3) := by decide +kernel
theorem dX6_odds_120 : decode cX6_odds 120 = .ok (.iconst 2, 1) := by decide +kernel
theorem dX6_odds_121 : decode cX6_odds 121 = .ok (.goto 10, 3) := by decide +kernel
theorem dX6_odds_124 : decode cX6_odds 124 = .ok (.aload_n 0, 1) := by decide +kernel
theorem dX6_odds_125 : decode cX6_odds 125 = .ok (.getfield 59, 3) := by decide +kernel
theorem dX6_odds_128 : decode cX6_odds 128 = .ok (.iload 6, 2) := by decide +kernel
theorem dX6_odds_130 : decode cX6_odds 130 = .ok (.iaload, 1) := by decide +kernel
theorem dX6_odds_131 : decode cX6_odds 131 = .ok (.iastore, 1) := by decide +kernel
theorem dX6_odds_132 : decode cX6_odds 132 = .ok (.iinc 6 1, 3) := by decide +kernel
theorem dX6_odds_135 : decode cX6_odds 135 = .ok (.goto (-41), 3) := by decide +kernel
theorem dX6_odds_138 : decode cX6_odds 138 = .ok (.aload_n 0, 1) := by decide +kernel
theorem dX6_odds_139 : decode cX6_odds 139 = .ok (.invokevirtual 156, 3) := by decide +kernel
theorem dX6_odds_142 : decode cX6_odds 142 = .ok (.istore 6, 2) := by decide +kernel
theorem dX6_odds_144 : decode cX6_odds 144 = .ok (.iload 4, 2) := by decide +kernel
theorem dX6_odds_146 : decode cX6_odds 146 = .ok (.iload 6, 2) := by decide +kernel
theorem dX6_odds_148 : decode cX6_odds 148 = .ok (.bipush (-9), 2) := by decide +kernel
theorem dX6_odds_150 : decode cX6_odds 150 = .ok (.if_icmp .eq 13, 3) := by decide +kernel
theorem dX6_odds_153 : decode cX6_odds 153 = .ok (.iload 6, 2) := by decide +kernel
theorem dX6_odds_155 : decode cX6_odds 155 = .ok (.iload_n 1, 1) := by decide +kernel
theorem dX6_odds_156 : decode cX6_odds 156 = .ok (.if_icmp .gt 7, 3) := by decide +kernel
theorem dX6_odds_159 : decode cX6_odds 159 = .ok (.iconst 1, 1) := by decide +kernel
theorem dX6_odds_160 : decode cX6_odds 160 = .ok (.goto 4, 3) := by decide +kernel
theorem dX6_odds_163 : decode cX6_odds 163 = .ok (.iconst 0, 1) := by decide +kernel
theorem dX6_odds_164 : decode cX6_odds 164 = .ok (.iadd, 1) := by decide +kernel
theorem dX6_odds_165 : decode cX6_odds 165 = .ok (.istore 4, 2) := by decide +kernel
theorem dX6_odds_167 : decode cX6_odds 167 = .ok (.iinc 5 1, 3) := by decide +kernel
theorem dX6_odds_170 : decode cX6_odds 170 = .ok (.goto (-99), 3) := by decide +kernel
theorem dX6_odds_173 : decode cX6_odds 173 = .ok (.iconst 0, 1) := by decide +kernel
theorem dX6_odds_174 : decode cX6_odds 174 = .ok (.istore 5, 2) := by decide +kernel
theorem dX6_odds_176 : decode cX6_odds 176 = .ok (.iload 5, 2) := by decide +kernel
theorem dX6_odds_178 : decode cX6_odds 178 = .ok (.aload_n 0, 1) := by decide +kernel
theorem dX6_odds_179 : decode cX6_odds 179 = .ok (.getfield 78, 3) := by decide +kernel
theorem dX6_odds_182 : decode cX6_odds 182 = .ok (.if_icmp .ge 23, 3) := by decide +kernel
theorem dX6_odds_185 : decode cX6_odds 185 = .ok (.aload_n 0, 1) := by decide +kernel
theorem dX6_odds_186 : decode cX6_odds 186 = .ok (.getfield 22, 3) := by decide +kernel
theorem dX6_odds_189 : decode cX6_odds 189 = .ok (.iload 5, 2) := by decide +kernel
theorem dX6_odds_191 : decode cX6_odds 191 = .ok (.aload_n 0, 1) := by decide +kernel
theorem dX6_odds_192 : decode cX6_odds 192 = .ok (.getfield 59, 3) := by decide +kernel
theorem dX6_odds_195 : decode cX6_odds 195 = .ok (.iload 5, 2) := by decide +kernel
theorem dX6_odds_197 : decode cX6_odds 197 = .ok (.iaload, 1) := by decide +kernel
theorem dX6_odds_198 : decode cX6_odds 198 = .ok (.iastore, 1) := by decide +kernel
theorem dX6_odds_199 : decode cX6_odds 199 = .ok (.iinc 5 1, 3) := by decide +kernel
theorem dX6_odds_202 : decode cX6_odds 202 = .ok (.goto (-26), 3) := by decide +kernel
theorem dX6_odds_205 : decode cX6_odds 205 = .ok (.iload 4, 2) := by decide +kernel
theorem dX6_odds_207 : decode cX6_odds 207 = .ok (.i2l, 1) := by decide +kernel
theorem dX6_odds_208 : decode cX6_odds 208 = .ok (.lconst 1, 1) := by decide +kernel
theorem dX6_odds_209 : decode cX6_odds 209 = .ok (.iload_n 3, 1) := by decide +kernel
theorem dX6_odds_210 : decode cX6_odds 210 = .ok (.invokestatic 166, 3) := by decide +kernel
theorem dX6_odds_213 : decode cX6_odds 213 = .ok (.lshl, 1) := by decide +kernel
theorem dX6_odds_214 : decode cX6_odds 214 = .ok (.iload_n 2, 1) := by decide +kernel
theorem dX6_odds_215 : decode cX6_odds 215 = .ok (.invokestatic 183, 3) := by decide +kernel
theorem dX6_odds_218 : decode cX6_odds 218 = .ok (.lreturn, 1) := by decide +kernel
set_option maxRecDepth 20000 in
theorem ggX6_sheet_X6_isSheet : GoodIn wsX6_sheet wsX6_isSheet := goodIn_r _ [8, 9, 10, 7, 11] (by decide +kernel) (by decide +kernel)
set_option maxRecDepth 20000 in
theorem gX6_sheet_X6_isSheet : GoodIn wsX6_sheet (va_wsS RX6 84 yX6_isSheet wsX6_isSheet) := goodIn_app (goodIn_of _ (by decide +kernel)) ggX6_sheet_X6_isSheet
set_option maxRecDepth 20000 in
theorem ggX6_sheet_X6_isSort : GoodIn wsX6_sheet wsX6_isSort := goodIn_r _ [14, 9, 10, 7, 11] (by decide +kernel) (by decide +kernel)
set_option maxRecDepth 20000 in
theorem gX6_sheet_X6_isSort : GoodIn wsX6_sheet (va_wsS RX6 88 yX6_isSort wsX6_isSort) := goodIn_app (goodIn_of _ (by decide +kernel)) ggX6_sheet_X6_isSort
set_option maxRecDepth 20000 in
theorem ggX6_sheet_X6_fails : GoodIn wsX6_sheet wsX6_fails := goodIn_r _ [18, 1, 19, 20, 21, 22, 23, 24, 25, 26, 27, 28, 29, 30, 31, 32, 33, 34, 35, 36, 37, 38, 39, 40, 41, 42, 43, 44, 45] (by decide +kernel) (by decide +kernel)
set_option maxRecDepth 20000 in
theorem gX6_sheet_X6_fails : GoodIn wsX6_sheet (wsV RX6 95 RX6 yX6_fails wsX6_fails) := goodIn_app (goodIn_of _ (by decide +kernel)) ggX6_sheet_X6_fails
theorem dX6_sheet_0 : decode cX6_sheet 0 = .ok (.aload_n 0, 1) := by decide +kernel
theorem dX6_sheet_1 : decode cX6_sheet 1 = .ok (.iconst 0, 1) := by decide +kernel
theorem dX6_sheet_2 : decode cX6_sheet 2 = .ok (.putfield 62, 3) := by decide +kernel
theorem dX6_sheet_5 : decode cX6_sheet 5 = .ok (.iload_n 1, 1) := by decide +kernel
theorem dX6_sheet_6 : decode cX6_sheet 6 = .ok (.invokestatic 84, 3) := by decide +kernel
theorem dX6_sheet_9 : decode cX6_sheet 9 = .ok (.ifCond .ne 5, 3) := by decide +kernel
theorem dX6_sheet_12 : decode cX6_sheet 12 = .ok (.iconst (-1), 1) := by decide +kernel
theorem dX6_sheet_13 : decode cX6_sheet 13 = .ok (.ireturn, 1) := by decide +kernel
theorem dX6_sheet_14 : decode cX6_sheet 14 = .ok (.iload_n 2, 1) := by decide +kernel
theorem dX6_sheet_15 : decode cX6_sheet 15 = .ok (.invokestatic 88, 3) := by decide +kernel
theorem dX6_sheet_18 : decode cX6_sheet 18 = .ok (.ifCond .eq 9, 3) := by decide +kernel
theorem dX6_sheet_21 : decode cX6_sheet 21 = .ok (.iload_n 3, 1) := by decide +kernel
theorem dX6_sheet_22 : decode cX6_sheet 22 = .ok (.bipush 60, 2) := by decide +kernel
theorem dX6_sheet_24 : decode cX6_sheet 24 = .ok (.if_icmp .le 6, 3) := by decide +kernel
theorem dX6_sheet_27 : decode cX6_sheet 27 = .ok (.bipush (-2), 2) := by decide +kernel
theorem dX6_sheet_29 : decode cX6_sheet 29 = .ok (.ireturn, 1) := by decide +kernel
theorem dX6_sheet_30 : decode cX6_sheet 30 = .ok (.iload_n 3, 1) := by decide +kernel
theorem dX6_sheet_31 : decode cX6_sheet 31 = .ok (.ifCond .ge 9, 3) := by decide +kernel
theorem dX6_sheet_34 : decode cX6_sheet 34 = .ok (.aload_n 0, 1) := by decide +kernel
theorem dX6_sheet_35 : decode cX6_sheet 35 = .ok (.iconst 4, 1) := by decide +kernel
theorem dX6_sheet_36 : decode cX6_sheet 36 = .ok (.invokevirtual 95, 3) := by decide +kernel
theorem dX6_sheet_39 : decode cX6_sheet 39 = .ok (.ireturn, 1) := by decide +kernel
theorem dX6_sheet_40 : decode cX6_sheet 40 = .ok (.aload_n 0, 1) := by decide +kernel
theorem dX6_sheet_41 : decode cX6_sheet 41 = .ok (.getfield 9, 3) := by decide +kernel
theorem dX6_sheet_44 : decode cX6_sheet 44 = .ok (.iload_n 1, 1) := by decide +kernel
theorem dX6_sheet_45 : decode cX6_sheet 45 = .ok (.iload_n 2, 1) := by decide +kernel
theorem dX6_sheet_46 : decode cX6_sheet 46 = .ok (.iastore, 1) := by decide +kernel
theorem dX6_sheet_47 : decode cX6_sheet 47 = .ok (.aload_n 0, 1) := by decide +kernel
theorem dX6_sheet_48 : decode cX6_sheet 48 = .ok (.getfield 13, 3) := by decide +kernel
theorem dX6_sheet_51 : decode cX6_sheet 51 = .ok (.iload_n 1, 1) := by decide +kernel
theorem dX6_sheet_52 : decode cX6_sheet 52 = .ok (.iload_n 3, 1) := by decide +kernel
theorem dX6_sheet_53 : decode cX6_sheet 53 = .ok (.iastore, 1) := by decide +kernel
theorem dX6_sheet_54 : decode cX6_sheet 54 = .ok (.iconst 0, 1) := by decide +kernel
theorem dX6_sheet_55 : decode cX6_sheet 55 = .ok (.istore 4, 2) := by decide +kernel
theorem dX6_sheet_57 : decode cX6_sheet 57 = .ok (.iload 4, 2) := by decide +kernel
theorem dX6_sheet_59 : decode cX6_sheet 59 = .ok (.bipush 60, 2) := by decide +kernel
theorem dX6_sheet_61 : decode cX6_sheet 61 = .ok (.if_icmp .ge 22, 3) := by decide +kernel
theorem dX6_sheet_64 : decode cX6_sheet 64 = .ok (.aload_n 0, 1) := by decide +kernel
theorem dX6_sheet_65 : decode cX6_sheet 65 = .ok (.getfield 16, 3) := by decide +kernel
theorem dX6_sheet_68 : decode cX6_sheet 68 = .ok (.bipush 60, 2) := by decide +kernel
theorem dX6_sheet_70 : decode cX6_sheet 70 = .ok (.iload_n 1, 1) := by decide +kernel
theorem dX6_sheet_71 : decode cX6_sheet 71 = .ok (.imul, 1) := by decide +kernel
theorem dX6_sheet_72 : decode cX6_sheet 72 = .ok (.iload 4, 2) := by decide +kernel
theorem dX6_sheet_74 : decode cX6_sheet 74 = .ok (.iadd, 1) := by decide +kernel
theorem dX6_sheet_75 : decode cX6_sheet 75 = .ok (.iconst 0, 1) := by decide +kernel
end
section
theorem dX6_sheet_76 : decode cX6_sheet 76 = .ok (.iastore, 1) := by decide +kernel
theorem dX6_sheet_77 : decode cX6_sheet 77 = .ok (.iinc 4 1, 3) := by decide +kernel
theorem dX6_sheet_80 : decode cX6_sheet 80 = .ok (.goto (-23), 3) := by decide +kernel
theorem dX6_sheet_83 : decode cX6_sheet 83 = .ok (.iconst 1, 1) := by decide +kernel
theorem dX6_sheet_84 : decode cX6_sheet 84 = .ok (.ireturn, 1) := by decide +kernel
set_option maxRecDepth 20000 in
theorem ggX6_lose_X6_isSheet : GoodIn wsX6_lose wsX6_isSheet := goodIn_r _ [5, 6, 7, 4, 8] (by decide +kernel) (by decide +kernel)
set_option maxRecDepth 20000 in
theorem gX6_lose_X6_isSheet : GoodIn wsX6_lose (va_wsS RX6 84 yX6_isSheet wsX6_isSheet) := goodIn_app (goodIn_of _ (by decide +kernel)) ggX6_lose_X6_isSheet
theorem dX6_lose_0 : decode cX6_lose 0 = .ok (.iload_n 1, 1) := by decide +kernel
theorem dX6_lose_1 : decode cX6_lose 1 = .ok (.invokestatic 84, 3) := by decide +kernel
theorem dX6_lose_4 : decode cX6_lose 4 = .ok (.ifCond .ne 5, 3) := by decide +kernel
theorem dX6_lose_7 : decode cX6_lose 7 = .ok (.iconst (-1), 1) := by decide +kernel
theorem dX6_lose_8 : decode cX6_lose 8 = .ok (.ireturn, 1) := by decide +kernel
theorem dX6_lose_9 : decode cX6_lose 9 = .ok (.aload_n 0, 1) := by decide +kernel
theorem dX6_lose_10 : decode cX6_lose 10 = .ok (.getfield 9, 3) := by decide +kernel
theorem dX6_lose_13 : decode cX6_lose 13 = .ok (.iload_n 1, 1) := by decide +kernel
theorem dX6_lose_14 : decode cX6_lose 14 = .ok (.iaload, 1) := by decide +kernel
theorem dX6_lose_15 : decode cX6_lose 15 = .ok (.bipush (-9), 2) := by decide +kernel
theorem dX6_lose_17 : decode cX6_lose 17 = .ok (.if_icmp .ne 7, 3) := by decide +kernel
theorem dX6_lose_20 : decode cX6_lose 20 = .ok (.iconst 0, 1) := by decide +kernel
theorem dX6_lose_21 : decode cX6_lose 21 = .ok (.goto 4, 3) := by decide +kernel
theorem dX6_lose_24 : decode cX6_lose 24 = .ok (.iconst 1, 1) := by decide +kernel
theorem dX6_lose_25 : decode cX6_lose 25 = .ok (.istore_n 2, 1) := by decide +kernel
theorem dX6_lose_26 : decode cX6_lose 26 = .ok (.aload_n 0, 1) := by decide +kernel
theorem dX6_lose_27 : decode cX6_lose 27 = .ok (.getfield 9, 3) := by decide +kernel
theorem dX6_lose_30 : decode cX6_lose 30 = .ok (.iload_n 1, 1) := by decide +kernel
theorem dX6_lose_31 : decode cX6_lose 31 = .ok (.bipush (-9), 2) := by decide +kernel
theorem dX6_lose_33 : decode cX6_lose 33 = .ok (.iastore, 1) := by decide +kernel
theorem dX6_lose_34 : decode cX6_lose 34 = .ok (.iload_n 2, 1) := by decide +kernel
theorem dX6_lose_35 : decode cX6_lose 35 = .ok (.ireturn, 1) := by decide +kernel
set_option maxRecDepth 20000 in
theorem ggX6_put_X6_isSheet : GoodIn wsX6_put wsX6_isSheet := goodIn_r _ [8, 9, 10, 7, 11] (by decide +kernel) (by decide +kernel)
set_option maxRecDepth 20000 in
theorem gX6_put_X6_isSheet : GoodIn wsX6_put (va_wsS RX6 84 yX6_isSheet wsX6_isSheet) := goodIn_app (goodIn_of _ (by decide +kernel)) ggX6_put_X6_isSheet
set_option maxRecDepth 20000 in
theorem ggX6_put_X6_fails : GoodIn wsX6_put wsX6_fails := goodIn_r _ [15, 1, 16, 17, 18, 19, 20, 21, 22, 23, 24, 25, 26, 27, 28, 29, 30, 31, 32, 33, 34, 35, 36, 37, 38, 39, 40, 41, 42] (by decide +kernel) (by decide +kernel)
set_option maxRecDepth 20000 in
theorem gX6_put_X6_fails : GoodIn wsX6_put (wsV RX6 95 RX6 yX6_fails wsX6_fails) := goodIn_app (goodIn_of _ (by decide +kernel)) ggX6_put_X6_fails
set_option maxRecDepth 20000 in
theorem ggX6_put_X6_within : GoodIn wsX6_put wsX6_within := goodIn_r _ [11] (by decide +kernel) (by decide +kernel)
set_option maxRecDepth 20000 in
theorem gX6_put_X6_within : GoodIn wsX6_put (va_wsS RX6 68 yX6_within wsX6_within) := goodIn_app (goodIn_of _ (by decide +kernel)) ggX6_put_X6_within
theorem dX6_put_0 : decode cX6_put 0 = .ok (.aload_n 0, 1) := by decide +kernel
theorem dX6_put_1 : decode cX6_put 1 = .ok (.iconst 0, 1) := by decide +kernel
theorem dX6_put_2 : decode cX6_put 2 = .ok (.putfield 62, 3) := by decide +kernel
theorem dX6_put_5 : decode cX6_put 5 = .ok (.iload_n 1, 1) := by decide +kernel
theorem dX6_put_6 : decode cX6_put 6 = .ok (.invokestatic 84, 3) := by decide +kernel
theorem dX6_put_9 : decode cX6_put 9 = .ok (.ifCond .ne 5, 3) := by decide +kernel
theorem dX6_put_12 : decode cX6_put 12 = .ok (.iconst (-1), 1) := by decide +kernel
theorem dX6_put_13 : decode cX6_put 13 = .ok (.ireturn, 1) := by decide +kernel
theorem dX6_put_14 : decode cX6_put 14 = .ok (.aload_n 0, 1) := by decide +kernel
theorem dX6_put_15 : decode cX6_put 15 = .ok (.getfield 9, 3) := by decide +kernel
theorem dX6_put_18 : decode cX6_put 18 = .ok (.iload_n 1, 1) := by decide +kernel
theorem dX6_put_19 : decode cX6_put 19 = .ok (.iaload, 1) := by decide +kernel
theorem dX6_put_20 : decode cX6_put 20 = .ok (.bipush (-9), 2) := by decide +kernel
theorem dX6_put_22 : decode cX6_put 22 = .ok (.if_icmp .ne 9, 3) := by decide +kernel
theorem dX6_put_25 : decode cX6_put 25 = .ok (.aload_n 0, 1) := by decide +kernel
theorem dX6_put_26 : decode cX6_put 26 = .ok (.iconst 1, 1) := by decide +kernel
theorem dX6_put_27 : decode cX6_put 27 = .ok (.invokevirtual 95, 3) := by decide +kernel
theorem dX6_put_30 : decode cX6_put 30 = .ok (.ireturn, 1) := by decide +kernel
theorem dX6_put_31 : decode cX6_put 31 = .ok (.iload_n 2, 1) := by decide +kernel
theorem dX6_put_32 : decode cX6_put 32 = .ok (.iconst 0, 1) := by decide +kernel
theorem dX6_put_33 : decode cX6_put 33 = .ok (.aload_n 0, 1) := by decide +kernel
theorem dX6_put_34 : decode cX6_put 34 = .ok (.getfield 13, 3) := by decide +kernel
theorem dX6_put_37 : decode cX6_put 37 = .ok (.iload_n 1, 1) := by decide +kernel
theorem dX6_put_38 : decode cX6_put 38 = .ok (.iaload, 1) := by decide +kernel
theorem dX6_put_39 : decode cX6_put 39 = .ok (.iconst 1, 1) := by decide +kernel
theorem dX6_put_40 : decode cX6_put 40 = .ok (.isub, 1) := by decide +kernel
theorem dX6_put_41 : decode cX6_put 41 = .ok (.invokestatic 68, 3) := by decide +kernel
theorem dX6_put_44 : decode cX6_put 44 = .ok (.ifCond .ne 9, 3) := by decide +kernel
theorem dX6_put_47 : decode cX6_put 47 = .ok (.aload_n 0, 1) := by decide +kernel
theorem dX6_put_48 : decode cX6_put 48 = .ok (.iconst 3, 1) := by decide +kernel
theorem dX6_put_49 : decode cX6_put 49 = .ok (.invokevirtual 95, 3) := by decide +kernel
theorem dX6_put_52 : decode cX6_put 52 = .ok (.ireturn, 1) := by decide +kernel
theorem dX6_put_53 : decode cX6_put 53 = .ok (.aload_n 0, 1) := by decide +kernel
theorem dX6_put_54 : decode cX6_put 54 = .ok (.getfield 16, 3) := by decide +kernel
theorem dX6_put_57 : decode cX6_put 57 = .ok (.bipush 60, 2) := by decide +kernel
theorem dX6_put_59 : decode cX6_put 59 = .ok (.iload_n 1, 1) := by decide +kernel
theorem dX6_put_60 : decode cX6_put 60 = .ok (.imul, 1) := by decide +kernel
theorem dX6_put_61 : decode cX6_put 61 = .ok (.iload_n 2, 1) := by decide +kernel
theorem dX6_put_62 : decode cX6_put 62 = .ok (.iadd, 1) := by decide +kernel
theorem dX6_put_63 : decode cX6_put 63 = .ok (.aload_n 0, 1) := by decide +kernel
theorem dX6_put_64 : decode cX6_put 64 = .ok (.getfield 9, 3) := by decide +kernel
theorem dX6_put_67 : decode cX6_put 67 = .ok (.iload_n 1, 1) := by decide +kernel
theorem dX6_put_68 : decode cX6_put 68 = .ok (.iaload, 1) := by decide +kernel
theorem dX6_put_69 : decode cX6_put 69 = .ok (.ifCond .ne 8, 3) := by decide +kernel
theorem dX6_put_72 : decode cX6_put 72 = .ok (.iload_n 3, 1) := by decide +kernel
theorem dX6_put_73 : decode cX6_put 73 = .ok (.i2b, 1) := by decide +kernel
theorem dX6_put_74 : decode cX6_put 74 = .ok (.goto 19, 3) := by decide +kernel
theorem dX6_put_77 : decode cX6_put 77 = .ok (.aload_n 0, 1) := by decide +kernel
theorem dX6_put_78 : decode cX6_put 78 = .ok (.getfield 9, 3) := by decide +kernel
theorem dX6_put_81 : decode cX6_put 81 = .ok (.iload_n 1, 1) := by decide +kernel
theorem dX6_put_82 : decode cX6_put 82 = .ok (.iaload, 1) := by decide +kernel
theorem dX6_put_83 : decode cX6_put 83 = .ok (.iconst 1, 1) := by decide +kernel
theorem dX6_put_84 : decode cX6_put 84 = .ok (.if_icmp .ne 8, 3) := by decide +kernel
theorem dX6_put_87 : decode cX6_put 87 = .ok (.iload_n 3, 1) := by decide +kernel
theorem dX6_put_88 : decode cX6_put 88 = .ok (.i2s, 1) := by decide +kernel
theorem dX6_put_89 : decode cX6_put 89 = .ok (.goto 4, 3) := by decide +kernel
theorem dX6_put_92 : decode cX6_put 92 = .ok (.iload_n 3, 1) := by decide +kernel
theorem dX6_put_93 : decode cX6_put 93 = .ok (.iastore, 1) := by decide +kernel
theorem dX6_put_94 : decode cX6_put 94 = .ok (.iconst 1, 1) := by decide +kernel
theorem dX6_put_95 : decode cX6_put 95 = .ok (.ireturn, 1) := by decide +kernel
set_option maxRecDepth 20000 in
theorem ggX6_cell_X6_isSheet : GoodIn wsX6_cell wsX6_isSheet := goodIn_r _ [9, 10, 11, 8, 12] (by decide +kernel) (by decide +kernel)
set_option maxRecDepth 20000 in
theorem gX6_cell_X6_isSheet : GoodIn wsX6_cell (va_wsS RX6 84 yX6_isSheet wsX6_isSheet) := goodIn_app (goodIn_of _ (by decide +kernel)) ggX6_cell_X6_isSheet
set_option maxRecDepth 20000 in
theorem ggX6_cell_X6_isSort : GoodIn wsX6_cell wsX6_isSort := goodIn_r _ [15, 10, 11, 8, 12] (by decide +kernel) (by decide +kernel)
set_option maxRecDepth 20000 in
theorem gX6_cell_X6_isSort : GoodIn wsX6_cell (va_wsS RX6 88 yX6_isSort wsX6_isSort) := goodIn_app (goodIn_of _ (by decide +kernel)) ggX6_cell_X6_isSort
set_option maxRecDepth 20000 in
theorem ggX6_cell_X6_lost : GoodIn wsX6_cell wsX6_lost := goodIn_r _ [19, 1, 2, 20, 21, 22, 23, 24, 25, 26, 27, 28, 29, 30, 31, 32, 33, 34, 35, 36, 37, 38, 39, 40, 41, 42, 43, 44, 45, 46] (by decide +kernel) (by decide +kernel)
set_option maxRecDepth 20000 in
theorem gX6_cell_X6_lost : GoodIn wsX6_cell (wsV RX6 187 RX6 yX6_lost wsX6_lost) := goodIn_app (goodIn_of _ (by decide +kernel)) ggX6_cell_X6_lost
set_option maxRecDepth 20000 in
theorem ggX6_cell_X6_within : GoodIn wsX6_cell wsX6_within := goodIn_r _ [12] (by decide +kernel) (by decide +kernel)
set_option maxRecDepth 20000 in
theorem gX6_cell_X6_within : GoodIn wsX6_cell (va_wsS RX6 68 yX6_within wsX6_within) := goodIn_app (goodIn_of _ (by decide +kernel)) ggX6_cell_X6_within
theorem dX6_cell_0 : decode cX6_cell 0 = .ok (.aload_n 0, 1) := by decide +kernel
theorem dX6_cell_1 : decode cX6_cell 1 = .ok (.iconst 0, 1) := by decide +kernel
theorem dX6_cell_2 : decode cX6_cell 2 = .ok (.putfield 62, 3) := by decide +kernel
theorem dX6_cell_5 : decode cX6_cell 5 = .ok (.iload_n 1, 1) := by decide +kernel
theorem dX6_cell_6 : decode cX6_cell 6 = .ok (.invokestatic 84, 3) := by decide +kernel
theorem dX6_cell_9 : decode cX6_cell 9 = .ok (.ifCond .eq 10, 3) := by decide +kernel
theorem dX6_cell_12 : decode cX6_cell 12 = .ok (.iload_n 3, 1) := by decide +kernel
theorem dX6_cell_13 : decode cX6_cell 13 = .ok (.invokestatic 88, 3) := by decide +kernel
theorem dX6_cell_16 : decode cX6_cell 16 = .ok (.ifCond .ne 7, 3) := by decide +kernel
theorem dX6_cell_19 : decode cX6_cell 19 = .ok (.ldc2_w 66, 3) := by decide +kernel
theorem dX6_cell_22 : decode cX6_cell 22 = .ok (.lreturn, 1) := by decide +kernel
theorem dX6_cell_23 : decode cX6_cell 23 = .ok (.aload_n 0, 1) := by decide +kernel
theorem dX6_cell_24 : decode cX6_cell 24 = .ok (.getfield 9, 3) := by decide +kernel
theorem dX6_cell_27 : decode cX6_cell 27 = .ok (.iload_n 1, 1) := by decide +kernel
theorem dX6_cell_28 : decode cX6_cell 28 = .ok (.iaload, 1) := by decide +kernel
theorem dX6_cell_29 : decode cX6_cell 29 = .ok (.bipush (-9), 2) := by decide +kernel
theorem dX6_cell_31 : decode cX6_cell 31 = .ok (.if_icmp .eq 19, 3) := by decide +kernel
theorem dX6_cell_34 : decode cX6_cell 34 = .ok (.aload_n 0, 1) := by decide +kernel
theorem dX6_cell_35 : decode cX6_cell 35 = .ok (.getfield 9, 3) := by decide +kernel
theorem dX6_cell_38 : decode cX6_cell 38 = .ok (.iload_n 1, 1) := by decide +kernel
theorem dX6_cell_39 : decode cX6_cell 39 = .ok (.iaload, 1) := by decide +kernel
theorem dX6_cell_40 : decode cX6_cell 40 = .ok (.iload_n 3, 1) := by decide +kernel
theorem dX6_cell_41 : decode cX6_cell 41 = .ok (.if_icmp .eq 9, 3) := by decide +kernel
theorem dX6_cell_44 : decode cX6_cell 44 = .ok (.aload_n 0, 1) := by decide +kernel
theorem dX6_cell_45 : decode cX6_cell 45 = .ok (.iconst 2, 1) := by decide +kernel
theorem dX6_cell_46 : decode cX6_cell 46 = .ok (.invokevirtual 187, 3) := by decide +kernel
theorem dX6_cell_49 : decode cX6_cell 49 = .ok (.lreturn, 1) := by decide +kernel
theorem dX6_cell_50 : decode cX6_cell 50 = .ok (.aload_n 0, 1) := by decide +kernel
theorem dX6_cell_51 : decode cX6_cell 51 = .ok (.getfield 9, 3) := by decide +kernel
theorem dX6_cell_54 : decode cX6_cell 54 = .ok (.iload_n 1, 1) := by decide +kernel
theorem dX6_cell_55 : decode cX6_cell 55 = .ok (.iaload, 1) := by decide +kernel
theorem dX6_cell_56 : decode cX6_cell 56 = .ok (.bipush (-9), 2) := by decide +kernel
theorem dX6_cell_58 : decode cX6_cell 58 = .ok (.if_icmp .ne 9, 3) := by decide +kernel
theorem dX6_cell_61 : decode cX6_cell 61 = .ok (.aload_n 0, 1) := by decide +kernel
theorem dX6_cell_62 : decode cX6_cell 62 = .ok (.iconst 1, 1) := by decide +kernel
theorem dX6_cell_63 : decode cX6_cell 63 = .ok (.invokevirtual 187, 3) := by decide +kernel
theorem dX6_cell_66 : decode cX6_cell 66 = .ok (.lreturn, 1) := by decide +kernel
theorem dX6_cell_67 : decode cX6_cell 67 = .ok (.iload_n 2, 1) := by decide +kernel
theorem dX6_cell_68 : decode cX6_cell 68 = .ok (.iconst 0, 1) := by decide +kernel
theorem dX6_cell_69 : decode cX6_cell 69 = .ok (.aload_n 0, 1) := by decide +kernel
theorem dX6_cell_70 : decode cX6_cell 70 = .ok (.getfield 13, 3) := by decide +kernel
theorem dX6_cell_73 : decode cX6_cell 73 = .ok (.iload_n 1, 1) := by decide +kernel
theorem dX6_cell_74 : decode cX6_cell 74 = .ok (.iaload, 1) := by decide +kernel
theorem dX6_cell_75 : decode cX6_cell 75 = .ok (.iconst 1, 1) := by decide +kernel
theorem dX6_cell_76 : decode cX6_cell 76 = .ok (.isub, 1) := by decide +kernel
theorem dX6_cell_77 : decode cX6_cell 77 = .ok (.invokestatic 68, 3) := by decide +kernel
theorem dX6_cell_80 : decode cX6_cell 80 = .ok (.ifCond .ne 9, 3) := by decide +kernel
theorem dX6_cell_83 : decode cX6_cell 83 = .ok (.aload_n 0, 1) := by decide +kernel
theorem dX6_cell_84 : decode cX6_cell 84 = .ok (.iconst 3, 1) := by decide +kernel
theorem dX6_cell_85 : decode cX6_cell 85 = .ok (.invokevirtual 187, 3) := by decide +kernel
theorem dX6_cell_88 : decode cX6_cell 88 = .ok (.lreturn, 1) := by decide +kernel
theorem dX6_cell_89 : decode cX6_cell 89 = .ok (.aload_n 0, 1) := by decide +kernel
theorem dX6_cell_90 : decode cX6_cell 90 = .ok (.getfield 16, 3) := by decide +kernel
theorem dX6_cell_93 : decode cX6_cell 93 = .ok (.bipush 60, 2) := by decide +kernel
theorem dX6_cell_95 : decode cX6_cell 95 = .ok (.iload_n 1, 1) := by decide +kernel
theorem dX6_cell_96 : decode cX6_cell 96 = .ok (.imul, 1) := by decide +kernel
theorem dX6_cell_97 : decode cX6_cell 97 = .ok (.iload_n 2, 1) := by decide +kernel
theorem dX6_cell_98 : decode cX6_cell 98 = .ok (.iadd, 1) := by decide +kernel
theorem dX6_cell_99 : decode cX6_cell 99 = .ok (.iaload, 1) := by decide +kernel
theorem dX6_cell_100 : decode cX6_cell 100 = .ok (.i2l, 1) := by decide +kernel
theorem dX6_cell_101 : decode cX6_cell 101 = .ok (.lreturn, 1) := by decide +kernel
set_option maxRecDepth 20000 in
theorem ggX6_copy_X6_isSheet : GoodIn wsX6_copy wsX6_isSheet := goodIn_r _ [8, 9, 10, 7, 11] (by decide +kernel) (by decide +kernel)
set_option maxRecDepth 20000 in
theorem gX6_copy_X6_isSheet : GoodIn wsX6_copy (va_wsS RX6 84 yX6_isSheet wsX6_isSheet) := goodIn_app (goodIn_of _ (by decide +kernel)) ggX6_copy_X6_isSheet
set_option maxRecDepth 20000 in
theorem ggX6_copy_X6_fails : GoodIn wsX6_copy wsX6_fails := goodIn_r _ [15, 1, 16, 17, 18, 19, 20, 21, 22, 23, 24, 25, 26, 27, 28, 29, 30, 31, 32, 33, 34, 35, 36, 37, 38, 39, 40, 41, 42] (by decide +kernel) (by decide +kernel)
set_option maxRecDepth 20000 in
theorem gX6_copy_X6_fails : GoodIn wsX6_copy (wsV RX6 95 RX6 yX6_fails wsX6_fails) := goodIn_app (goodIn_of _ (by decide +kernel)) ggX6_copy_X6_fails
theorem dX6_copy_0 : decode cX6_copy 0 = .ok (.aload_n 0, 1) := by decide +kernel
theorem dX6_copy_1 : decode cX6_copy 1 = .ok (.iconst 0, 1) := by decide +kernel
theorem dX6_copy_2 : decode cX6_copy 2 = .ok (.putfield 62, 3) := by decide +kernel
theorem dX6_copy_5 : decode cX6_copy 5 = .ok (.iload_n 1, 1) := by decide +kernel
theorem dX6_copy_6 : decode cX6_copy 6 = .ok (.invokestatic 84, 3) := by decide +kernel
theorem dX6_copy_9 : decode cX6_copy 9 = .ok (.ifCond .eq 10, 3) := by decide +kernel
theorem dX6_copy_12 : decode cX6_copy 12 = .ok (.iload_n 3, 1) := by decide +kernel
theorem dX6_copy_13 : decode cX6_copy 13 = .ok (.invokestatic 84, 3) := by decide +kernel
theorem dX6_copy_16 : decode cX6_copy 16 = .ok (.ifCond .ne 5, 3) := by decide +kernel
theorem dX6_copy_19 : decode cX6_copy 19 = .ok (.iconst (-1), 1) := by decide +kernel
theorem dX6_copy_20 : decode cX6_copy 20 = .ok (.ireturn, 1) := by decide +kernel
theorem dX6_copy_21 : decode cX6_copy 21 = .ok (.aload_n 0, 1) := by decide +kernel
theorem dX6_copy_22 : decode cX6_copy 22 = .ok (.getfield 9, 3) := by decide +kernel
theorem dX6_copy_25 : decode cX6_copy 25 = .ok (.iload_n 1, 1) := by decide +kernel
theorem dX6_copy_26 : decode cX6_copy 26 = .ok (.iaload, 1) := by decide +kernel
theorem dX6_copy_27 : decode cX6_copy 27 = .ok (.bipush (-9), 2) := by decide +kernel
theorem dX6_copy_29 : decode cX6_copy 29 = .ok (.if_icmp .eq 14, 3) := by decide +kernel
theorem dX6_copy_32 : decode cX6_copy 32 = .ok (.aload_n 0, 1) := by decide +kernel
theorem dX6_copy_33 : decode cX6_copy 33 = .ok (.getfield 9, 3) := by decide +kernel
theorem dX6_copy_36 : decode cX6_copy 36 = .ok (.iload_n 3, 1) := by decide +kernel
theorem dX6_copy_37 : decode cX6_copy 37 = .ok (.iaload, 1) := by decide +kernel
theorem dX6_copy_38 : decode cX6_copy 38 = .ok (.bipush (-9), 2) := by decide +kernel
theorem dX6_copy_40 : decode cX6_copy 40 = .ok (.if_icmp .ne 9, 3) := by decide +kernel
theorem dX6_copy_43 : decode cX6_copy 43 = .ok (.aload_n 0, 1) := by decide +kernel
theorem dX6_copy_44 : decode cX6_copy 44 = .ok (.iconst 1, 1) := by decide +kernel
theorem dX6_copy_45 : decode cX6_copy 45 = .ok (.invokevirtual 95, 3) := by decide +kernel
theorem dX6_copy_48 : decode cX6_copy 48 = .ok (.ireturn, 1) := by decide +kernel
theorem dX6_copy_49 : decode cX6_copy 49 = .ok (.aload_n 0, 1) := by decide +kernel
theorem dX6_copy_50 : decode cX6_copy 50 = .ok (.getfield 9, 3) := by decide +kernel
theorem dX6_copy_53 : decode cX6_copy 53 = .ok (.iload_n 1, 1) := by decide +kernel
theorem dX6_copy_54 : decode cX6_copy 54 = .ok (.iaload, 1) := by decide +kernel
theorem dX6_copy_55 : decode cX6_copy 55 = .ok (.aload_n 0, 1) := by decide +kernel
theorem dX6_copy_56 : decode cX6_copy 56 = .ok (.getfield 9, 3) := by decide +kernel
theorem dX6_copy_59 : decode cX6_copy 59 = .ok (.iload_n 3, 1) := by decide +kernel
theorem dX6_copy_60 : decode cX6_copy 60 = .ok (.iaload, 1) := by decide +kernel
theorem dX6_copy_61 : decode cX6_copy 61 = .ok (.if_icmp .eq 9, 3) := by decide +kernel
theorem dX6_copy_64 : decode cX6_copy 64 = .ok (.aload_n 0, 1) := by decide +kernel
theorem dX6_copy_65 : decode cX6_copy 65 = .ok (.iconst 2, 1) := by decide +kernel
theorem dX6_copy_66 : decode cX6_copy 66 = .ok (.invokevirtual 95, 3) := by decide +kernel
theorem dX6_copy_69 : decode cX6_copy 69 = .ok (.ireturn, 1) := by decide +kernel
theorem dX6_copy_70 : decode cX6_copy 70 = .ok (.iload_n 2, 1) := by decide +kernel
theorem dX6_copy_71 : decode cX6_copy 71 = .ok (.ifCond .lt 38, 3) := by decide +kernel
theorem dX6_copy_74 : decode cX6_copy 74 = .ok (.iload 4, 2) := by decide +kernel
theorem dX6_copy_76 : decode cX6_copy 76 = .ok (.ifCond .lt 33, 3) := by decide +kernel
theorem dX6_copy_79 : decode cX6_copy 79 = .ok (.iload 5, 2) := by decide +kernel
theorem dX6_copy_81 : decode cX6_copy 81 = .ok (.ifCond .lt 28, 3) := by decide +kernel
theorem dX6_copy_84 : decode cX6_copy 84 = .ok (.iload_n 2, 1) := by decide +kernel
theorem dX6_copy_85 : decode cX6_copy 85 = .ok (.aload_n 0, 1) := by decide +kernel
theorem dX6_copy_86 : decode cX6_copy 86 = .ok (.getfield 13, 3) := by decide +kernel
theorem dX6_copy_89 : decode cX6_copy 89 = .ok (.iload_n 1, 1) := by decide +kernel
theorem dX6_copy_90 : decode cX6_copy 90 = .ok (.iaload, 1) := by decide +kernel
theorem dX6_copy_91 : decode cX6_copy 91 = .ok (.if_icmp .gt 18, 3) := by decide +kernel
theorem dX6_copy_94 : decode cX6_copy 94 = .ok (.iload 4, 2) := by decide +kernel
theorem dX6_copy_96 : decode cX6_copy 96 = .ok (.aload_n 0, 1) := by decide +kernel
theorem dX6_copy_97 : decode cX6_copy 97 = .ok (.getfield 13, 3) := by decide +kernel
theorem dX6_copy_100 : decode cX6_copy 100 = .ok (.iload_n 3, 1) := by decide +kernel
theorem dX6_copy_101 : decode cX6_copy 101 = .ok (.iaload, 1) := by decide +kernel
theorem dX6_copy_102 : decode cX6_copy 102 = .ok (.if_icmp .gt 7, 3) := by decide +kernel
theorem dX6_copy_105 : decode cX6_copy 105 = .ok (.iconst 1, 1) := by decide +kernel
theorem dX6_copy_106 : decode cX6_copy 106 = .ok (.goto 4, 3) := by decide +kernel
theorem dX6_copy_109 : decode cX6_copy 109 = .ok (.iconst 0, 1) := by decide +kernel
theorem dX6_copy_110 : decode cX6_copy 110 = .ok (.istore 6, 2) := by decide +kernel
theorem dX6_copy_112 : decode cX6_copy 112 = .ok (.iload 6, 2) := by decide +kernel
theorem dX6_copy_114 : decode cX6_copy 114 = .ok (.ifCond .eq 30, 3) := by decide +kernel
theorem dX6_copy_117 : decode cX6_copy 117 = .ok (.iload 5, 2) := by decide +kernel
theorem dX6_copy_119 : decode cX6_copy 119 = .ok (.aload_n 0, 1) := by decide +kernel
theorem dX6_copy_120 : decode cX6_copy 120 = .ok (.getfield 13, 3) := by decide +kernel
theorem dX6_copy_123 : decode cX6_copy 123 = .ok (.iload_n 1, 1) := by decide +kernel
theorem dX6_copy_124 : decode cX6_copy 124 = .ok (.iaload, 1) := by decide +kernel
theorem dX6_copy_125 : decode cX6_copy 125 = .ok (.iload_n 2, 1) := by decide +kernel
theorem dX6_copy_126 : decode cX6_copy 126 = .ok (.isub, 1) := by decide +kernel
theorem dX6_copy_127 : decode cX6_copy 127 = .ok (.if_icmp .gt 17, 3) := by decide +kernel
theorem dX6_copy_130 : decode cX6_copy 130 = .ok (.iload 5, 2) := by decide +kernel
theorem dX6_copy_132 : decode cX6_copy 132 = .ok (.aload_n 0, 1) := by decide +kernel
theorem dX6_copy_133 : decode cX6_copy 133 = .ok (.getfield 13, 3) := by decide +kernel
theorem dX6_copy_136 : decode cX6_copy 136 = .ok (.iload_n 3, 1) := by decide +kernel
theorem dX6_copy_137 : decode cX6_copy 137 = .ok (.iaload, 1) := by decide +kernel
theorem dX6_copy_138 : decode cX6_copy 138 = .ok (.iload 4, 2) := by decide +kernel
theorem dX6_copy_140 : decode cX6_copy 140 = .ok (.isub, 1) := by decide +kernel
theorem dX6_copy_141 : decode cX6_copy 141 = .ok (.if_icmp .le 9, 3) := by decide +kernel
theorem dX6_copy_144 : decode cX6_copy 144 = .ok (.aload_n 0, 1) := by decide +kernel
theorem dX6_copy_145 : decode cX6_copy 145 = .ok (.iconst 3, 1) := by decide +kernel
theorem dX6_copy_146 : decode cX6_copy 146 = .ok (.invokevirtual 95, 3) := by decide +kernel
theorem dX6_copy_149 : decode cX6_copy 149 = .ok (.ireturn, 1) := by decide +kernel
theorem dX6_copy_150 : decode cX6_copy 150 = .ok (.iload_n 2, 1) := by decide +kernel
theorem dX6_copy_151 : decode cX6_copy 151 = .ok (.iload 4, 2) := by decide +kernel
theorem dX6_copy_153 : decode cX6_copy 153 = .ok (.if_icmp .ge 7, 3) := by decide +kernel
theorem dX6_copy_156 : decode cX6_copy 156 = .ok (.iconst 1, 1) := by decide +kernel
theorem dX6_copy_157 : decode cX6_copy 157 = .ok (.goto 4, 3) := by decide +kernel
theorem dX6_copy_160 : decode cX6_copy 160 = .ok (.iconst 0, 1) := by decide +kernel
theorem dX6_copy_161 : decode cX6_copy 161 = .ok (.istore 7, 2) := by decide +kernel
theorem dX6_copy_163 : decode cX6_copy 163 = .ok (.iconst 0, 1) := by decide +kernel
theorem dX6_copy_164 : decode cX6_copy 164 = .ok (.istore 8, 2) := by decide +kernel
theorem dX6_copy_166 : decode cX6_copy 166 = .ok (.iload 8, 2) := by decide +kernel
theorem dX6_copy_168 : decode cX6_copy 168 = .ok (.iload 5, 2) := by decide +kernel
theorem dX6_copy_170 : decode cX6_copy 170 = .ok (.if_icmp .ge 57, 3) := by decide +kernel
theorem dX6_copy_173 : decode cX6_copy 173 = .ok (.iload 7, 2) := by decide +kernel
theorem dX6_copy_175 : decode cX6_copy 175 = .ok (.ifCond .eq 13, 3) := by decide +kernel
theorem dX6_copy_178 : decode cX6_copy 178 = .ok (.iload 5, 2) := by decide +kernel
theorem dX6_copy_180 : decode cX6_copy 180 = .ok (.iconst 1, 1) := by decide +kernel
theorem dX6_copy_181 : decode cX6_copy 181 = .ok (.isub, 1) := by decide +kernel
theorem dX6_copy_182 : decode cX6_copy 182 = .ok (.iload 8, 2) := by decide +kernel
theorem dX6_copy_184 : decode cX6_copy 184 = .ok (.isub, 1) := by decide +kernel
theorem dX6_copy_185 : decode cX6_copy 185 = .ok (.goto 5, 3) := by decide +kernel
theorem dX6_copy_188 : decode cX6_copy 188 = .ok (.iload 8, 2) := by decide +kernel
theorem dX6_copy_190 : decode cX6_copy 190 = .ok (.istore 9, 2) := by decide +kernel
theorem dX6_copy_192 : decode cX6_copy 192 = .ok (.aload_n 0, 1) := by decide +kernel
theorem dX6_copy_193 : decode cX6_copy 193 = .ok (.getfield 16, 3) := by decide +kernel
theorem dX6_copy_196 : decode cX6_copy 196 = .ok (.bipush 60, 2) := by decide +kernel
theorem dX6_copy_198 : decode cX6_copy 198 = .ok (.iload_n 3, 1) := by decide +kernel
theorem dX6_copy_199 : decode cX6_copy 199 = .ok (.imul, 1) := by decide +kernel
theorem dX6_copy_200 : decode cX6_copy 200 = .ok (.iload 4, 2) := by decide +kernel
theorem dX6_copy_202 : decode cX6_copy 202 = .ok (.iadd, 1) := by decide +kernel
theorem dX6_copy_203 : decode cX6_copy 203 = .ok (.iload 9, 2) := by decide +kernel
theorem dX6_copy_205 : decode cX6_copy 205 = .ok (.iadd, 1) := by decide +kernel
theorem dX6_copy_206 : decode cX6_copy 206 = .ok (.aload_n 0, 1) := by decide +kernel
theorem dX6_copy_207 : decode cX6_copy 207 = .ok (.getfield 16, 3) := by decide +kernel
theorem dX6_copy_210 : decode cX6_copy 210 = .ok (.bipush 60, 2) := by decide +kernel
theorem dX6_copy_212 : decode cX6_copy 212 = .ok (.iload_n 1, 1) := by decide +kernel
theorem dX6_copy_213 : decode cX6_copy 213 = .ok (.imul, 1) := by decide +kernel
theorem dX6_copy_214 : decode cX6_copy 214 = .ok (.iload_n 2, 1) := by decide +kernel
theorem dX6_copy_215 : decode cX6_copy 215 = .ok (.iadd, 1) := by decide +kernel
theorem dX6_copy_216 : decode cX6_copy 216 = .ok (.iload 9, 2) := by decide +kernel
theorem dX6_copy_218 : decode cX6_copy 218 = .ok (.iadd, 1) := by decide +kernel
theorem dX6_copy_219 : decode cX6_copy 219 = .ok (.iaload, 1) := by decide +kernel
theorem dX6_copy_220 : decode cX6_copy 220 = .ok (.iastore, 1) := by decide +kernel
theorem dX6_copy_221 : decode cX6_copy 221 = .ok (.iinc 8 1, 3) := by decide +kernel
theorem dX6_copy_224 : decode cX6_copy 224 = .ok (.goto (-58), 3) := by decide +kernel
theorem dX6_copy_227 : decode cX6_copy 227 = .ok (.iload 5, 2) := by decide +kernel
theorem dX6_copy_229 : decode cX6_copy 229 = .ok (.ireturn, 1) := by decide +kernel
theorem dX6_begins_0 : decode cX6_begins 0 = .ok (.aload_n 0, 1) := by decide +kernel
theorem dX6_begins_1 : decode cX6_begins 1 = .ok (.bipush 31, 2) := by decide +kernel
theorem dX6_begins_3 : decode cX6_begins 3 = .ok (.aload_n 0, 1) := by decide +kernel
theorem dX6_begins_4 : decode cX6_begins 4 = .ok (.getfield 191, 3) := by decide +kernel
theorem dX6_begins_7 : decode cX6_begins 7 = .ok (.imul, 1) := by decide +kernel
theorem dX6_begins_8 : decode cX6_begins 8 = .ok (.iload_n 1, 1) := by decide +kernel
theorem dX6_begins_9 : decode cX6_begins 9 = .ok (.iadd, 1) := by decide +kernel
theorem dX6_begins_10 : decode cX6_begins 10 = .ok (.putfield 191, 3) := by decide +kernel
theorem dX6_begins_13 : decode cX6_begins 13 = .ok (.return_, 1) := by decide +kernel
set_option maxRecDepth 20000 in
theorem ggX6_tell_X6_isSon : GoodIn wsX6_tell wsX6_isSon := goodIn_r _ [7, 8, 14, 15, 16, 17, 18, 19, 20, 21, 22, 23, 24, 25, 26, 27, 28, 29, 30, 31, 32, 33, 34, 35, 36, 37, 38, 39, 40] (by decide +kernel) (by decide +kernel)
set_option maxRecDepth 20000 in
theorem gX6_tell_X6_isSon : GoodIn wsX6_tell (wsV RX6 131 RX6 yX6_isSon wsX6_isSon) := goodIn_app (goodIn_of _ (by decide +kernel)) ggX6_tell_X6_isSon
set_option maxRecDepth 20000 in
theorem ggX6_tell_X6_begins : GoodIn wsX6_tell wsX6_begins := goodIn_r _ [12, 13, 14, 15, 16, 17, 18, 19, 20, 21, 22, 23, 24, 25, 26, 27, 28, 29, 30, 31, 32, 33, 34, 35, 36, 37, 38, 39, 40] (by decide +kernel) (by decide +kernel)
set_option maxRecDepth 20000 in
theorem gX6_tell_X6_begins : GoodIn wsX6_tell (wsV RX6 194 RX6 yX6_begins wsX6_begins) := goodIn_app (goodIn_of _ (by decide +kernel)) ggX6_tell_X6_begins
theorem dX6_tell_0 : decode cX6_tell 0 = .ok (.aload_n 0, 1) := by decide +kernel
theorem dX6_tell_1 : decode cX6_tell 1 = .ok (.iload_n 1, 1) := by decide +kernel
theorem dX6_tell_2 : decode cX6_tell 2 = .ok (.invokevirtual 131, 3) := by decide +kernel
theorem dX6_tell_5 : decode cX6_tell 5 = .ok (.ifCond .ne 5, 3) := by decide +kernel
theorem dX6_tell_8 : decode cX6_tell 8 = .ok (.iconst (-1), 1) := by decide +kernel
theorem dX6_tell_9 : decode cX6_tell 9 = .ok (.ireturn, 1) := by decide +kernel
theorem dX6_tell_10 : decode cX6_tell 10 = .ok (.aload_n 0, 1) := by decide +kernel
theorem dX6_tell_11 : decode cX6_tell 11 = .ok (.getfield 28, 3) := by decide +kernel
theorem dX6_tell_14 : decode cX6_tell 14 = .ok (.iload_n 1, 1) := by decide +kernel
theorem dX6_tell_15 : decode cX6_tell 15 = .ok (.iaload, 1) := by decide +kernel
theorem dX6_tell_16 : decode cX6_tell 16 = .ok (.istore_n 2, 1) := by decide +kernel
theorem dX6_tell_17 : decode cX6_tell 17 = .ok (.aload_n 0, 1) := by decide +kernel
theorem dX6_tell_18 : decode cX6_tell 18 = .ok (.getfield 22, 3) := by decide +kernel
theorem dX6_tell_21 : decode cX6_tell 21 = .ok (.iload_n 1, 1) := by decide +kernel
theorem dX6_tell_22 : decode cX6_tell 22 = .ok (.iaload, 1) := by decide +kernel
theorem dX6_tell_23 : decode cX6_tell 23 = .ok (.lookupswitch 67 #[(1, 25), (2, 40)], 25) := by decide +kernel
theorem dX6_tell_48 : decode cX6_tell 48 = .ok (.aload_n 0, 1) := by decide +kernel
theorem dX6_tell_49 : decode cX6_tell 49 = .ok (.iconst 2, 1) := by decide +kernel
theorem dX6_tell_50 : decode cX6_tell 50 = .ok (.invokevirtual 194, 3) := by decide +kernel
theorem dX6_tell_53 : decode cX6_tell 53 = .ok (.aload_n 0, 1) := by decide +kernel
theorem dX6_tell_54 : decode cX6_tell 54 = .ok (.iconst 1, 1) := by decide +kernel
theorem dX6_tell_55 : decode cX6_tell 55 = .ok (.invokevirtual 194, 3) := by decide +kernel
theorem dX6_tell_58 : decode cX6_tell 58 = .ok (.iload_n 2, 1) := by decide +kernel
theorem dX6_tell_59 : decode cX6_tell 59 = .ok (.bipush 100, 2) := by decide +kernel
theorem dX6_tell_61 : decode cX6_tell 61 = .ok (.iadd, 1) := by decide +kernel
theorem dX6_tell_62 : decode cX6_tell 62 = .ok (.ireturn, 1) := by decide +kernel
theorem dX6_tell_63 : decode cX6_tell 63 = .ok (.aload_n 0, 1) := by decide +kernel
theorem dX6_tell_64 : decode cX6_tell 64 = .ok (.iconst 3, 1) := by decide +kernel
theorem dX6_tell_65 : decode cX6_tell 65 = .ok (.invokevirtual 194, 3) := by decide +kernel
theorem dX6_tell_68 : decode cX6_tell 68 = .ok (.aload_n 0, 1) := by decide +kernel
theorem dX6_tell_69 : decode cX6_tell 69 = .ok (.iconst 2, 1) := by decide +kernel
theorem dX6_tell_70 : decode cX6_tell 70 = .ok (.invokevirtual 194, 3) := by decide +kernel
theorem dX6_tell_73 : decode cX6_tell 73 = .ok (.aload_n 0, 1) := by decide +kernel
theorem dX6_tell_74 : decode cX6_tell 74 = .ok (.iconst 1, 1) := by decide +kernel
theorem dX6_tell_75 : decode cX6_tell 75 = .ok (.invokevirtual 194, 3) := by decide +kernel
theorem dX6_tell_78 : decode cX6_tell 78 = .ok (.aload_n 0, 1) := by decide +kernel
theorem dX6_tell_79 : decode cX6_tell 79 = .ok (.iconst 1, 1) := by decide +kernel
theorem dX6_tell_80 : decode cX6_tell 80 = .ok (.invokevirtual 194, 3) := by decide +kernel
theorem dX6_tell_83 : decode cX6_tell 83 = .ok (.iconst 2, 1) := by decide +kernel
theorem dX6_tell_84 : decode cX6_tell 84 = .ok (.iload_n 2, 1) := by decide +kernel
theorem dX6_tell_85 : decode cX6_tell 85 = .ok (.imul, 1) := by decide +kernel
theorem dX6_tell_86 : decode cX6_tell 86 = .ok (.bipush 100, 2) := by decide +kernel
theorem dX6_tell_88 : decode cX6_tell 88 = .ok (.iadd, 1) := by decide +kernel
theorem dX6_tell_89 : decode cX6_tell 89 = .ok (.ireturn, 1) := by decide +kernel
theorem dX6_tell_90 : decode cX6_tell 90 = .ok (.aload_n 0, 1) := by decide +kernel
theorem dX6_tell_91 : decode cX6_tell 91 = .ok (.iconst 1, 1) := by decide +kernel
theorem dX6_tell_92 : decode cX6_tell 92 = .ok (.invokevirtual 194, 3) := by decide +kernel
theorem dX6_tell_95 : decode cX6_tell 95 = .ok (.iload_n 2, 1) := by decide +kernel
theorem dX6_tell_96 : decode cX6_tell 96 = .ok (.ireturn, 1) := by decide +kernel
set_option maxRecDepth 20000 in
theorem ggX6_teach_X6_isSon : GoodIn wsX6_teach wsX6_isSon := goodIn_r _ [6, 7, 13, 14, 15, 16, 17, 18, 19, 20, 21, 22, 23, 24, 25, 26, 27, 28, 29, 30, 31, 32, 33, 34, 35, 36, 37, 38, 39] (by decide +kernel) (by decide +kernel)
set_option maxRecDepth 20000 in
theorem gX6_teach_X6_isSon : GoodIn wsX6_teach (wsV RX6 131 RX6 yX6_isSon wsX6_isSon) := goodIn_app (goodIn_of _ (by decide +kernel)) ggX6_teach_X6_isSon
set_option maxRecDepth 20000 in
theorem ggX6_teach_X6_begins : GoodIn wsX6_teach wsX6_begins := goodIn_r _ [11, 12, 13, 14, 15, 16, 17, 18, 19, 20, 21, 22, 23, 24, 25, 26, 27, 28, 29, 30, 31, 32, 33, 34, 35, 36, 37, 38, 39] (by decide +kernel) (by decide +kernel)
set_option maxRecDepth 20000 in
theorem gX6_teach_X6_begins : GoodIn wsX6_teach (wsV RX6 194 RX6 yX6_begins wsX6_begins) := goodIn_app (goodIn_of _ (by decide +kernel)) ggX6_teach_X6_begins
theorem dX6_teach_0 : decode cX6_teach 0 = .ok (.aload_n 0, 1) := by decide +kernel
theorem dX6_teach_1 : decode cX6_teach 1 = .ok (.iload_n 1, 1) := by decide +kernel
theorem dX6_teach_2 : decode cX6_teach 2 = .ok (.invokevirtual 131, 3) := by decide +kernel
theorem dX6_teach_5 : decode cX6_teach 5 = .ok (.ifCond .ne 5, 3) := by decide +kernel
theorem dX6_teach_8 : decode cX6_teach 8 = .ok (.iconst (-1), 1) := by decide +kernel
theorem dX6_teach_9 : decode cX6_teach 9 = .ok (.ireturn, 1) := by decide +kernel
theorem dX6_teach_10 : decode cX6_teach 10 = .ok (.aload_n 0, 1) := by decide +kernel
theorem dX6_teach_11 : decode cX6_teach 11 = .ok (.aload_n 0, 1) := by decide +kernel
theorem dX6_teach_12 : decode cX6_teach 12 = .ok (.getfield 22, 3) := by decide +kernel
theorem dX6_teach_15 : decode cX6_teach 15 = .ok (.iload_n 1, 1) := by decide +kernel
theorem dX6_teach_16 : decode cX6_teach 16 = .ok (.iaload, 1) := by decide +kernel
theorem dX6_teach_17 : decode cX6_teach 17 = .ok (.iconst 2, 1) := by decide +kernel
theorem dX6_teach_18 : decode cX6_teach 18 = .ok (.if_icmp .ne 7, 3) := by decide +kernel
theorem dX6_teach_21 : decode cX6_teach 21 = .ok (.iconst 5, 1) := by decide +kernel
theorem dX6_teach_22 : decode cX6_teach 22 = .ok (.goto 4, 3) := by decide +kernel
theorem dX6_teach_25 : decode cX6_teach 25 = .ok (.iconst 4, 1) := by decide +kernel
theorem dX6_teach_26 : decode cX6_teach 26 = .ok (.invokevirtual 194, 3) := by decide +kernel
theorem dX6_teach_29 : decode cX6_teach 29 = .ok (.aload_n 0, 1) := by decide +kernel
theorem dX6_teach_30 : decode cX6_teach 30 = .ok (.getfield 22, 3) := by decide +kernel
theorem dX6_teach_33 : decode cX6_teach 33 = .ok (.iload_n 1, 1) := by decide +kernel
theorem dX6_teach_34 : decode cX6_teach 34 = .ok (.iaload, 1) := by decide +kernel
theorem dX6_teach_35 : decode cX6_teach 35 = .ok (.iconst 2, 1) := by decide +kernel
theorem dX6_teach_36 : decode cX6_teach 36 = .ok (.if_icmp .ne 8, 3) := by decide +kernel
theorem dX6_teach_39 : decode cX6_teach 39 = .ok (.bipush 50, 2) := by decide +kernel
theorem dX6_teach_41 : decode cX6_teach 41 = .ok (.goto 4, 3) := by decide +kernel
theorem dX6_teach_44 : decode cX6_teach 44 = .ok (.iload_n 1, 1) := by decide +kernel
theorem dX6_teach_45 : decode cX6_teach 45 = .ok (.ireturn, 1) := by decide +kernel
set_option maxRecDepth 20000 in
theorem ggX6_as_X6_isSon : GoodIn wsX6_as wsX6_isSon := goodIn_r _ [7, 8, 16, 17, 18, 19, 20, 21, 22, 23, 24, 25, 26, 27, 28, 29, 30, 31, 32, 33, 34, 35, 36, 37, 38, 39, 40, 41, 42] (by decide +kernel) (by decide +kernel)
set_option maxRecDepth 20000 in
theorem gX6_as_X6_isSon : GoodIn wsX6_as (wsV RX6 131 RX6 yX6_isSon wsX6_isSon) := goodIn_app (goodIn_of _ (by decide +kernel)) ggX6_as_X6_isSon
set_option maxRecDepth 20000 in
theorem ggX6_as_X6_within : GoodIn wsX6_as wsX6_within := goodIn_r _ [11] (by decide +kernel) (by decide +kernel)
set_option maxRecDepth 20000 in
theorem gX6_as_X6_within : GoodIn wsX6_as (va_wsS RX6 68 yX6_within wsX6_within) := goodIn_app (goodIn_of _ (by decide +kernel)) ggX6_as_X6_within
set_option maxRecDepth 20000 in
theorem ggX6_as_X6_fails : GoodIn wsX6_as wsX6_fails := goodIn_r _ [15, 1, 16, 17, 18, 19, 20, 21, 22, 23, 24, 25, 26, 27, 28, 29, 30, 31, 32, 33, 34, 35, 36, 37, 38, 39, 40, 41, 42] (by decide +kernel) (by decide +kernel)
set_option maxRecDepth 20000 in
theorem gX6_as_X6_fails : GoodIn wsX6_as (wsV RX6 95 RX6 yX6_fails wsX6_fails) := goodIn_app (goodIn_of _ (by decide +kernel)) ggX6_as_X6_fails
theorem dX6_as_0 : decode cX6_as 0 = .ok (.aload_n 0, 1) := by decide +kernel
theorem dX6_as_1 : decode cX6_as 1 = .ok (.iconst 0, 1) := by decide +kernel
theorem dX6_as_2 : decode cX6_as 2 = .ok (.putfield 62, 3) := by decide +kernel
theorem dX6_as_5 : decode cX6_as 5 = .ok (.aload_n 0, 1) := by decide +kernel
theorem dX6_as_6 : decode cX6_as 6 = .ok (.iload_n 1, 1) := by decide +kernel
theorem dX6_as_7 : decode cX6_as 7 = .ok (.invokevirtual 131, 3) := by decide +kernel
theorem dX6_as_10 : decode cX6_as 10 = .ok (.ifCond .ne 5, 3) := by decide +kernel
theorem dX6_as_13 : decode cX6_as 13 = .ok (.iconst (-1), 1) := by decide +kernel
theorem dX6_as_14 : decode cX6_as 14 = .ok (.ireturn, 1) := by decide +kernel
theorem dX6_as_15 : decode cX6_as 15 = .ok (.iload_n 2, 1) := by decide +kernel
theorem dX6_as_16 : decode cX6_as 16 = .ok (.iconst 0, 1) := by decide +kernel
theorem dX6_as_17 : decode cX6_as 17 = .ok (.iconst 2, 1) := by decide +kernel
theorem dX6_as_18 : decode cX6_as 18 = .ok (.invokestatic 68, 3) := by decide +kernel
theorem dX6_as_21 : decode cX6_as 21 = .ok (.ifCond .ne 6, 3) := by decide +kernel
theorem dX6_as_24 : decode cX6_as 24 = .ok (.bipush (-2), 2) := by decide +kernel
theorem dX6_as_26 : decode cX6_as 26 = .ok (.ireturn, 1) := by decide +kernel
theorem dX6_as_27 : decode cX6_as 27 = .ok (.aload_n 0, 1) := by decide +kernel
theorem dX6_as_28 : decode cX6_as 28 = .ok (.getfield 22, 3) := by decide +kernel
theorem dX6_as_31 : decode cX6_as 31 = .ok (.iload_n 1, 1) := by decide +kernel
theorem dX6_as_32 : decode cX6_as 32 = .ok (.iaload, 1) := by decide +kernel
theorem dX6_as_33 : decode cX6_as 33 = .ok (.iload_n 2, 1) := by decide +kernel
theorem dX6_as_34 : decode cX6_as 34 = .ok (.if_icmp .lt 7, 3) := by decide +kernel
theorem dX6_as_37 : decode cX6_as 37 = .ok (.iconst 1, 1) := by decide +kernel
theorem dX6_as_38 : decode cX6_as 38 = .ok (.goto 8, 3) := by decide +kernel
theorem dX6_as_41 : decode cX6_as 41 = .ok (.aload_n 0, 1) := by decide +kernel
theorem dX6_as_42 : decode cX6_as 42 = .ok (.iconst 2, 1) := by decide +kernel
theorem dX6_as_43 : decode cX6_as 43 = .ok (.invokevirtual 95, 3) := by decide +kernel
theorem dX6_as_46 : decode cX6_as 46 = .ok (.ireturn, 1) := by decide +kernel
theorem dX6_trace_0 : decode cX6_trace 0 = .ok (.aload_n 0, 1) := by decide +kernel
theorem dX6_trace_1 : decode cX6_trace 1 = .ok (.getfield 191, 3) := by decide +kernel
theorem dX6_trace_4 : decode cX6_trace 4 = .ok (.ireturn, 1) := by decide +kernel
theorem dX6_fault_0 : decode cX6_fault 0 = .ok (.aload_n 0, 1) := by decide +kernel
theorem dX6_fault_1 : decode cX6_fault 1 = .ok (.getfield 62, 3) := by decide +kernel
theorem dX6_fault_4 : decode cX6_fault 4 = .ok (.ireturn, 1) := by decide +kernel
set_option maxRecDepth 20000 in
theorem ggX6_many_X6_sentSet : GoodIn wsX6_many wsX6_sentSet := goodIn_r _ [9, 1, 10, 14, 15, 16, 17, 18, 19, 20, 21, 22, 23, 24, 25, 26, 27, 28, 29, 30, 31, 32, 33, 34, 35, 36, 37, 38, 39, 40] (by decide +kernel) (by decide +kernel)
set_option maxRecDepth 20000 in
theorem gX6_many_X6_sentSet : GoodIn wsX6_many (wsV RX6 180 RX6 yX6_sentSet wsX6_sentSet) := goodIn_app (goodIn_of _ (by decide +kernel)) ggX6_many_X6_sentSet
set_option maxRecDepth 20000 in
theorem ggX6_many_X6_size : GoodIn wsX6_many wsX6_size := goodIn_r _ [13] (by decide +kernel) (by decide +kernel)
set_option maxRecDepth 20000 in
theorem gX6_many_X6_size : GoodIn wsX6_many (va_wsS RX6 166 yX6_size wsX6_size) := goodIn_app (goodIn_of _ (by decide +kernel)) ggX6_many_X6_size
theorem dX6_many_0 : decode cX6_many 0 = .ok (.iload_n 1, 1) := by decide +kernel
theorem dX6_many_1 : decode cX6_many 1 = .ok (.tableswitch 63 0 4 #[35, 40, 45, 50, 58], 35) := by decide +kernel
theorem dX6_many_36 : decode cX6_many 36 = .ok (.aload_n 0, 1) := by decide +kernel
theorem dX6_many_37 : decode cX6_many 37 = .ok (.getfield 78, 3) := by decide +kernel
theorem dX6_many_40 : decode cX6_many 40 = .ok (.ireturn, 1) := by decide +kernel
theorem dX6_many_41 : decode cX6_many 41 = .ok (.aload_n 0, 1) := by decide +kernel
theorem dX6_many_42 : decode cX6_many 42 = .ok (.getfield 72, 3) := by decide +kernel
theorem dX6_many_45 : decode cX6_many 45 = .ok (.ireturn, 1) := by decide +kernel
theorem dX6_many_46 : decode cX6_many 46 = .ok (.aload_n 0, 1) := by decide +kernel
theorem dX6_many_47 : decode cX6_many 47 = .ok (.getfield 75, 3) := by decide +kernel
theorem dX6_many_50 : decode cX6_many 50 = .ok (.ireturn, 1) := by decide +kernel
theorem dX6_many_51 : decode cX6_many 51 = .ok (.aload_n 0, 1) := by decide +kernel
theorem dX6_many_52 : decode cX6_many 52 = .ok (.invokevirtual 180, 3) := by decide +kernel
theorem dX6_many_55 : decode cX6_many 55 = .ok (.invokestatic 166, 3) := by decide +kernel
theorem dX6_many_58 : decode cX6_many 58 = .ok (.ireturn, 1) := by decide +kernel
theorem dX6_many_59 : decode cX6_many 59 = .ok (.aload_n 0, 1) := by decide +kernel
theorem dX6_many_60 : decode cX6_many 60 = .ok (.getfield 114, 3) := by decide +kernel
theorem dX6_many_63 : decode cX6_many 63 = .ok (.ireturn, 1) := by decide +kernel
theorem dX6_many_64 : decode cX6_many 64 = .ok (.bipush (-2), 2) := by decide +kernel
theorem dX6_many_66 : decode cX6_many 66 = .ok (.ireturn, 1) := by decide +kernel
theorem dJ6_bitCount_0f7a4_0 : decode cJ6_bitCount_0f7a4 0 = .ok (.iload_n 0, 1) := by decide +kernel
theorem dJ6_bitCount_0f7a4_1 : decode cJ6_bitCount_0f7a4 1 = .ok (.iload_n 0, 1) := by decide +kernel
theorem dJ6_bitCount_0f7a4_2 : decode cJ6_bitCount_0f7a4 2 = .ok (.iconst 1, 1) := by decide +kernel
theorem dJ6_bitCount_0f7a4_3 : decode cJ6_bitCount_0f7a4 3 = .ok (.iushr, 1) := by decide +kernel
theorem dJ6_bitCount_0f7a4_4 : decode cJ6_bitCount_0f7a4 4 = .ok (.ldc_w 265, 3) := by decide +kernel
theorem dJ6_bitCount_0f7a4_7 : decode cJ6_bitCount_0f7a4 7 = .ok (.iand, 1) := by decide +kernel
theorem dJ6_bitCount_0f7a4_8 : decode cJ6_bitCount_0f7a4 8 = .ok (.isub, 1) := by decide +kernel
theorem dJ6_bitCount_0f7a4_9 : decode cJ6_bitCount_0f7a4 9 = .ok (.istore_n 0, 1) := by decide +kernel
theorem dJ6_bitCount_0f7a4_10 : decode cJ6_bitCount_0f7a4 10 = .ok (.iload_n 0, 1) := by decide +kernel
theorem dJ6_bitCount_0f7a4_11 : decode cJ6_bitCount_0f7a4 11 = .ok (.ldc_w 266, 3) := by decide +kernel
theorem dJ6_bitCount_0f7a4_14 : decode cJ6_bitCount_0f7a4 14 = .ok (.iand, 1) := by decide +kernel
theorem dJ6_bitCount_0f7a4_15 : decode cJ6_bitCount_0f7a4 15 = .ok (.iload_n 0, 1) := by decide +kernel
theorem dJ6_bitCount_0f7a4_16 : decode cJ6_bitCount_0f7a4 16 = .ok (.iconst 2, 1) := by decide +kernel
theorem dJ6_bitCount_0f7a4_17 : decode cJ6_bitCount_0f7a4 17 = .ok (.iushr, 1) := by decide +kernel
theorem dJ6_bitCount_0f7a4_18 : decode cJ6_bitCount_0f7a4 18 = .ok (.ldc_w 266, 3) := by decide +kernel
theorem dJ6_bitCount_0f7a4_21 : decode cJ6_bitCount_0f7a4 21 = .ok (.iand, 1) := by decide +kernel
theorem dJ6_bitCount_0f7a4_22 : decode cJ6_bitCount_0f7a4 22 = .ok (.iadd, 1) := by decide +kernel
theorem dJ6_bitCount_0f7a4_23 : decode cJ6_bitCount_0f7a4 23 = .ok (.istore_n 0, 1) := by decide +kernel
theorem dJ6_bitCount_0f7a4_24 : decode cJ6_bitCount_0f7a4 24 = .ok (.iload_n 0, 1) := by decide +kernel
theorem dJ6_bitCount_0f7a4_25 : decode cJ6_bitCount_0f7a4 25 = .ok (.iload_n 0, 1) := by decide +kernel
theorem dJ6_bitCount_0f7a4_26 : decode cJ6_bitCount_0f7a4 26 = .ok (.iconst 4, 1) := by decide +kernel
theorem dJ6_bitCount_0f7a4_27 : decode cJ6_bitCount_0f7a4 27 = .ok (.iushr, 1) := by decide +kernel
theorem dJ6_bitCount_0f7a4_28 : decode cJ6_bitCount_0f7a4 28 = .ok (.iadd, 1) := by decide +kernel
theorem dJ6_bitCount_0f7a4_29 : decode cJ6_bitCount_0f7a4 29 = .ok (.ldc_w 267, 3) := by decide +kernel
theorem dJ6_bitCount_0f7a4_32 : decode cJ6_bitCount_0f7a4 32 = .ok (.iand, 1) := by decide +kernel
theorem dJ6_bitCount_0f7a4_33 : decode cJ6_bitCount_0f7a4 33 = .ok (.istore_n 0, 1) := by decide +kernel
theorem dJ6_bitCount_0f7a4_34 : decode cJ6_bitCount_0f7a4 34 = .ok (.iload_n 0, 1) := by decide +kernel
theorem dJ6_bitCount_0f7a4_35 : decode cJ6_bitCount_0f7a4 35 = .ok (.iload_n 0, 1) := by decide +kernel
theorem dJ6_bitCount_0f7a4_36 : decode cJ6_bitCount_0f7a4 36 = .ok (.bipush 8, 2) := by decide +kernel
theorem dJ6_bitCount_0f7a4_38 : decode cJ6_bitCount_0f7a4 38 = .ok (.iushr, 1) := by decide +kernel
theorem dJ6_bitCount_0f7a4_39 : decode cJ6_bitCount_0f7a4 39 = .ok (.iadd, 1) := by decide +kernel
theorem dJ6_bitCount_0f7a4_40 : decode cJ6_bitCount_0f7a4 40 = .ok (.istore_n 0, 1) := by decide +kernel
theorem dJ6_bitCount_0f7a4_41 : decode cJ6_bitCount_0f7a4 41 = .ok (.iload_n 0, 1) := by decide +kernel
theorem dJ6_bitCount_0f7a4_42 : decode cJ6_bitCount_0f7a4 42 = .ok (.iload_n 0, 1) := by decide +kernel
theorem dJ6_bitCount_0f7a4_43 : decode cJ6_bitCount_0f7a4 43 = .ok (.bipush 16, 2) := by decide +kernel
theorem dJ6_bitCount_0f7a4_45 : decode cJ6_bitCount_0f7a4 45 = .ok (.iushr, 1) := by decide +kernel
theorem dJ6_bitCount_0f7a4_46 : decode cJ6_bitCount_0f7a4 46 = .ok (.iadd, 1) := by decide +kernel
theorem dJ6_bitCount_0f7a4_47 : decode cJ6_bitCount_0f7a4 47 = .ok (.istore_n 0, 1) := by decide +kernel
theorem dJ6_bitCount_0f7a4_48 : decode cJ6_bitCount_0f7a4 48 = .ok (.iload_n 0, 1) := by decide +kernel
theorem dJ6_bitCount_0f7a4_49 : decode cJ6_bitCount_0f7a4 49 = .ok (.bipush 63, 2) := by decide +kernel
theorem dJ6_bitCount_0f7a4_51 : decode cJ6_bitCount_0f7a4 51 = .ok (.iand, 1) := by decide +kernel
theorem dJ6_bitCount_0f7a4_52 : decode cJ6_bitCount_0f7a4 52 = .ok (.ireturn, 1) := by decide +kernel
theorem dJ9_max_7cf53_0 : decode cJ9_max_7cf53 0 = .ok (.iload_n 0, 1) := by decide +kernel
theorem dJ9_max_7cf53_1 : decode cJ9_max_7cf53 1 = .ok (.iload_n 1, 1) := by decide +kernel
theorem dJ9_max_7cf53_2 : decode cJ9_max_7cf53 2 = .ok (.if_icmp .lt 7, 3) := by decide +kernel
theorem dJ9_max_7cf53_5 : decode cJ9_max_7cf53 5 = .ok (.iload_n 0, 1) := by decide +kernel
theorem dJ9_max_7cf53_6 : decode cJ9_max_7cf53 6 = .ok (.goto 4, 3) := by decide +kernel
theorem dJ9_max_7cf53_9 : decode cJ9_max_7cf53 9 = .ok (.iload_n 1, 1) := by decide +kernel
theorem dJ9_max_7cf53_10 : decode cJ9_max_7cf53 10 = .ok (.ireturn, 1) := by decide +kernel
theorem dJ9_min_7cf53_0 : decode cJ9_min_7cf53 0 = .ok (.iload_n 0, 1) := by decide +kernel
theorem dJ9_min_7cf53_1 : decode cJ9_min_7cf53 1 = .ok (.iload_n 1, 1) := by decide +kernel
theorem dJ9_min_7cf53_2 : decode cJ9_min_7cf53 2 = .ok (.if_icmp .gt 7, 3) := by decide +kernel
theorem dJ9_min_7cf53_5 : decode cJ9_min_7cf53 5 = .ok (.iload_n 0, 1) := by decide +kernel
theorem dJ9_min_7cf53_6 : decode cJ9_min_7cf53 6 = .ok (.goto 4, 3) := by decide +kernel
theorem dJ9_min_7cf53_9 : decode cJ9_min_7cf53 9 = .ok (.iload_n 1, 1) := by decide +kernel
theorem dJ9_min_7cf53_10 : decode cJ9_min_7cf53 10 = .ok (.ireturn, 1) := by decide +kernel
set_option maxRecDepth 20000 in
theorem ggL_law_X5_init : GoodIn wsL_law wsX5_init := goodIn_r _ [8, 9, 10, 11, 12, 13, 14, 15, 16, 17, 18, 19, 20, 21, 22, 23, 24, 25, 26, 27, 28, 29, 30, 31, 32, 33, 34, 35, 36, 37, 38, 39, 40, 41, 42, 43, 44, 45, 46, 47, 48, 49, 50, 51, 52, 53, 54, 55, 56, 57, 58, 59, 60, 61, 62, 63, 64, 65, 66, 67, 68, 69, 70, 71, 72, 73, 74, 75, 76, 77, 78, 79, 720, 721, 722, 723, 724, 725, 726, 727, 728, 756, 757, 758, 759, 760, 761, 762, 763, 764, 765, 766, 767, 768, 769, 770, 771, 772, 773, 774, 775, 776] (by decide +kernel) (by decide +kernel)
set_option maxRecDepth 20000 in
theorem gL_law_X5_init : GoodIn wsL_law (wsX5_init) := ggL_law_X5_init
set_option maxRecDepth 20000 in
theorem ggL_law_X6_init : GoodIn wsL_law wsX6_init := goodIn_r _ [82, 83, 10, 11, 39, 84, 85, 86, 87, 88, 89, 90, 91, 92, 93, 94, 95, 96, 97, 98, 70, 99, 100, 729, 730, 731, 732, 733, 734, 735, 736, 737, 738, 739, 740, 741, 742, 743, 744, 745, 746, 747, 748, 749, 750, 751, 752, 753, 754, 755] (by decide +kernel) (by decide +kernel)
set_option maxRecDepth 20000 in
theorem gL_law_X6_init : GoodIn wsL_law (wsX6_init) := ggL_law_X6_init
set_option maxRecDepth 20000 in
theorem ggL_law_X5_treaty : GoodIn wsL_law wsX5_treaty := goodIn_r _ [104, 33, 13, 17, 22, 105, 21, 106, 107, 108, 2, 109, 110, 111, 112, 113, 114, 115, 116, 117, 118, 119, 120, 121, 122, 123, 35, 124, 79, 125, 126, 127, 128, 129, 130, 131, 16, 132, 133, 134, 135, 136, 137, 138, 139, 41, 42, 40, 140, 141, 142, 143, 76, 144, 145, 146, 147, 148, 149, 150, 20, 151, 152, 153, 154, 155, 46, 47, 156, 157, 158, 159, 160, 161, 162, 163, 164, 165, 166, 167, 168, 50, 169, 170, 171, 172, 48, 173, 174, 175, 176, 51, 52, 53, 54, 177, 178, 179, 180, 181, 182, 183, 184, 185, 186, 187, 188, 189, 26, 31, 190, 191, 192, 193, 25, 194, 61, 62, 63, 64, 60, 720, 721, 722, 723, 724, 725, 726, 727, 728, 756, 757, 758, 759, 760, 761, 762, 763, 764, 765, 766, 773, 774, 775, 776, 769, 770, 771, 772, 767, 768] (by decide +kernel) (by decide +kernel)
set_option maxRecDepth 20000 in
theorem gL_law_X5_treaty : GoodIn wsL_law (wsV RL 13 RX5 yX5_treaty wsX5_treaty) := goodIn_app (goodIn_of _ (by decide +kernel)) ggL_law_X5_treaty
set_option maxRecDepth 20000 in
theorem ggL_law_X6_treaty : GoodIn wsL_law wsX6_treaty := goodIn_r _ [198, 199, 200, 201, 202, 203, 5, 204, 205, 206, 207, 208, 209, 210, 211, 212, 213, 214, 84, 85, 215, 216, 217, 218, 219, 220, 221, 222, 223, 224, 225, 226, 227, 228, 229, 86, 230, 231, 232, 233, 234, 235, 236, 237, 94, 238, 239, 240, 241, 95, 242, 243, 244, 245, 246, 247, 87, 88, 89, 90, 91, 92, 93, 248, 729, 730, 731, 732, 733, 734, 735, 736, 737, 738, 739, 740, 741, 742, 743, 744, 745, 746, 747, 748, 749, 750, 751, 752, 753, 754, 755] (by decide +kernel) (by decide +kernel)
set_option maxRecDepth 20000 in
theorem gL_law_X6_treaty : GoodIn wsL_law (wsV RL 17 RX6 yX6_treaty wsX6_treaty) := goodIn_app (goodIn_of _ (by decide +kernel)) ggL_law_X6_treaty
set_option maxRecDepth 20000 in
theorem ggL_law_X5_ofSon : GoodIn wsL_law wsX5_ofSon := goodIn_r _ [252, 21, 253, 254, 255, 256, 26, 257, 258, 259, 260, 261, 2, 262, 106, 263, 264, 265, 25, 266, 60, 720, 721, 722, 723, 724, 725, 726, 727, 728, 759, 760, 761, 762, 763, 764, 765, 766, 767, 768] (by decide +kernel) (by decide +kernel)
set_option maxRecDepth 20000 in
theorem gL_law_X5_ofSon : GoodIn wsL_law (wsV RL 18 RX5 yX5_ofSon wsX5_ofSon) := goodIn_app (goodIn_of _ (by decide +kernel)) ggL_law_X5_ofSon
set_option maxRecDepth 20000 in
theorem ggL_law_X6_ofSon : GoodIn wsL_law wsX6_ofSon := goodIn_r _ [270, 88, 89, 90, 91, 92, 93, 271, 272, 273, 5, 274, 201, 729, 730, 731, 732, 733, 734, 735, 736, 737, 738, 739, 740, 741, 742, 743, 744, 745, 746, 747, 748, 749, 750, 751, 752, 753, 754, 755] (by decide +kernel) (by decide +kernel)
set_option maxRecDepth 20000 in
theorem gL_law_X6_ofSon : GoodIn wsL_law (wsV RL 22 RX6 yX6_ofSon wsX6_ofSon) := goodIn_app (goodIn_of _ (by decide +kernel)) ggL_law_X6_ofSon
set_option maxRecDepth 20000 in
theorem ggL_law_X5_gain : GoodIn wsL_law wsX5_gain := goodIn_r _ [278, 21, 279, 280, 281, 282, 2, 283, 284, 285, 286, 287, 288, 289, 720, 721, 722, 723, 724, 725, 726, 727, 728, 759, 760, 761, 762, 763, 764, 765, 766] (by decide +kernel) (by decide +kernel)
set_option maxRecDepth 20000 in
theorem gL_law_X5_gain : GoodIn wsL_law (wsV RL 23 RX5 yX5_gain wsX5_gain) := goodIn_app (goodIn_of _ (by decide +kernel)) ggL_law_X5_gain
set_option maxRecDepth 20000 in
theorem ggL_law_X6_gain : GoodIn wsL_law wsX6_gain := goodIn_r _ [293, 87, 294, 295, 296, 5, 297, 246, 298, 299, 300, 301, 247, 729, 730, 731, 732, 733, 734, 735, 736, 737, 738, 739, 740, 741, 742, 743, 744, 745, 746, 747, 748, 749, 750, 751, 752, 753, 754, 755] (by decide +kernel) (by decide +kernel)
set_option maxRecDepth 20000 in
theorem gL_law_X6_gain : GoodIn wsL_law (wsV RL 26 RX6 yX6_gain wsX6_gain) := goodIn_app (goodIn_of _ (by decide +kernel)) ggL_law_X6_gain
set_option maxRecDepth 20000 in
theorem ggL_law_X5_tempt : GoodIn wsL_law wsX5_tempt := goodIn_r _ [305, 21, 279, 280, 281, 282, 2, 283, 284, 285, 286, 287, 288, 289, 720, 721, 722, 723, 724, 725, 726, 727, 728, 759, 760, 761, 762, 763, 764, 765, 766] (by decide +kernel) (by decide +kernel)
set_option maxRecDepth 20000 in
theorem gL_law_X5_tempt : GoodIn wsL_law (wsV RL 27 RX5 yX5_tempt wsX5_tempt) := goodIn_app (goodIn_of _ (by decide +kernel)) ggL_law_X5_tempt
set_option maxRecDepth 20000 in
theorem ggL_law_X6_tempt : GoodIn wsL_law wsX6_tempt := goodIn_r _ [309, 87, 294, 295, 296, 5, 297, 246, 298, 299, 300, 301, 247, 205, 206, 207, 729, 730, 731, 732, 733, 734, 735, 736, 737, 738, 739, 740, 741, 742, 743, 744, 745, 746, 747, 748, 749, 750, 751, 752, 753, 754, 755] (by decide +kernel) (by decide +kernel)
set_option maxRecDepth 20000 in
theorem gL_law_X6_tempt : GoodIn wsL_law (wsV RL 31 RX6 yX6_tempt wsX6_tempt) := goodIn_app (goodIn_of _ (by decide +kernel)) ggL_law_X6_tempt
set_option maxRecDepth 20000 in
theorem ggL_law_X5_send : GoodIn wsL_law wsX5_send := goodIn_r _ [313, 21, 254, 26, 257, 258, 259, 260, 261, 2, 262, 106, 280, 281, 282, 283, 284, 285, 286, 287, 288, 289, 263, 264, 265, 25, 266, 60, 720, 721, 722, 723, 724, 725, 726, 727, 728, 759, 760, 761, 762, 763, 764, 765, 766, 767, 768] (by decide +kernel) (by decide +kernel)
set_option maxRecDepth 20000 in
theorem gL_law_X5_send : GoodIn wsL_law (wsV RL 32 RX5 yX5_send wsX5_send) := goodIn_app (goodIn_of _ (by decide +kernel)) ggL_law_X5_send
set_option maxRecDepth 20000 in
theorem ggL_law_X6_send : GoodIn wsL_law wsX6_send := goodIn_r _ [317, 89, 92, 93, 271, 272, 273, 5, 274, 201, 294, 295, 296, 297, 246, 298, 299, 300, 301, 247, 729, 730, 731, 732, 733, 734, 735, 736, 737, 738, 739, 740, 741, 742, 743, 744, 745, 746, 747, 748, 749, 750, 751, 752, 753, 754, 755] (by decide +kernel) (by decide +kernel)
set_option maxRecDepth 20000 in
theorem gL_law_X6_send : GoodIn wsL_law (wsV RL 35 RX6 yX6_send wsX6_send) := goodIn_app (goodIn_of _ (by decide +kernel)) ggL_law_X6_send
set_option maxRecDepth 20000 in
theorem ggL_law_X5_home : GoodIn wsL_law wsX5_home := goodIn_r _ [321, 26, 258, 259, 260, 261, 2, 262, 21, 106, 263, 264, 265, 25, 266, 60, 720, 721, 722, 723, 724, 725, 726, 727, 728, 767, 768, 759, 760, 761, 762, 763, 764, 765, 766] (by decide +kernel) (by decide +kernel)
set_option maxRecDepth 20000 in
theorem gL_law_X5_home : GoodIn wsL_law (wsV RL 36 RX5 yX5_home wsX5_home) := goodIn_app (goodIn_of _ (by decide +kernel)) ggL_law_X5_home
set_option maxRecDepth 20000 in
theorem ggL_law_X6_home : GoodIn wsL_law wsX6_home := goodIn_r _ [325, 92, 93, 271, 272, 273, 5, 274, 201, 729, 730, 731, 732, 733, 734, 735, 736, 737, 738, 739, 740, 741, 742, 743, 744, 745, 746, 747, 748, 749, 750, 751, 752, 753, 754, 755] (by decide +kernel) (by decide +kernel)
set_option maxRecDepth 20000 in
theorem gL_law_X6_home : GoodIn wsL_law (wsV RL 40 RX6 yX6_home wsX6_home) := goodIn_app (goodIn_of _ (by decide +kernel)) ggL_law_X6_home
set_option maxRecDepth 20000 in
theorem ggL_law_X5_stake : GoodIn wsL_law wsX5_stake := goodIn_r _ [329, 26, 21, 253, 258, 259, 260, 261, 2, 262, 106, 285, 286, 287, 288, 289, 330, 331, 332, 25, 333, 60, 334, 335, 336, 20, 337, 53, 54, 720, 721, 722, 723, 724, 725, 726, 727, 728, 759, 760, 761, 762, 763, 764, 765, 766, 767, 768] (by decide +kernel) (by decide +kernel)
set_option maxRecDepth 20000 in
theorem gL_law_X5_stake : GoodIn wsL_law (wsV RL 41 RX5 yX5_stake wsX5_stake) := goodIn_app (goodIn_of _ (by decide +kernel)) ggL_law_X5_stake
set_option maxRecDepth 20000 in
theorem ggL_law_X6_stake : GoodIn wsL_law wsX6_stake := goodIn_r _ [341, 93, 271, 272, 273, 5, 274, 201, 298, 299, 300, 301, 247, 342, 343, 344, 345, 90, 91, 88, 729, 730, 731, 732, 733, 734, 735, 736, 737, 738, 739, 740, 741, 742, 743, 744, 745, 746, 747, 748, 749, 750, 751, 752, 753, 754, 755] (by decide +kernel) (by decide +kernel)
set_option maxRecDepth 20000 in
theorem gL_law_X6_stake : GoodIn wsL_law (wsV RL 44 RX6 yX6_stake wsX6_stake) := goodIn_app (goodIn_of _ (by decide +kernel)) ggL_law_X6_stake
set_option maxRecDepth 20000 in
theorem ggL_law_X5_stakes : GoodIn wsL_law wsX5_stakes := goodIn_r _ [349, 21, 26, 280, 281, 282, 2, 283, 284, 285, 286, 287, 288, 289, 350, 351, 352, 20, 353, 48, 52, 51, 354, 355, 331, 332, 25, 333, 60, 356, 335, 336, 337, 53, 54, 720, 721, 722, 723, 724, 725, 726, 727, 728, 759, 760, 761, 762, 763, 764, 765, 766, 767, 768] (by decide +kernel) (by decide +kernel)
set_option maxRecDepth 20000 in
theorem gL_law_X5_stakes : GoodIn wsL_law (wsV RL 45 RX5 yX5_stakes wsX5_stakes) := goodIn_app (goodIn_of _ (by decide +kernel)) ggL_law_X5_stakes
set_option maxRecDepth 20000 in
theorem ggL_law_X6_stakes : GoodIn wsL_law wsX6_stakes := goodIn_r _ [360, 294, 295, 296, 5, 297, 246, 298, 299, 300, 301, 247, 361, 362, 363, 364, 201, 96, 93, 365, 366, 367, 368, 89, 342, 343, 344, 345, 90, 91, 88, 729, 730, 731, 732, 733, 734, 735, 736, 737, 738, 739, 740, 741, 742, 743, 744, 745, 746, 747, 748, 749, 750, 751, 752, 753, 754, 755] (by decide +kernel) (by decide +kernel)
set_option maxRecDepth 20000 in
theorem gL_law_X6_stakes : GoodIn wsL_law (wsV RL 48 RX6 yX6_stakes wsX6_stakes) := goodIn_app (goodIn_of _ (by decide +kernel)) ggL_law_X6_stakes
set_option maxRecDepth 20000 in
theorem ggL_law_X5_tempted : GoodIn wsL_law wsX5_tempted := goodIn_r _ [372, 21, 284, 26, 373, 374, 375, 2, 376, 106, 285, 286, 287, 288, 289, 377, 378, 379, 20, 380, 50, 381, 351, 352, 353, 48, 52, 51, 354, 355, 331, 332, 25, 333, 60, 356, 335, 336, 337, 53, 54, 720, 721, 722, 723, 724, 725, 726, 727, 728, 759, 760, 761, 762, 763, 764, 765, 766, 767, 768] (by decide +kernel) (by decide +kernel)
set_option maxRecDepth 20000 in
theorem gL_law_X5_tempted : GoodIn wsL_law (wsV RL 49 RX5 yX5_tempted wsX5_tempted) := goodIn_app (goodIn_of _ (by decide +kernel)) ggL_law_X5_tempted
set_option maxRecDepth 20000 in
theorem ggL_law_X6_tempted : GoodIn wsL_law wsX6_tempted := goodIn_r _ [385, 246, 298, 299, 300, 5, 301, 247, 361, 362, 363, 364, 201, 96, 93, 386, 387, 388, 389, 390, 391, 392, 393, 87, 365, 366, 367, 368, 89, 342, 343, 344, 345, 90, 91, 88, 729, 730, 731, 732, 733, 734, 735, 736, 737, 738, 739, 740, 741, 742, 743, 744, 745, 746, 747, 748, 749, 750, 751, 752, 753, 754, 755] (by decide +kernel) (by decide +kernel)
set_option maxRecDepth 20000 in
theorem gL_law_X6_tempted : GoodIn wsL_law (wsV RL 52 RX6 yX6_tempted wsX6_tempted) := goodIn_app (goodIn_of _ (by decide +kernel)) ggL_law_X6_tempted
set_option maxRecDepth 20000 in
theorem ggL_law_X5_broken : GoodIn wsL_law wsX5_broken := goodIn_r _ [397, 26, 373, 374, 375, 2, 376, 21, 106, 398, 399, 400, 401, 402, 403, 404, 20, 405, 47, 406, 407, 408, 409, 46, 410, 378, 379, 380, 50, 381, 351, 352, 353, 48, 52, 51, 354, 355, 331, 332, 25, 333, 60, 356, 335, 336, 337, 53, 54, 411, 720, 721, 722, 723, 724, 725, 726, 727, 728, 759, 760, 761, 762, 763, 764, 765, 766, 767, 768] (by decide +kernel) (by decide +kernel)
set_option maxRecDepth 20000 in
theorem gL_law_X5_broken : GoodIn wsL_law (wsV RL 53 RX5 yX5_broken wsX5_broken) := goodIn_app (goodIn_of _ (by decide +kernel)) ggL_law_X5_broken
set_option maxRecDepth 20000 in
theorem ggL_law_X6_broken : GoodIn wsL_law wsX6_broken := goodIn_r _ [415, 246, 205, 206, 5, 207, 361, 362, 363, 364, 201, 96, 93, 247, 416, 417, 418, 419, 386, 387, 388, 389, 390, 391, 392, 393, 87, 365, 366, 367, 368, 89, 342, 343, 344, 345, 90, 91, 88, 420, 421, 422, 423, 729, 730, 731, 732, 733, 734, 735, 736, 737, 738, 739, 740, 741, 742, 743, 744, 745, 746, 747, 748, 749, 750, 751, 752, 753, 754, 755] (by decide +kernel) (by decide +kernel)
set_option maxRecDepth 20000 in
theorem gL_law_X6_broken : GoodIn wsL_law (wsV RL 56 RX6 yX6_broken wsX6_broken) := goodIn_app (goodIn_of _ (by decide +kernel)) ggL_law_X6_broken
set_option maxRecDepth 20000 in
theorem ggL_law_X5_plan : GoodIn wsL_law wsX5_plan := goodIn_r _ [427, 33, 13, 21, 106, 107, 108, 2, 109, 110, 111, 112, 428, 429, 430, 113, 114, 115, 116, 117, 118, 119, 120, 121, 122, 123, 35, 124, 79, 125, 126, 127, 128, 373, 374, 375, 376, 431, 432, 433, 434, 27, 289, 258, 191, 192, 193, 25, 194, 61, 62, 63, 64, 60, 435, 141, 142, 143, 76, 144, 145, 146, 147, 436, 437, 438, 439, 398, 399, 400, 401, 402, 403, 404, 20, 405, 47, 406, 407, 408, 409, 46, 410, 378, 379, 380, 50, 381, 351, 352, 353, 48, 52, 51, 354, 355, 331, 332, 333, 356, 335, 336, 337, 53, 54, 411, 440, 441, 442, 443, 444, 280, 281, 282, 283, 284, 350, 720, 721, 722, 723, 724, 725, 726, 727, 728, 759, 760, 761, 762, 763, 764, 765, 766, 773, 774, 775, 776, 767, 768] (by decide +kernel) (by decide +kernel)
set_option maxRecDepth 20000 in
theorem gL_law_X5_plan : GoodIn wsL_law (wsV RL 57 RX5 yX5_plan wsX5_plan) := goodIn_app (goodIn_of _ (by decide +kernel)) ggL_law_X5_plan
set_option maxRecDepth 20000 in
theorem ggL_law_X6_plan : GoodIn wsL_law wsX6_plan := goodIn_r _ [448, 199, 246, 201, 96, 86, 247, 202, 203, 5, 204, 205, 206, 207, 208, 209, 210, 211, 212, 213, 214, 84, 85, 215, 216, 217, 218, 449, 450, 451, 452, 416, 417, 418, 419, 386, 387, 388, 389, 390, 391, 392, 393, 87, 365, 366, 367, 368, 89, 342, 343, 344, 345, 90, 91, 88, 420, 421, 422, 423, 294, 295, 296, 297, 729, 730, 731, 732, 733, 734, 735, 736, 737, 738, 739, 740, 741, 742, 743, 744, 745, 746, 747, 748, 749, 750, 751, 752, 753, 754, 755] (by decide +kernel) (by decide +kernel)
set_option maxRecDepth 20000 in
theorem gL_law_X6_plan : GoodIn wsL_law (wsV RL 61 RX6 yX6_plan wsX6_plan) := goodIn_app (goodIn_of _ (by decide +kernel)) ggL_law_X6_plan
set_option maxRecDepth 20000 in
theorem ggL_law_X5_least : GoodIn wsL_law wsX5_least := goodIn_r _ [456, 21, 106, 27, 373, 374, 375, 2, 376, 457, 458, 459, 460, 461, 462, 463, 464, 62, 63, 25, 64, 60, 402, 403, 404, 20, 405, 47, 406, 407, 408, 409, 46, 410, 378, 379, 380, 50, 381, 351, 352, 353, 48, 52, 51, 354, 355, 331, 332, 333, 356, 335, 336, 337, 53, 54, 720, 721, 722, 723, 724, 725, 726, 727, 728, 759, 760, 761, 762, 763, 764, 765, 766, 767, 768] (by decide +kernel) (by decide +kernel)
set_option maxRecDepth 20000 in
theorem gL_law_X5_least : GoodIn wsL_law (wsV RL 62 RX5 yX5_least wsX5_least) := goodIn_app (goodIn_of _ (by decide +kernel)) ggL_law_X5_least
set_option maxRecDepth 20000 in
theorem ggL_law_X6_least : GoodIn wsL_law wsX6_least := goodIn_r _ [468, 246, 201, 469, 470, 5, 471, 472, 473, 474, 475, 96, 247, 416, 417, 418, 419, 386, 387, 388, 389, 390, 391, 392, 393, 87, 365, 366, 367, 368, 89, 342, 343, 344, 345, 90, 91, 88, 729, 730, 731, 732, 733, 734, 735, 736, 737, 738, 739, 740, 741, 742, 743, 744, 745, 746, 747, 748, 749, 750, 751, 752, 753, 754, 755] (by decide +kernel) (by decide +kernel)
set_option maxRecDepth 20000 in
theorem gL_law_X6_least : GoodIn wsL_law (wsV RL 66 RX6 yX6_least wsX6_least) := goodIn_app (goodIn_of _ (by decide +kernel)) ggL_law_X6_least
set_option maxRecDepth 20000 in
theorem ggL_law_X5_hole : GoodIn wsL_law wsX5_hole := goodIn_r _ [479, 27, 21, 280, 281, 282, 2, 283, 284, 480, 481, 482, 483, 106, 464, 62, 63, 25, 64, 60, 484, 485, 486, 20, 487, 47, 410, 378, 379, 380, 50, 381, 351, 352, 353, 48, 52, 51, 354, 355, 331, 332, 333, 356, 335, 336, 337, 53, 54, 720, 721, 722, 723, 724, 725, 726, 727, 728, 759, 760, 761, 762, 763, 764, 765, 766, 767, 768] (by decide +kernel) (by decide +kernel)
set_option maxRecDepth 20000 in
theorem gL_law_X5_hole : GoodIn wsL_law (wsV RL 67 RX5 yX5_hole wsX5_hole) := goodIn_app (goodIn_of _ (by decide +kernel)) ggL_law_X5_hole
set_option maxRecDepth 20000 in
theorem ggL_law_X6_hole : GoodIn wsL_law wsX6_hole := goodIn_r _ [491, 201, 294, 295, 296, 5, 297, 246, 472, 473, 474, 475, 96, 247, 492, 493, 494, 495, 390, 391, 392, 393, 87, 365, 366, 367, 368, 89, 342, 343, 344, 345, 90, 91, 88, 729, 730, 731, 732, 733, 734, 735, 736, 737, 738, 739, 740, 741, 742, 743, 744, 745, 746, 747, 748, 749, 750, 751, 752, 753, 754, 755] (by decide +kernel) (by decide +kernel)
set_option maxRecDepth 20000 in
theorem gL_law_X6_hole : GoodIn wsL_law (wsV RL 70 RX6 yX6_hole wsX6_hole) := goodIn_app (goodIn_of _ (by decide +kernel)) ggL_law_X6_hole
set_option maxRecDepth 20000 in
theorem ggL_law_X5_when : GoodIn wsL_law wsX5_when := goodIn_r _ [499, 27, 21, 289, 258, 254, 259, 260, 261, 2, 262, 106, 480, 481, 482, 483, 464, 62, 63, 25, 64, 60, 484, 485, 486, 20, 487, 47, 410, 378, 379, 380, 50, 381, 351, 352, 353, 48, 52, 51, 354, 355, 331, 332, 333, 356, 335, 336, 337, 53, 54, 720, 721, 722, 723, 724, 725, 726, 727, 728, 759, 760, 761, 762, 763, 764, 765, 766, 767, 768] (by decide +kernel) (by decide +kernel)
set_option maxRecDepth 20000 in
theorem gL_law_X5_when : GoodIn wsL_law (wsV RL 71 RX5 yX5_when wsX5_when) := goodIn_app (goodIn_of _ (by decide +kernel)) ggL_law_X5_when
set_option maxRecDepth 20000 in
theorem ggL_law_X6_when : GoodIn wsL_law wsX6_when := goodIn_r _ [503, 201, 247, 96, 89, 271, 272, 273, 5, 274, 472, 473, 474, 475, 492, 493, 494, 495, 390, 391, 392, 393, 87, 365, 366, 367, 368, 342, 343, 344, 345, 90, 91, 88, 729, 730, 731, 732, 733, 734, 735, 736, 737, 738, 739, 740, 741, 742, 743, 744, 745, 746, 747, 748, 749, 750, 751, 752, 753, 754, 755] (by decide +kernel) (by decide +kernel)
set_option maxRecDepth 20000 in
theorem gL_law_X6_when : GoodIn wsL_law (wsV RL 74 RX6 yX6_when wsX6_when) := goodIn_app (goodIn_of _ (by decide +kernel)) ggL_law_X6_when
set_option maxRecDepth 20000 in
theorem ggL_law_X5_reading : GoodIn wsL_law wsX5_reading := goodIn_r _ [507, 31, 280, 281, 282, 2, 283, 21, 284, 285, 286, 287, 288, 289, 508, 509, 510, 30, 511, 72, 68, 69, 71, 720, 721, 722, 723, 724, 725, 726, 727, 728, 759, 760, 761, 762, 763, 764, 765, 766, 769, 770, 771, 772] (by decide +kernel) (by decide +kernel)
set_option maxRecDepth 20000 in
theorem gL_law_X5_reading : GoodIn wsL_law (wsV RL 75 RX5 yX5_reading wsX5_reading) := goodIn_app (goodIn_of _ (by decide +kernel)) ggL_law_X5_reading
set_option maxRecDepth 20000 in
theorem ggL_law_X6_reading : GoodIn wsL_law wsX6_reading := goodIn_r _ [515, 248, 97, 98, 99, 294, 295, 296, 5, 297, 246, 298, 299, 300, 301, 247, 729, 730, 731, 732, 733, 734, 735, 736, 737, 738, 739, 740, 741, 742, 743, 744, 745, 746, 747, 748, 749, 750, 751, 752, 753, 754, 755] (by decide +kernel) (by decide +kernel)
set_option maxRecDepth 20000 in
theorem gL_law_X6_reading : GoodIn wsL_law (wsV RL 79 RX6 yX6_reading wsX6_reading) := goodIn_app (goodIn_of _ (by decide +kernel)) ggL_law_X6_reading
set_option maxRecDepth 20000 in
theorem ggL_law_X5_back : GoodIn wsL_law wsX5_back := goodIn_r _ [519, 31, 190, 720, 721, 722, 723, 724, 725, 726, 727, 728, 769, 770, 771, 772] (by decide +kernel) (by decide +kernel)
set_option maxRecDepth 20000 in
theorem gL_law_X5_back : GoodIn wsL_law (wsV RL 80 RX5 yX5_back wsX5_back) := goodIn_app (goodIn_of _ (by decide +kernel)) ggL_law_X5_back
set_option maxRecDepth 20000 in
theorem ggL_law_X6_back : GoodIn wsL_law wsX6_back := goodIn_r _ [523, 248, 205, 206, 5, 207, 729, 730, 731, 732, 733, 734, 735, 736, 737, 738, 739, 740, 741, 742, 743, 744, 745, 746, 747, 748, 749, 750, 751, 752, 753, 754, 755] (by decide +kernel) (by decide +kernel)
set_option maxRecDepth 20000 in
theorem gL_law_X6_back : GoodIn wsL_law (wsV RL 83 RX6 yX6_back wsX6_back) := goodIn_app (goodIn_of _ (by decide +kernel)) ggL_law_X6_back
set_option maxRecDepth 20000 in
theorem ggL_law_X5_worths : GoodIn wsL_law wsX5_worths := goodIn_r _ [527, 21, 255, 259, 260, 261, 2, 262, 106, 528, 529, 530, 531, 31, 26, 532, 533, 534, 30, 535, 72, 68, 69, 71, 536, 378, 379, 20, 380, 50, 381, 351, 352, 353, 48, 52, 51, 354, 355, 331, 332, 25, 333, 60, 356, 335, 336, 337, 53, 54, 720, 721, 722, 723, 724, 725, 726, 727, 728, 759, 760, 761, 762, 763, 764, 765, 766, 769, 770, 771, 772, 767, 768] (by decide +kernel) (by decide +kernel)
set_option maxRecDepth 20000 in
theorem gL_law_X5_worths : GoodIn wsL_law (wsV RL 84 RX5 yX5_worths wsX5_worths) := goodIn_app (goodIn_of _ (by decide +kernel)) ggL_law_X5_worths
set_option maxRecDepth 20000 in
theorem ggL_law_X6_worths : GoodIn wsL_law wsX6_worths := goodIn_r _ [540, 90, 271, 272, 273, 5, 274, 201, 541, 542, 543, 544, 248, 97, 98, 99, 361, 362, 363, 364, 96, 93, 247, 390, 391, 392, 393, 87, 365, 366, 367, 368, 89, 342, 343, 344, 345, 91, 88, 729, 730, 731, 732, 733, 734, 735, 736, 737, 738, 739, 740, 741, 742, 743, 744, 745, 746, 747, 748, 749, 750, 751, 752, 753, 754, 755] (by decide +kernel) (by decide +kernel)
set_option maxRecDepth 20000 in
theorem gL_law_X6_worths : GoodIn wsL_law (wsV RL 87 RX6 yX6_worths wsX6_worths) := goodIn_app (goodIn_of _ (by decide +kernel)) ggL_law_X6_worths
set_option maxRecDepth 20000 in
theorem ggL_law_X5_kinds : GoodIn wsL_law wsX5_kinds := goodIn_r _ [548, 21, 253, 259, 260, 261, 2, 262, 106, 528, 529, 530, 531, 31, 26, 532, 533, 534, 30, 535, 72, 68, 69, 71, 536, 378, 379, 20, 380, 50, 381, 351, 352, 353, 48, 52, 51, 354, 355, 331, 332, 25, 333, 60, 356, 335, 336, 337, 53, 54, 720, 721, 722, 723, 724, 725, 726, 727, 728, 759, 760, 761, 762, 763, 764, 765, 766, 769, 770, 771, 772, 767, 768] (by decide +kernel) (by decide +kernel)
set_option maxRecDepth 20000 in
theorem gL_law_X5_kinds : GoodIn wsL_law (wsV RL 88 RX5 yX5_kinds wsX5_kinds) := goodIn_app (goodIn_of _ (by decide +kernel)) ggL_law_X5_kinds
set_option maxRecDepth 20000 in
theorem ggL_law_X6_kinds : GoodIn wsL_law wsX6_kinds := goodIn_r _ [552, 88, 271, 272, 273, 5, 274, 201, 541, 542, 543, 544, 248, 97, 98, 99, 361, 362, 363, 364, 96, 93, 247, 390, 391, 392, 393, 87, 365, 366, 367, 368, 89, 342, 343, 344, 345, 90, 91, 729, 730, 731, 732, 733, 734, 735, 736, 737, 738, 739, 740, 741, 742, 743, 744, 745, 746, 747, 748, 749, 750, 751, 752, 753, 754, 755] (by decide +kernel) (by decide +kernel)
set_option maxRecDepth 20000 in
theorem gL_law_X6_kinds : GoodIn wsL_law (wsV RL 91 RX6 yX6_kinds wsX6_kinds) := goodIn_app (goodIn_of _ (by decide +kernel)) ggL_law_X6_kinds
set_option maxRecDepth 20000 in
theorem ggL_law_X5_fondness : GoodIn wsL_law wsX5_fondness := goodIn_r _ [556, 21, 256, 259, 260, 261, 2, 262, 106, 528, 529, 530, 531, 31, 26, 532, 533, 534, 30, 535, 72, 68, 69, 71, 536, 378, 379, 20, 380, 50, 381, 351, 352, 353, 48, 52, 51, 354, 355, 331, 332, 25, 333, 60, 356, 335, 336, 337, 53, 54, 720, 721, 722, 723, 724, 725, 726, 727, 728, 759, 760, 761, 762, 763, 764, 765, 766, 769, 770, 771, 772, 767, 768] (by decide +kernel) (by decide +kernel)
set_option maxRecDepth 20000 in
theorem gL_law_X5_fondness : GoodIn wsL_law (wsV RL 92 RX5 yX5_fondness wsX5_fondness) := goodIn_app (goodIn_of _ (by decide +kernel)) ggL_law_X5_fondness
set_option maxRecDepth 20000 in
theorem ggL_law_X6_fondness : GoodIn wsL_law wsX6_fondness := goodIn_r _ [560, 91, 271, 272, 273, 5, 274, 201, 541, 542, 543, 544, 248, 97, 98, 99, 361, 362, 363, 364, 96, 93, 247, 390, 391, 392, 393, 87, 365, 366, 367, 368, 89, 342, 343, 344, 345, 90, 88, 729, 730, 731, 732, 733, 734, 735, 736, 737, 738, 739, 740, 741, 742, 743, 744, 745, 746, 747, 748, 749, 750, 751, 752, 753, 754, 755] (by decide +kernel) (by decide +kernel)
set_option maxRecDepth 20000 in
theorem gL_law_X6_fondness : GoodIn wsL_law (wsV RL 95 RX6 yX6_fondness wsX6_fondness) := goodIn_app (goodIn_of _ (by decide +kernel)) ggL_law_X6_fondness
set_option maxRecDepth 20000 in
theorem ggL_law_X5_odds : GoodIn wsL_law wsX5_odds := goodIn_r _ [564, 565, 26, 21, 106, 373, 374, 375, 2, 376, 285, 286, 287, 288, 289, 566, 567, 568, 25, 569, 570, 264, 265, 266, 60, 571, 572, 573, 574, 402, 403, 404, 20, 405, 47, 406, 407, 408, 409, 46, 410, 378, 379, 380, 50, 381, 351, 352, 353, 48, 52, 51, 354, 355, 331, 332, 333, 356, 335, 336, 337, 53, 54, 720, 721, 722, 723, 724, 725, 726, 727, 728, 759, 760, 761, 762, 763, 764, 765, 766, 767, 768] (by decide +kernel) (by decide +kernel)
set_option maxRecDepth 20000 in
theorem gL_law_X5_odds : GoodIn wsL_law (wsV RL 96 RX5 yX5_odds wsX5_odds) := goodIn_app (goodIn_of _ (by decide +kernel)) ggL_law_X5_odds
set_option maxRecDepth 20000 in
theorem ggL_law_X6_odds : GoodIn wsL_law wsX6_odds := goodIn_r _ [578, 246, 579, 201, 100, 88, 298, 299, 300, 5, 301, 247, 205, 206, 207, 361, 362, 363, 364, 96, 93, 580, 581, 582, 583, 92, 416, 417, 418, 419, 386, 387, 388, 389, 390, 391, 392, 393, 87, 365, 366, 367, 368, 89, 342, 343, 344, 345, 90, 91, 469, 470, 471, 584, 585, 586, 729, 730, 731, 732, 733, 734, 735, 736, 737, 738, 739, 740, 741, 742, 743, 744, 745, 746, 747, 748, 749, 750, 751, 752, 753, 754, 755] (by decide +kernel) (by decide +kernel)
set_option maxRecDepth 20000 in
theorem gL_law_X6_odds : GoodIn wsL_law (wsV RL 100 RX6 yX6_odds wsX6_odds) := goodIn_app (goodIn_of _ (by decide +kernel)) ggL_law_X6_odds
set_option maxRecDepth 20000 in
theorem ggL_law_X5_sheet : GoodIn wsL_law wsX5_sheet := goodIn_r _ [590, 33, 13, 107, 108, 2, 109, 110, 111, 112, 125, 126, 127, 128, 591, 592, 593, 35, 594, 77, 78, 595, 134, 135, 136, 596, 138, 139, 79, 76, 720, 721, 722, 723, 724, 725, 726, 727, 728, 773, 774, 775, 776] (by decide +kernel) (by decide +kernel)
set_option maxRecDepth 20000 in
theorem gL_law_X5_sheet : GoodIn wsL_law (wsV RL 101 RX5 yX5_sheet wsX5_sheet) := goodIn_app (goodIn_of _ (by decide +kernel)) ggL_law_X5_sheet
set_option maxRecDepth 20000 in
theorem ggL_law_X6_sheet : GoodIn wsL_law wsX6_sheet := goodIn_r _ [600, 199, 84, 85, 86, 202, 203, 5, 204, 205, 206, 207, 208, 209, 210, 215, 216, 217, 218, 729, 730, 731, 732, 733, 734, 735, 736, 737, 738, 739, 740, 741, 742, 743, 744, 745, 746, 747, 748, 749, 750, 751, 752, 753, 754, 755] (by decide +kernel) (by decide +kernel)
set_option maxRecDepth 20000 in
theorem gL_law_X6_sheet : GoodIn wsL_law (wsV RL 104 RX6 yX6_sheet wsX6_sheet) := goodIn_app (goodIn_of _ (by decide +kernel)) ggL_law_X6_sheet
set_option maxRecDepth 20000 in
theorem ggL_law_X5_lose : GoodIn wsL_law wsX5_lose := goodIn_r _ [604, 13, 119, 107, 108, 2, 109, 720, 721, 722, 723, 724, 725, 726, 727, 728, 773, 774, 775, 776] (by decide +kernel) (by decide +kernel)
set_option maxRecDepth 20000 in
theorem gL_law_X5_lose : GoodIn wsL_law (wsV RL 105 RX5 yX5_lose wsX5_lose) := goodIn_app (goodIn_of _ (by decide +kernel)) ggL_law_X5_lose
set_option maxRecDepth 20000 in
theorem ggL_law_X6_lose : GoodIn wsL_law wsX6_lose := goodIn_r _ [608, 84, 202, 203, 5, 204, 205, 206, 207, 729, 730, 731, 732, 733, 734, 735, 736, 737, 738, 739, 740, 741, 742, 743, 744, 745, 746, 747, 748, 749, 750, 751, 752, 753, 754, 755] (by decide +kernel) (by decide +kernel)
set_option maxRecDepth 20000 in
theorem gL_law_X6_lose : GoodIn wsL_law (wsV RL 108 RX6 yX6_lose wsX6_lose) := goodIn_app (goodIn_of _ (by decide +kernel)) ggL_law_X6_lose
set_option maxRecDepth 20000 in
theorem ggL_law_X5_put : GoodIn wsL_law wsX5_put := goodIn_r _ [612, 33, 13, 119, 107, 108, 2, 109, 125, 126, 127, 128, 613, 145, 146, 35, 147, 79, 614, 615, 616, 617, 76, 144, 618, 619, 620, 621, 78, 720, 721, 722, 723, 724, 725, 726, 727, 728, 773, 774, 775, 776] (by decide +kernel) (by decide +kernel)
set_option maxRecDepth 20000 in
theorem gL_law_X5_put : GoodIn wsL_law (wsV RL 109 RX5 yX5_put wsX5_put) := goodIn_app (goodIn_of _ (by decide +kernel)) ggL_law_X5_put
set_option maxRecDepth 20000 in
theorem ggL_law_X6_put : GoodIn wsL_law wsX6_put := goodIn_r _ [625, 199, 84, 85, 86, 202, 203, 5, 204, 205, 206, 207, 215, 216, 217, 218, 729, 730, 731, 732, 733, 734, 735, 736, 737, 738, 739, 740, 741, 742, 743, 744, 745, 746, 747, 748, 749, 750, 751, 752, 753, 754, 755] (by decide +kernel) (by decide +kernel)
set_option maxRecDepth 20000 in
theorem gL_law_X6_put : GoodIn wsL_law (wsV RL 112 RX6 yX6_put wsX6_put) := goodIn_app (goodIn_of _ (by decide +kernel)) ggL_law_X6_put
set_option maxRecDepth 20000 in
theorem ggL_law_X5_cell : GoodIn wsL_law wsX5_cell := goodIn_r _ [629, 33, 565, 13, 107, 108, 2, 109, 110, 111, 112, 116, 117, 118, 119, 120, 613, 145, 146, 35, 147, 79, 435, 141, 142, 143, 76, 144, 720, 721, 722, 723, 724, 725, 726, 727, 728, 773, 774, 775, 776] (by decide +kernel) (by decide +kernel)
set_option maxRecDepth 20000 in
theorem gL_law_X5_cell : GoodIn wsL_law (wsV RL 113 RX5 yX5_cell wsX5_cell) := goodIn_app (goodIn_of _ (by decide +kernel)) ggL_law_X5_cell
set_option maxRecDepth 20000 in
theorem ggL_law_X6_cell : GoodIn wsL_law wsX6_cell := goodIn_r _ [633, 199, 579, 84, 85, 86, 202, 203, 5, 204, 205, 206, 207, 208, 209, 210, 634, 635, 636, 637, 729, 730, 731, 732, 733, 734, 735, 736, 737, 738, 739, 740, 741, 742, 743, 744, 745, 746, 747, 748, 749, 750, 751, 752, 753, 754, 755] (by decide +kernel) (by decide +kernel)
set_option maxRecDepth 20000 in
theorem gL_law_X6_cell : GoodIn wsL_law (wsV RL 117 RX6 yX6_cell wsX6_cell) := goodIn_app (goodIn_of _ (by decide +kernel)) ggL_law_X6_cell
set_option maxRecDepth 20000 in
theorem ggL_law_X5_copy : GoodIn wsL_law wsX5_copy := goodIn_r _ [641, 33, 13, 119, 120, 642, 643, 644, 645, 646, 107, 108, 2, 109, 125, 126, 127, 128, 121, 122, 123, 35, 124, 79, 720, 721, 722, 723, 724, 725, 726, 727, 728, 773, 774, 775, 776] (by decide +kernel) (by decide +kernel)
set_option maxRecDepth 20000 in
theorem gL_law_X5_copy : GoodIn wsL_law (wsV RL 118 RX5 yX5_copy wsX5_copy) := goodIn_app (goodIn_of _ (by decide +kernel)) ggL_law_X5_copy
set_option maxRecDepth 20000 in
theorem ggL_law_X6_copy : GoodIn wsL_law wsX6_copy := goodIn_r _ [650, 199, 84, 85, 86, 202, 203, 5, 204, 205, 206, 207, 215, 216, 217, 218, 729, 730, 731, 732, 733, 734, 735, 736, 737, 738, 739, 740, 741, 742, 743, 744, 745, 746, 747, 748, 749, 750, 751, 752, 753, 754, 755] (by decide +kernel) (by decide +kernel)
set_option maxRecDepth 20000 in
theorem gL_law_X6_copy : GoodIn wsL_law (wsV RL 121 RX6 yX6_copy wsX6_copy) := goodIn_app (goodIn_of _ (by decide +kernel)) ggL_law_X6_copy
set_option maxRecDepth 20000 in
theorem ggL_law_X5_tell : GoodIn wsL_law wsX5_tell := goodIn_r _ [654, 21, 253, 259, 260, 261, 2, 262, 106, 655, 656, 657, 658, 659, 660, 661, 662, 32, 663, 664, 665, 666, 667, 668, 669, 670, 255, 720, 721, 722, 723, 724, 725, 726, 727, 728, 759, 760, 761, 762, 763, 764, 765, 766] (by decide +kernel) (by decide +kernel)
set_option maxRecDepth 20000 in
theorem gL_law_X5_tell : GoodIn wsL_law (wsV RL 122 RX5 yX5_tell wsX5_tell) := goodIn_app (goodIn_of _ (by decide +kernel)) ggL_law_X5_tell
set_option maxRecDepth 20000 in
theorem ggL_law_X6_tell : GoodIn wsL_law wsX6_tell := goodIn_r _ [674, 90, 88, 271, 272, 273, 5, 274, 201, 675, 676, 677, 678, 679, 729, 730, 731, 732, 733, 734, 735, 736, 737, 738, 739, 740, 741, 742, 743, 744, 745, 746, 747, 748, 749, 750, 751, 752, 753, 754, 755] (by decide +kernel) (by decide +kernel)
set_option maxRecDepth 20000 in
theorem gL_law_X6_tell : GoodIn wsL_law (wsV RL 125 RX6 yX6_tell wsX6_tell) := goodIn_app (goodIn_of _ (by decide +kernel)) ggL_law_X6_tell
set_option maxRecDepth 20000 in
theorem ggL_law_X5_teach : GoodIn wsL_law wsX5_teach := goodIn_r _ [683, 21, 253, 259, 260, 261, 2, 262, 106, 659, 660, 661, 662, 32, 720, 721, 722, 723, 724, 725, 726, 727, 728, 759, 760, 761, 762, 763, 764, 765, 766] (by decide +kernel) (by decide +kernel)
set_option maxRecDepth 20000 in
theorem gL_law_X5_teach : GoodIn wsL_law (wsV RL 126 RX5 yX5_teach wsX5_teach) := goodIn_app (goodIn_of _ (by decide +kernel)) ggL_law_X5_teach
set_option maxRecDepth 20000 in
theorem ggL_law_X6_teach : GoodIn wsL_law wsX6_teach := goodIn_r _ [687, 88, 271, 272, 273, 5, 274, 201, 675, 676, 677, 678, 679, 729, 730, 731, 732, 733, 734, 735, 736, 737, 738, 739, 740, 741, 742, 743, 744, 745, 746, 747, 748, 749, 750, 751, 752, 753, 754, 755] (by decide +kernel) (by decide +kernel)
set_option maxRecDepth 20000 in
theorem gL_law_X6_teach : GoodIn wsL_law (wsV RL 129 RX6 yX6_teach wsX6_teach) := goodIn_app (goodIn_of _ (by decide +kernel)) ggL_law_X6_teach
set_option maxRecDepth 20000 in
theorem ggL_law_X5_as : GoodIn wsL_law wsX5_as := goodIn_r _ [691, 33, 21, 253, 259, 260, 261, 2, 262, 106, 125, 126, 127, 128, 720, 721, 722, 723, 724, 725, 726, 727, 728, 759, 760, 761, 762, 763, 764, 765, 766] (by decide +kernel) (by decide +kernel)
set_option maxRecDepth 20000 in
theorem gL_law_X5_as : GoodIn wsL_law (wsV RL 130 RX5 yX5_as wsX5_as) := goodIn_app (goodIn_of _ (by decide +kernel)) ggL_law_X5_as
set_option maxRecDepth 20000 in
theorem ggL_law_X6_as : GoodIn wsL_law wsX6_as := goodIn_r _ [695, 199, 88, 271, 272, 273, 5, 274, 201, 205, 206, 207, 215, 216, 217, 218, 729, 730, 731, 732, 733, 734, 735, 736, 737, 738, 739, 740, 741, 742, 743, 744, 745, 746, 747, 748, 749, 750, 751, 752, 753, 754, 755] (by decide +kernel) (by decide +kernel)
set_option maxRecDepth 20000 in
theorem gL_law_X6_as : GoodIn wsL_law (wsV RL 133 RX6 yX6_as wsX6_as) := goodIn_app (goodIn_of _ (by decide +kernel)) ggL_law_X6_as
set_option maxRecDepth 20000 in
theorem ggL_law_X5_trace : GoodIn wsL_law wsX5_trace := goodIn_r _ [699, 32, 720, 721, 722, 723, 724, 725, 726, 727, 728] (by decide +kernel) (by decide +kernel)
set_option maxRecDepth 20000 in
theorem gL_law_X5_trace : GoodIn wsL_law (wsV RL 134 RX5 yX5_trace wsX5_trace) := goodIn_app (goodIn_of _ (by decide +kernel)) ggL_law_X5_trace
set_option maxRecDepth 20000 in
theorem ggL_law_X6_trace : GoodIn wsL_law wsX6_trace := goodIn_r _ [703, 679, 729, 730, 731, 732, 733, 734, 735, 736, 737, 738, 739, 740, 741, 742, 743, 744, 745, 746, 747, 748, 749, 750, 751, 752, 753, 754, 755] (by decide +kernel) (by decide +kernel)
set_option maxRecDepth 20000 in
theorem gL_law_X6_trace : GoodIn wsL_law (wsV RL 137 RX6 yX6_trace wsX6_trace) := goodIn_app (goodIn_of _ (by decide +kernel)) ggL_law_X6_trace
set_option maxRecDepth 20000 in
theorem ggL_law_X5_fault : GoodIn wsL_law wsX5_fault := goodIn_r _ [707, 33, 720, 721, 722, 723, 724, 725, 726, 727, 728] (by decide +kernel) (by decide +kernel)
set_option maxRecDepth 20000 in
theorem gL_law_X5_fault : GoodIn wsL_law (wsV RL 138 RX5 yX5_fault wsX5_fault) := goodIn_app (goodIn_of _ (by decide +kernel)) ggL_law_X5_fault
set_option maxRecDepth 20000 in
theorem ggL_law_X6_fault : GoodIn wsL_law wsX6_fault := goodIn_r _ [711, 199, 729, 730, 731, 732, 733, 734, 735, 736, 737, 738, 739, 740, 741, 742, 743, 744, 745, 746, 747, 748, 749, 750, 751, 752, 753, 754, 755] (by decide +kernel) (by decide +kernel)
set_option maxRecDepth 20000 in
theorem gL_law_X6_fault : GoodIn wsL_law (wsV RL 141 RX6 yX6_fault wsX6_fault) := goodIn_app (goodIn_of _ (by decide +kernel)) ggL_law_X6_fault
set_option maxRecDepth 20000 in
theorem ggL_law_X5_many : GoodIn wsL_law wsX5_many := goodIn_r _ [715, 21, 106, 284, 289, 26, 31, 190, 566, 567, 568, 25, 569, 570, 264, 265, 266, 60, 457, 458, 459, 460, 461, 462, 463, 720, 721, 722, 723, 724, 725, 726, 727, 728, 759, 760, 761, 762, 763, 764, 765, 766, 769, 770, 771, 772, 767, 768] (by decide +kernel) (by decide +kernel)
set_option maxRecDepth 20000 in
theorem gL_law_X5_many : GoodIn wsL_law (wsV RL 142 RX5 yX5_many wsX5_many) := goodIn_app (goodIn_of _ (by decide +kernel)) ggL_law_X5_many
set_option maxRecDepth 20000 in
theorem ggL_law_X6_many : GoodIn wsL_law wsX6_many := goodIn_r _ [719, 201, 246, 247, 248, 580, 581, 582, 5, 583, 92, 469, 470, 471, 729, 730, 731, 732, 733, 734, 735, 736, 737, 738, 739, 740, 741, 742, 743, 744, 745, 746, 747, 748, 749, 750, 751, 752, 753, 754, 755] (by decide +kernel) (by decide +kernel)
set_option maxRecDepth 20000 in
theorem gL_law_X6_many : GoodIn wsL_law (wsV RL 145 RX6 yX6_many wsX6_many) := goodIn_app (goodIn_of _ (by decide +kernel)) ggL_law_X6_many
end
section
theorem dL_law_0 : decode cL_law 0 = .ok (.new 7, 3) := by decide +kernel
theorem dL_law_3 : decode cL_law 3 = .ok (.dup, 1) := by decide +kernel
theorem dL_law_4 : decode cL_law 4 = .ok (.invokespecial 9, 3) := by decide +kernel
theorem dL_law_7 : decode cL_law 7 = .ok (.astore_n 1, 1) := by decide +kernel
theorem dL_law_8 : decode cL_law 8 = .ok (.new 10, 3) := by decide +kernel
theorem dL_law_11 : decode cL_law 11 = .ok (.dup, 1) := by decide +kernel
theorem dL_law_12 : decode cL_law 12 = .ok (.invokespecial 12, 3) := by decide +kernel
theorem dL_law_15 : decode cL_law 15 = .ok (.astore_n 2, 1) := by decide +kernel
theorem dL_law_16 : decode cL_law 16 = .ok (.iconst 0, 1) := by decide +kernel
theorem dL_law_17 : decode cL_law 17 = .ok (.istore_n 3, 1) := by decide +kernel
theorem dL_law_18 : decode cL_law 18 = .ok (.iload_n 3, 1) := by decide +kernel
theorem dL_law_19 : decode cL_law 19 = .ok (.aload_n 0, 1) := by decide +kernel
theorem dL_law_20 : decode cL_law 20 = .ok (.arraylength, 1) := by decide +kernel
theorem dL_law_21 : decode cL_law 21 = .ok (.bipush 6, 2) := by decide +kernel
theorem dL_law_23 : decode cL_law 23 = .ok (.isub, 1) := by decide +kernel
theorem dL_law_24 : decode cL_law 24 = .ok (.if_icmp .gt 1145, 3) := by decide +kernel
theorem dL_law_27 : decode cL_law 27 = .ok (.aload_n 0, 1) := by decide +kernel
theorem dL_law_28 : decode cL_law 28 = .ok (.iload_n 3, 1) := by decide +kernel
theorem dL_law_29 : decode cL_law 29 = .ok (.iaload, 1) := by decide +kernel
theorem dL_law_30 : decode cL_law 30 = .ok (.bipush 31, 2) := by decide +kernel
theorem dL_law_32 : decode cL_law 32 = .ok (.iand, 1) := by decide +kernel
theorem dL_law_33 : decode cL_law 33 = .ok (.tableswitch 1130 0 30 #[139, 192, 225, 258, 301, 344, 367, 400, 433, 456, 479, 542, 555, 578, 601, 660, 683, 706, 729, 752, 786, 829, 852, 895, 939, 1002, 1025, 1048, 1081, 1094, 1107], 139) := by decide +kernel
theorem dL_law_172 : decode cL_law 172 = .ok (.aload_n 1, 1) := by decide +kernel
theorem dL_law_173 : decode cL_law 173 = .ok (.aload_n 0, 1) := by decide +kernel
theorem dL_law_174 : decode cL_law 174 = .ok (.iload_n 3, 1) := by decide +kernel
theorem dL_law_175 : decode cL_law 175 = .ok (.iconst 1, 1) := by decide +kernel
theorem dL_law_176 : decode cL_law 176 = .ok (.iadd, 1) := by decide +kernel
theorem dL_law_177 : decode cL_law 177 = .ok (.iaload, 1) := by decide +kernel
theorem dL_law_178 : decode cL_law 178 = .ok (.aload_n 0, 1) := by decide +kernel
theorem dL_law_179 : decode cL_law 179 = .ok (.iload_n 3, 1) := by decide +kernel
theorem dL_law_180 : decode cL_law 180 = .ok (.iconst 2, 1) := by decide +kernel
theorem dL_law_181 : decode cL_law 181 = .ok (.iadd, 1) := by decide +kernel
theorem dL_law_182 : decode cL_law 182 = .ok (.iaload, 1) := by decide +kernel
theorem dL_law_183 : decode cL_law 183 = .ok (.aload_n 0, 1) := by decide +kernel
theorem dL_law_184 : decode cL_law 184 = .ok (.iload_n 3, 1) := by decide +kernel
theorem dL_law_185 : decode cL_law 185 = .ok (.iconst 3, 1) := by decide +kernel
theorem dL_law_186 : decode cL_law 186 = .ok (.iadd, 1) := by decide +kernel
theorem dL_law_187 : decode cL_law 187 = .ok (.iaload, 1) := by decide +kernel
theorem dL_law_188 : decode cL_law 188 = .ok (.aload_n 0, 1) := by decide +kernel
theorem dL_law_189 : decode cL_law 189 = .ok (.iload_n 3, 1) := by decide +kernel
theorem dL_law_190 : decode cL_law 190 = .ok (.iconst 4, 1) := by decide +kernel
theorem dL_law_191 : decode cL_law 191 = .ok (.iadd, 1) := by decide +kernel
theorem dL_law_192 : decode cL_law 192 = .ok (.iaload, 1) := by decide +kernel
theorem dL_law_193 : decode cL_law 193 = .ok (.invokevirtual 13, 3) := by decide +kernel
theorem dL_law_196 : decode cL_law 196 = .ok (.aload_n 2, 1) := by decide +kernel
theorem dL_law_197 : decode cL_law 197 = .ok (.aload_n 0, 1) := by decide +kernel
theorem dL_law_198 : decode cL_law 198 = .ok (.iload_n 3, 1) := by decide +kernel
theorem dL_law_199 : decode cL_law 199 = .ok (.iconst 1, 1) := by decide +kernel
theorem dL_law_200 : decode cL_law 200 = .ok (.iadd, 1) := by decide +kernel
theorem dL_law_201 : decode cL_law 201 = .ok (.iaload, 1) := by decide +kernel
theorem dL_law_202 : decode cL_law 202 = .ok (.aload_n 0, 1) := by decide +kernel
theorem dL_law_203 : decode cL_law 203 = .ok (.iload_n 3, 1) := by decide +kernel
theorem dL_law_204 : decode cL_law 204 = .ok (.iconst 2, 1) := by decide +kernel
theorem dL_law_205 : decode cL_law 205 = .ok (.iadd, 1) := by decide +kernel
theorem dL_law_206 : decode cL_law 206 = .ok (.iaload, 1) := by decide +kernel
theorem dL_law_207 : decode cL_law 207 = .ok (.aload_n 0, 1) := by decide +kernel
theorem dL_law_208 : decode cL_law 208 = .ok (.iload_n 3, 1) := by decide +kernel
theorem dL_law_209 : decode cL_law 209 = .ok (.iconst 3, 1) := by decide +kernel
theorem dL_law_210 : decode cL_law 210 = .ok (.iadd, 1) := by decide +kernel
theorem dL_law_211 : decode cL_law 211 = .ok (.iaload, 1) := by decide +kernel
theorem dL_law_212 : decode cL_law 212 = .ok (.aload_n 0, 1) := by decide +kernel
theorem dL_law_213 : decode cL_law 213 = .ok (.iload_n 3, 1) := by decide +kernel
theorem dL_law_214 : decode cL_law 214 = .ok (.iconst 4, 1) := by decide +kernel
theorem dL_law_215 : decode cL_law 215 = .ok (.iadd, 1) := by decide +kernel
theorem dL_law_216 : decode cL_law 216 = .ok (.iaload, 1) := by decide +kernel
theorem dL_law_217 : decode cL_law 217 = .ok (.invokevirtual 17, 3) := by decide +kernel
theorem dL_law_220 : decode cL_law 220 = .ok (.if_icmp .eq 943, 3) := by decide +kernel
theorem dL_law_223 : decode cL_law 223 = .ok (.iconst 0, 1) := by decide +kernel
theorem dL_law_224 : decode cL_law 224 = .ok (.ireturn, 1) := by decide +kernel
theorem dL_law_225 : decode cL_law 225 = .ok (.aload_n 1, 1) := by decide +kernel
theorem dL_law_226 : decode cL_law 226 = .ok (.aload_n 0, 1) := by decide +kernel
theorem dL_law_227 : decode cL_law 227 = .ok (.iload_n 3, 1) := by decide +kernel
theorem dL_law_228 : decode cL_law 228 = .ok (.iconst 1, 1) := by decide +kernel
theorem dL_law_229 : decode cL_law 229 = .ok (.iadd, 1) := by decide +kernel
theorem dL_law_230 : decode cL_law 230 = .ok (.iaload, 1) := by decide +kernel
theorem dL_law_231 : decode cL_law 231 = .ok (.aload_n 0, 1) := by decide +kernel
theorem dL_law_232 : decode cL_law 232 = .ok (.iload_n 3, 1) := by decide +kernel
theorem dL_law_233 : decode cL_law 233 = .ok (.iconst 2, 1) := by decide +kernel
theorem dL_law_234 : decode cL_law 234 = .ok (.iadd, 1) := by decide +kernel
theorem dL_law_235 : decode cL_law 235 = .ok (.iaload, 1) := by decide +kernel
theorem dL_law_236 : decode cL_law 236 = .ok (.invokevirtual 18, 3) := by decide +kernel
theorem dL_law_239 : decode cL_law 239 = .ok (.aload_n 2, 1) := by decide +kernel
theorem dL_law_240 : decode cL_law 240 = .ok (.aload_n 0, 1) := by decide +kernel
theorem dL_law_241 : decode cL_law 241 = .ok (.iload_n 3, 1) := by decide +kernel
theorem dL_law_242 : decode cL_law 242 = .ok (.iconst 1, 1) := by decide +kernel
theorem dL_law_243 : decode cL_law 243 = .ok (.iadd, 1) := by decide +kernel
theorem dL_law_244 : decode cL_law 244 = .ok (.iaload, 1) := by decide +kernel
theorem dL_law_245 : decode cL_law 245 = .ok (.aload_n 0, 1) := by decide +kernel
theorem dL_law_246 : decode cL_law 246 = .ok (.iload_n 3, 1) := by decide +kernel
theorem dL_law_247 : decode cL_law 247 = .ok (.iconst 2, 1) := by decide +kernel
theorem dL_law_248 : decode cL_law 248 = .ok (.iadd, 1) := by decide +kernel
theorem dL_law_249 : decode cL_law 249 = .ok (.iaload, 1) := by decide +kernel
theorem dL_law_250 : decode cL_law 250 = .ok (.invokevirtual 22, 3) := by decide +kernel
theorem dL_law_253 : decode cL_law 253 = .ok (.if_icmp .eq 910, 3) := by decide +kernel
theorem dL_law_256 : decode cL_law 256 = .ok (.iconst 0, 1) := by decide +kernel
theorem dL_law_257 : decode cL_law 257 = .ok (.ireturn, 1) := by decide +kernel
theorem dL_law_258 : decode cL_law 258 = .ok (.aload_n 1, 1) := by decide +kernel
theorem dL_law_259 : decode cL_law 259 = .ok (.aload_n 0, 1) := by decide +kernel
theorem dL_law_260 : decode cL_law 260 = .ok (.iload_n 3, 1) := by decide +kernel
theorem dL_law_261 : decode cL_law 261 = .ok (.iconst 1, 1) := by decide +kernel
theorem dL_law_262 : decode cL_law 262 = .ok (.iadd, 1) := by decide +kernel
theorem dL_law_263 : decode cL_law 263 = .ok (.iaload, 1) := by decide +kernel
theorem dL_law_264 : decode cL_law 264 = .ok (.aload_n 0, 1) := by decide +kernel
theorem dL_law_265 : decode cL_law 265 = .ok (.iload_n 3, 1) := by decide +kernel
theorem dL_law_266 : decode cL_law 266 = .ok (.iconst 2, 1) := by decide +kernel
theorem dL_law_267 : decode cL_law 267 = .ok (.iadd, 1) := by decide +kernel
theorem dL_law_268 : decode cL_law 268 = .ok (.iaload, 1) := by decide +kernel
theorem dL_law_269 : decode cL_law 269 = .ok (.invokevirtual 23, 3) := by decide +kernel
theorem dL_law_272 : decode cL_law 272 = .ok (.aload_n 2, 1) := by decide +kernel
theorem dL_law_273 : decode cL_law 273 = .ok (.aload_n 0, 1) := by decide +kernel
theorem dL_law_274 : decode cL_law 274 = .ok (.iload_n 3, 1) := by decide +kernel
theorem dL_law_275 : decode cL_law 275 = .ok (.iconst 1, 1) := by decide +kernel
theorem dL_law_276 : decode cL_law 276 = .ok (.iadd, 1) := by decide +kernel
theorem dL_law_277 : decode cL_law 277 = .ok (.iaload, 1) := by decide +kernel
theorem dL_law_278 : decode cL_law 278 = .ok (.aload_n 0, 1) := by decide +kernel
theorem dL_law_279 : decode cL_law 279 = .ok (.iload_n 3, 1) := by decide +kernel
theorem dL_law_280 : decode cL_law 280 = .ok (.iconst 2, 1) := by decide +kernel
theorem dL_law_281 : decode cL_law 281 = .ok (.iadd, 1) := by decide +kernel
theorem dL_law_282 : decode cL_law 282 = .ok (.iaload, 1) := by decide +kernel
theorem dL_law_283 : decode cL_law 283 = .ok (.invokevirtual 26, 3) := by decide +kernel
theorem dL_law_286 : decode cL_law 286 = .ok (.if_icmp .eq 877, 3) := by decide +kernel
theorem dL_law_289 : decode cL_law 289 = .ok (.iconst 0, 1) := by decide +kernel
theorem dL_law_290 : decode cL_law 290 = .ok (.ireturn, 1) := by decide +kernel
theorem dL_law_291 : decode cL_law 291 = .ok (.aload_n 1, 1) := by decide +kernel
theorem dL_law_292 : decode cL_law 292 = .ok (.aload_n 0, 1) := by decide +kernel
theorem dL_law_293 : decode cL_law 293 = .ok (.iload_n 3, 1) := by decide +kernel
theorem dL_law_294 : decode cL_law 294 = .ok (.iconst 1, 1) := by decide +kernel
theorem dL_law_295 : decode cL_law 295 = .ok (.iadd, 1) := by decide +kernel
theorem dL_law_296 : decode cL_law 296 = .ok (.iaload, 1) := by decide +kernel
theorem dL_law_297 : decode cL_law 297 = .ok (.aload_n 0, 1) := by decide +kernel
theorem dL_law_298 : decode cL_law 298 = .ok (.iload_n 3, 1) := by decide +kernel
theorem dL_law_299 : decode cL_law 299 = .ok (.iconst 2, 1) := by decide +kernel
theorem dL_law_300 : decode cL_law 300 = .ok (.iadd, 1) := by decide +kernel
theorem dL_law_301 : decode cL_law 301 = .ok (.iaload, 1) := by decide +kernel
theorem dL_law_302 : decode cL_law 302 = .ok (.aload_n 0, 1) := by decide +kernel
theorem dL_law_303 : decode cL_law 303 = .ok (.iload_n 3, 1) := by decide +kernel
theorem dL_law_304 : decode cL_law 304 = .ok (.iconst 3, 1) := by decide +kernel
theorem dL_law_305 : decode cL_law 305 = .ok (.iadd, 1) := by decide +kernel
theorem dL_law_306 : decode cL_law 306 = .ok (.iaload, 1) := by decide +kernel
theorem dL_law_307 : decode cL_law 307 = .ok (.invokevirtual 27, 3) := by decide +kernel
theorem dL_law_310 : decode cL_law 310 = .ok (.aload_n 2, 1) := by decide +kernel
theorem dL_law_311 : decode cL_law 311 = .ok (.aload_n 0, 1) := by decide +kernel
theorem dL_law_312 : decode cL_law 312 = .ok (.iload_n 3, 1) := by decide +kernel
theorem dL_law_313 : decode cL_law 313 = .ok (.iconst 1, 1) := by decide +kernel
theorem dL_law_314 : decode cL_law 314 = .ok (.iadd, 1) := by decide +kernel
theorem dL_law_315 : decode cL_law 315 = .ok (.iaload, 1) := by decide +kernel
theorem dL_law_316 : decode cL_law 316 = .ok (.aload_n 0, 1) := by decide +kernel
theorem dL_law_317 : decode cL_law 317 = .ok (.iload_n 3, 1) := by decide +kernel
theorem dL_law_318 : decode cL_law 318 = .ok (.iconst 2, 1) := by decide +kernel
theorem dL_law_319 : decode cL_law 319 = .ok (.iadd, 1) := by decide +kernel
theorem dL_law_320 : decode cL_law 320 = .ok (.iaload, 1) := by decide +kernel
theorem dL_law_321 : decode cL_law 321 = .ok (.aload_n 0, 1) := by decide +kernel
theorem dL_law_322 : decode cL_law 322 = .ok (.iload_n 3, 1) := by decide +kernel
theorem dL_law_323 : decode cL_law 323 = .ok (.iconst 3, 1) := by decide +kernel
theorem dL_law_324 : decode cL_law 324 = .ok (.iadd, 1) := by decide +kernel
theorem dL_law_325 : decode cL_law 325 = .ok (.iaload, 1) := by decide +kernel
theorem dL_law_326 : decode cL_law 326 = .ok (.invokevirtual 31, 3) := by decide +kernel
theorem dL_law_329 : decode cL_law 329 = .ok (.if_icmp .eq 834, 3) := by decide +kernel
theorem dL_law_332 : decode cL_law 332 = .ok (.iconst 0, 1) := by decide +kernel
theorem dL_law_333 : decode cL_law 333 = .ok (.ireturn, 1) := by decide +kernel
theorem dL_law_334 : decode cL_law 334 = .ok (.aload_n 1, 1) := by decide +kernel
theorem dL_law_335 : decode cL_law 335 = .ok (.aload_n 0, 1) := by decide +kernel
theorem dL_law_336 : decode cL_law 336 = .ok (.iload_n 3, 1) := by decide +kernel
theorem dL_law_337 : decode cL_law 337 = .ok (.iconst 1, 1) := by decide +kernel
theorem dL_law_338 : decode cL_law 338 = .ok (.iadd, 1) := by decide +kernel
theorem dL_law_339 : decode cL_law 339 = .ok (.iaload, 1) := by decide +kernel
theorem dL_law_340 : decode cL_law 340 = .ok (.aload_n 0, 1) := by decide +kernel
theorem dL_law_341 : decode cL_law 341 = .ok (.iload_n 3, 1) := by decide +kernel
theorem dL_law_342 : decode cL_law 342 = .ok (.iconst 2, 1) := by decide +kernel
theorem dL_law_343 : decode cL_law 343 = .ok (.iadd, 1) := by decide +kernel
theorem dL_law_344 : decode cL_law 344 = .ok (.iaload, 1) := by decide +kernel
theorem dL_law_345 : decode cL_law 345 = .ok (.aload_n 0, 1) := by decide +kernel
theorem dL_law_346 : decode cL_law 346 = .ok (.iload_n 3, 1) := by decide +kernel
theorem dL_law_347 : decode cL_law 347 = .ok (.iconst 3, 1) := by decide +kernel
theorem dL_law_348 : decode cL_law 348 = .ok (.iadd, 1) := by decide +kernel
theorem dL_law_349 : decode cL_law 349 = .ok (.iaload, 1) := by decide +kernel
theorem dL_law_350 : decode cL_law 350 = .ok (.invokevirtual 32, 3) := by decide +kernel
theorem dL_law_353 : decode cL_law 353 = .ok (.aload_n 2, 1) := by decide +kernel
theorem dL_law_354 : decode cL_law 354 = .ok (.aload_n 0, 1) := by decide +kernel
theorem dL_law_355 : decode cL_law 355 = .ok (.iload_n 3, 1) := by decide +kernel
theorem dL_law_356 : decode cL_law 356 = .ok (.iconst 1, 1) := by decide +kernel
theorem dL_law_357 : decode cL_law 357 = .ok (.iadd, 1) := by decide +kernel
theorem dL_law_358 : decode cL_law 358 = .ok (.iaload, 1) := by decide +kernel
theorem dL_law_359 : decode cL_law 359 = .ok (.aload_n 0, 1) := by decide +kernel
theorem dL_law_360 : decode cL_law 360 = .ok (.iload_n 3, 1) := by decide +kernel
theorem dL_law_361 : decode cL_law 361 = .ok (.iconst 2, 1) := by decide +kernel
theorem dL_law_362 : decode cL_law 362 = .ok (.iadd, 1) := by decide +kernel
theorem dL_law_363 : decode cL_law 363 = .ok (.iaload, 1) := by decide +kernel
theorem dL_law_364 : decode cL_law 364 = .ok (.aload_n 0, 1) := by decide +kernel
theorem dL_law_365 : decode cL_law 365 = .ok (.iload_n 3, 1) := by decide +kernel
theorem dL_law_366 : decode cL_law 366 = .ok (.iconst 3, 1) := by decide +kernel
theorem dL_law_367 : decode cL_law 367 = .ok (.iadd, 1) := by decide +kernel
theorem dL_law_368 : decode cL_law 368 = .ok (.iaload, 1) := by decide +kernel
theorem dL_law_369 : decode cL_law 369 = .ok (.invokevirtual 35, 3) := by decide +kernel
theorem dL_law_372 : decode cL_law 372 = .ok (.if_icmp .eq 791, 3) := by decide +kernel
theorem dL_law_375 : decode cL_law 375 = .ok (.iconst 0, 1) := by decide +kernel
theorem dL_law_376 : decode cL_law 376 = .ok (.ireturn, 1) := by decide +kernel
theorem dL_law_377 : decode cL_law 377 = .ok (.aload_n 1, 1) := by decide +kernel
theorem dL_law_378 : decode cL_law 378 = .ok (.aload_n 0, 1) := by decide +kernel
theorem dL_law_379 : decode cL_law 379 = .ok (.iload_n 3, 1) := by decide +kernel
theorem dL_law_380 : decode cL_law 380 = .ok (.iconst 1, 1) := by decide +kernel
theorem dL_law_381 : decode cL_law 381 = .ok (.iadd, 1) := by decide +kernel
theorem dL_law_382 : decode cL_law 382 = .ok (.iaload, 1) := by decide +kernel
theorem dL_law_383 : decode cL_law 383 = .ok (.invokevirtual 36, 3) := by decide +kernel
theorem dL_law_386 : decode cL_law 386 = .ok (.aload_n 2, 1) := by decide +kernel
theorem dL_law_387 : decode cL_law 387 = .ok (.aload_n 0, 1) := by decide +kernel
theorem dL_law_388 : decode cL_law 388 = .ok (.iload_n 3, 1) := by decide +kernel
theorem dL_law_389 : decode cL_law 389 = .ok (.iconst 1, 1) := by decide +kernel
theorem dL_law_390 : decode cL_law 390 = .ok (.iadd, 1) := by decide +kernel
theorem dL_law_391 : decode cL_law 391 = .ok (.iaload, 1) := by decide +kernel
theorem dL_law_392 : decode cL_law 392 = .ok (.invokevirtual 40, 3) := by decide +kernel
theorem dL_law_395 : decode cL_law 395 = .ok (.if_icmp .eq 768, 3) := by decide +kernel
theorem dL_law_398 : decode cL_law 398 = .ok (.iconst 0, 1) := by decide +kernel
theorem dL_law_399 : decode cL_law 399 = .ok (.ireturn, 1) := by decide +kernel
theorem dL_law_400 : decode cL_law 400 = .ok (.aload_n 1, 1) := by decide +kernel
theorem dL_law_401 : decode cL_law 401 = .ok (.aload_n 0, 1) := by decide +kernel
theorem dL_law_402 : decode cL_law 402 = .ok (.iload_n 3, 1) := by decide +kernel
theorem dL_law_403 : decode cL_law 403 = .ok (.iconst 1, 1) := by decide +kernel
theorem dL_law_404 : decode cL_law 404 = .ok (.iadd, 1) := by decide +kernel
theorem dL_law_405 : decode cL_law 405 = .ok (.iaload, 1) := by decide +kernel
theorem dL_law_406 : decode cL_law 406 = .ok (.aload_n 0, 1) := by decide +kernel
theorem dL_law_407 : decode cL_law 407 = .ok (.iload_n 3, 1) := by decide +kernel
theorem dL_law_408 : decode cL_law 408 = .ok (.iconst 2, 1) := by decide +kernel
theorem dL_law_409 : decode cL_law 409 = .ok (.iadd, 1) := by decide +kernel
theorem dL_law_410 : decode cL_law 410 = .ok (.iaload, 1) := by decide +kernel
theorem dL_law_411 : decode cL_law 411 = .ok (.invokevirtual 41, 3) := by decide +kernel
theorem dL_law_414 : decode cL_law 414 = .ok (.aload_n 2, 1) := by decide +kernel
theorem dL_law_415 : decode cL_law 415 = .ok (.aload_n 0, 1) := by decide +kernel
theorem dL_law_416 : decode cL_law 416 = .ok (.iload_n 3, 1) := by decide +kernel
theorem dL_law_417 : decode cL_law 417 = .ok (.iconst 1, 1) := by decide +kernel
theorem dL_law_418 : decode cL_law 418 = .ok (.iadd, 1) := by decide +kernel
theorem dL_law_419 : decode cL_law 419 = .ok (.iaload, 1) := by decide +kernel
theorem dL_law_420 : decode cL_law 420 = .ok (.aload_n 0, 1) := by decide +kernel
theorem dL_law_421 : decode cL_law 421 = .ok (.iload_n 3, 1) := by decide +kernel
theorem dL_law_422 : decode cL_law 422 = .ok (.iconst 2, 1) := by decide +kernel
theorem dL_law_423 : decode cL_law 423 = .ok (.iadd, 1) := by decide +kernel
theorem dL_law_424 : decode cL_law 424 = .ok (.iaload, 1) := by decide +kernel
theorem dL_law_425 : decode cL_law 425 = .ok (.invokevirtual 44, 3) := by decide +kernel
theorem dL_law_428 : decode cL_law 428 = .ok (.if_icmp .eq 735, 3) := by decide +kernel
theorem dL_law_431 : decode cL_law 431 = .ok (.iconst 0, 1) := by decide +kernel
theorem dL_law_432 : decode cL_law 432 = .ok (.ireturn, 1) := by decide +kernel
theorem dL_law_433 : decode cL_law 433 = .ok (.aload_n 1, 1) := by decide +kernel
theorem dL_law_434 : decode cL_law 434 = .ok (.aload_n 0, 1) := by decide +kernel
theorem dL_law_435 : decode cL_law 435 = .ok (.iload_n 3, 1) := by decide +kernel
theorem dL_law_436 : decode cL_law 436 = .ok (.iconst 1, 1) := by decide +kernel
theorem dL_law_437 : decode cL_law 437 = .ok (.iadd, 1) := by decide +kernel
theorem dL_law_438 : decode cL_law 438 = .ok (.iaload, 1) := by decide +kernel
theorem dL_law_439 : decode cL_law 439 = .ok (.aload_n 0, 1) := by decide +kernel
theorem dL_law_440 : decode cL_law 440 = .ok (.iload_n 3, 1) := by decide +kernel
theorem dL_law_441 : decode cL_law 441 = .ok (.iconst 2, 1) := by decide +kernel
theorem dL_law_442 : decode cL_law 442 = .ok (.iadd, 1) := by decide +kernel
theorem dL_law_443 : decode cL_law 443 = .ok (.iaload, 1) := by decide +kernel
theorem dL_law_444 : decode cL_law 444 = .ok (.invokevirtual 45, 3) := by decide +kernel
theorem dL_law_447 : decode cL_law 447 = .ok (.aload_n 2, 1) := by decide +kernel
theorem dL_law_448 : decode cL_law 448 = .ok (.aload_n 0, 1) := by decide +kernel
theorem dL_law_449 : decode cL_law 449 = .ok (.iload_n 3, 1) := by decide +kernel
theorem dL_law_450 : decode cL_law 450 = .ok (.iconst 1, 1) := by decide +kernel
theorem dL_law_451 : decode cL_law 451 = .ok (.iadd, 1) := by decide +kernel
theorem dL_law_452 : decode cL_law 452 = .ok (.iaload, 1) := by decide +kernel
theorem dL_law_453 : decode cL_law 453 = .ok (.aload_n 0, 1) := by decide +kernel
theorem dL_law_454 : decode cL_law 454 = .ok (.iload_n 3, 1) := by decide +kernel
theorem dL_law_455 : decode cL_law 455 = .ok (.iconst 2, 1) := by decide +kernel
theorem dL_law_456 : decode cL_law 456 = .ok (.iadd, 1) := by decide +kernel
theorem dL_law_457 : decode cL_law 457 = .ok (.iaload, 1) := by decide +kernel
theorem dL_law_458 : decode cL_law 458 = .ok (.invokevirtual 48, 3) := by decide +kernel
theorem dL_law_461 : decode cL_law 461 = .ok (.if_icmp .eq 702, 3) := by decide +kernel
theorem dL_law_464 : decode cL_law 464 = .ok (.iconst 0, 1) := by decide +kernel
theorem dL_law_465 : decode cL_law 465 = .ok (.ireturn, 1) := by decide +kernel
theorem dL_law_466 : decode cL_law 466 = .ok (.aload_n 1, 1) := by decide +kernel
theorem dL_law_467 : decode cL_law 467 = .ok (.aload_n 0, 1) := by decide +kernel
theorem dL_law_468 : decode cL_law 468 = .ok (.iload_n 3, 1) := by decide +kernel
theorem dL_law_469 : decode cL_law 469 = .ok (.iconst 1, 1) := by decide +kernel
theorem dL_law_470 : decode cL_law 470 = .ok (.iadd, 1) := by decide +kernel
theorem dL_law_471 : decode cL_law 471 = .ok (.iaload, 1) := by decide +kernel
theorem dL_law_472 : decode cL_law 472 = .ok (.invokevirtual 49, 3) := by decide +kernel
theorem dL_law_475 : decode cL_law 475 = .ok (.aload_n 2, 1) := by decide +kernel
theorem dL_law_476 : decode cL_law 476 = .ok (.aload_n 0, 1) := by decide +kernel
theorem dL_law_477 : decode cL_law 477 = .ok (.iload_n 3, 1) := by decide +kernel
theorem dL_law_478 : decode cL_law 478 = .ok (.iconst 1, 1) := by decide +kernel
theorem dL_law_479 : decode cL_law 479 = .ok (.iadd, 1) := by decide +kernel
theorem dL_law_480 : decode cL_law 480 = .ok (.iaload, 1) := by decide +kernel
theorem dL_law_481 : decode cL_law 481 = .ok (.invokevirtual 52, 3) := by decide +kernel
theorem dL_law_484 : decode cL_law 484 = .ok (.if_icmp .eq 679, 3) := by decide +kernel
theorem dL_law_487 : decode cL_law 487 = .ok (.iconst 0, 1) := by decide +kernel
theorem dL_law_488 : decode cL_law 488 = .ok (.ireturn, 1) := by decide +kernel
theorem dL_law_489 : decode cL_law 489 = .ok (.aload_n 1, 1) := by decide +kernel
theorem dL_law_490 : decode cL_law 490 = .ok (.aload_n 0, 1) := by decide +kernel
theorem dL_law_491 : decode cL_law 491 = .ok (.iload_n 3, 1) := by decide +kernel
theorem dL_law_492 : decode cL_law 492 = .ok (.iconst 1, 1) := by decide +kernel
theorem dL_law_493 : decode cL_law 493 = .ok (.iadd, 1) := by decide +kernel
theorem dL_law_494 : decode cL_law 494 = .ok (.iaload, 1) := by decide +kernel
theorem dL_law_495 : decode cL_law 495 = .ok (.invokevirtual 53, 3) := by decide +kernel
theorem dL_law_498 : decode cL_law 498 = .ok (.aload_n 2, 1) := by decide +kernel
theorem dL_law_499 : decode cL_law 499 = .ok (.aload_n 0, 1) := by decide +kernel
theorem dL_law_500 : decode cL_law 500 = .ok (.iload_n 3, 1) := by decide +kernel
theorem dL_law_501 : decode cL_law 501 = .ok (.iconst 1, 1) := by decide +kernel
theorem dL_law_502 : decode cL_law 502 = .ok (.iadd, 1) := by decide +kernel
theorem dL_law_503 : decode cL_law 503 = .ok (.iaload, 1) := by decide +kernel
theorem dL_law_504 : decode cL_law 504 = .ok (.invokevirtual 56, 3) := by decide +kernel
theorem dL_law_507 : decode cL_law 507 = .ok (.if_icmp .eq 656, 3) := by decide +kernel
theorem dL_law_510 : decode cL_law 510 = .ok (.iconst 0, 1) := by decide +kernel
theorem dL_law_511 : decode cL_law 511 = .ok (.ireturn, 1) := by decide +kernel
theorem dL_law_512 : decode cL_law 512 = .ok (.aload_n 1, 1) := by decide +kernel
theorem dL_law_513 : decode cL_law 513 = .ok (.aload_n 0, 1) := by decide +kernel
theorem dL_law_514 : decode cL_law 514 = .ok (.iload_n 3, 1) := by decide +kernel
theorem dL_law_515 : decode cL_law 515 = .ok (.iconst 1, 1) := by decide +kernel
theorem dL_law_516 : decode cL_law 516 = .ok (.iadd, 1) := by decide +kernel
theorem dL_law_517 : decode cL_law 517 = .ok (.iaload, 1) := by decide +kernel
theorem dL_law_518 : decode cL_law 518 = .ok (.aload_n 0, 1) := by decide +kernel
theorem dL_law_519 : decode cL_law 519 = .ok (.iload_n 3, 1) := by decide +kernel
theorem dL_law_520 : decode cL_law 520 = .ok (.iconst 2, 1) := by decide +kernel
theorem dL_law_521 : decode cL_law 521 = .ok (.iadd, 1) := by decide +kernel
theorem dL_law_522 : decode cL_law 522 = .ok (.iaload, 1) := by decide +kernel
theorem dL_law_523 : decode cL_law 523 = .ok (.aload_n 0, 1) := by decide +kernel
theorem dL_law_524 : decode cL_law 524 = .ok (.iload_n 3, 1) := by decide +kernel
theorem dL_law_525 : decode cL_law 525 = .ok (.iconst 3, 1) := by decide +kernel
theorem dL_law_526 : decode cL_law 526 = .ok (.iadd, 1) := by decide +kernel
theorem dL_law_527 : decode cL_law 527 = .ok (.iaload, 1) := by decide +kernel
theorem dL_law_528 : decode cL_law 528 = .ok (.aload_n 0, 1) := by decide +kernel
theorem dL_law_529 : decode cL_law 529 = .ok (.iload_n 3, 1) := by decide +kernel
theorem dL_law_530 : decode cL_law 530 = .ok (.iconst 4, 1) := by decide +kernel
theorem dL_law_531 : decode cL_law 531 = .ok (.iadd, 1) := by decide +kernel
theorem dL_law_532 : decode cL_law 532 = .ok (.iaload, 1) := by decide +kernel
theorem dL_law_533 : decode cL_law 533 = .ok (.aload_n 0, 1) := by decide +kernel
theorem dL_law_534 : decode cL_law 534 = .ok (.iload_n 3, 1) := by decide +kernel
theorem dL_law_535 : decode cL_law 535 = .ok (.iconst 5, 1) := by decide +kernel
theorem dL_law_536 : decode cL_law 536 = .ok (.iadd, 1) := by decide +kernel
theorem dL_law_537 : decode cL_law 537 = .ok (.iaload, 1) := by decide +kernel
theorem dL_law_538 : decode cL_law 538 = .ok (.invokevirtual 57, 3) := by decide +kernel
theorem dL_law_541 : decode cL_law 541 = .ok (.aload_n 2, 1) := by decide +kernel
theorem dL_law_542 : decode cL_law 542 = .ok (.aload_n 0, 1) := by decide +kernel
theorem dL_law_543 : decode cL_law 543 = .ok (.iload_n 3, 1) := by decide +kernel
theorem dL_law_544 : decode cL_law 544 = .ok (.iconst 1, 1) := by decide +kernel
theorem dL_law_545 : decode cL_law 545 = .ok (.iadd, 1) := by decide +kernel
theorem dL_law_546 : decode cL_law 546 = .ok (.iaload, 1) := by decide +kernel
theorem dL_law_547 : decode cL_law 547 = .ok (.aload_n 0, 1) := by decide +kernel
theorem dL_law_548 : decode cL_law 548 = .ok (.iload_n 3, 1) := by decide +kernel
theorem dL_law_549 : decode cL_law 549 = .ok (.iconst 2, 1) := by decide +kernel
theorem dL_law_550 : decode cL_law 550 = .ok (.iadd, 1) := by decide +kernel
theorem dL_law_551 : decode cL_law 551 = .ok (.iaload, 1) := by decide +kernel
theorem dL_law_552 : decode cL_law 552 = .ok (.aload_n 0, 1) := by decide +kernel
theorem dL_law_553 : decode cL_law 553 = .ok (.iload_n 3, 1) := by decide +kernel
theorem dL_law_554 : decode cL_law 554 = .ok (.iconst 3, 1) := by decide +kernel
theorem dL_law_555 : decode cL_law 555 = .ok (.iadd, 1) := by decide +kernel
theorem dL_law_556 : decode cL_law 556 = .ok (.iaload, 1) := by decide +kernel
theorem dL_law_557 : decode cL_law 557 = .ok (.aload_n 0, 1) := by decide +kernel
theorem dL_law_558 : decode cL_law 558 = .ok (.iload_n 3, 1) := by decide +kernel
theorem dL_law_559 : decode cL_law 559 = .ok (.iconst 4, 1) := by decide +kernel
theorem dL_law_560 : decode cL_law 560 = .ok (.iadd, 1) := by decide +kernel
theorem dL_law_561 : decode cL_law 561 = .ok (.iaload, 1) := by decide +kernel
theorem dL_law_562 : decode cL_law 562 = .ok (.aload_n 0, 1) := by decide +kernel
theorem dL_law_563 : decode cL_law 563 = .ok (.iload_n 3, 1) := by decide +kernel
theorem dL_law_564 : decode cL_law 564 = .ok (.iconst 5, 1) := by decide +kernel
theorem dL_law_565 : decode cL_law 565 = .ok (.iadd, 1) := by decide +kernel
theorem dL_law_566 : decode cL_law 566 = .ok (.iaload, 1) := by decide +kernel
theorem dL_law_567 : decode cL_law 567 = .ok (.invokevirtual 61, 3) := by decide +kernel
theorem dL_law_570 : decode cL_law 570 = .ok (.if_icmp .eq 593, 3) := by decide +kernel
theorem dL_law_573 : decode cL_law 573 = .ok (.iconst 0, 1) := by decide +kernel
theorem dL_law_574 : decode cL_law 574 = .ok (.ireturn, 1) := by decide +kernel
theorem dL_law_575 : decode cL_law 575 = .ok (.aload_n 1, 1) := by decide +kernel
theorem dL_law_576 : decode cL_law 576 = .ok (.invokevirtual 62, 3) := by decide +kernel
theorem dL_law_579 : decode cL_law 579 = .ok (.aload_n 2, 1) := by decide +kernel
theorem dL_law_580 : decode cL_law 580 = .ok (.invokevirtual 66, 3) := by decide +kernel
theorem dL_law_583 : decode cL_law 583 = .ok (.if_icmp .eq 580, 3) := by decide +kernel
theorem dL_law_586 : decode cL_law 586 = .ok (.iconst 0, 1) := by decide +kernel
theorem dL_law_587 : decode cL_law 587 = .ok (.ireturn, 1) := by decide +kernel
theorem dL_law_588 : decode cL_law 588 = .ok (.aload_n 1, 1) := by decide +kernel
theorem dL_law_589 : decode cL_law 589 = .ok (.aload_n 0, 1) := by decide +kernel
theorem dL_law_590 : decode cL_law 590 = .ok (.iload_n 3, 1) := by decide +kernel
theorem dL_law_591 : decode cL_law 591 = .ok (.iconst 1, 1) := by decide +kernel
theorem dL_law_592 : decode cL_law 592 = .ok (.iadd, 1) := by decide +kernel
theorem dL_law_593 : decode cL_law 593 = .ok (.iaload, 1) := by decide +kernel
theorem dL_law_594 : decode cL_law 594 = .ok (.invokevirtual 67, 3) := by decide +kernel
theorem dL_law_597 : decode cL_law 597 = .ok (.aload_n 2, 1) := by decide +kernel
theorem dL_law_598 : decode cL_law 598 = .ok (.aload_n 0, 1) := by decide +kernel
theorem dL_law_599 : decode cL_law 599 = .ok (.iload_n 3, 1) := by decide +kernel
theorem dL_law_600 : decode cL_law 600 = .ok (.iconst 1, 1) := by decide +kernel
theorem dL_law_601 : decode cL_law 601 = .ok (.iadd, 1) := by decide +kernel
theorem dL_law_602 : decode cL_law 602 = .ok (.iaload, 1) := by decide +kernel
theorem dL_law_603 : decode cL_law 603 = .ok (.invokevirtual 70, 3) := by decide +kernel
theorem dL_law_606 : decode cL_law 606 = .ok (.if_icmp .eq 557, 3) := by decide +kernel
theorem dL_law_609 : decode cL_law 609 = .ok (.iconst 0, 1) := by decide +kernel
theorem dL_law_610 : decode cL_law 610 = .ok (.ireturn, 1) := by decide +kernel
theorem dL_law_611 : decode cL_law 611 = .ok (.aload_n 1, 1) := by decide +kernel
theorem dL_law_612 : decode cL_law 612 = .ok (.aload_n 0, 1) := by decide +kernel
theorem dL_law_613 : decode cL_law 613 = .ok (.iload_n 3, 1) := by decide +kernel
theorem dL_law_614 : decode cL_law 614 = .ok (.iconst 1, 1) := by decide +kernel
theorem dL_law_615 : decode cL_law 615 = .ok (.iadd, 1) := by decide +kernel
theorem dL_law_616 : decode cL_law 616 = .ok (.iaload, 1) := by decide +kernel
theorem dL_law_617 : decode cL_law 617 = .ok (.invokevirtual 71, 3) := by decide +kernel
theorem dL_law_620 : decode cL_law 620 = .ok (.aload_n 2, 1) := by decide +kernel
theorem dL_law_621 : decode cL_law 621 = .ok (.aload_n 0, 1) := by decide +kernel
theorem dL_law_622 : decode cL_law 622 = .ok (.iload_n 3, 1) := by decide +kernel
theorem dL_law_623 : decode cL_law 623 = .ok (.iconst 1, 1) := by decide +kernel
theorem dL_law_624 : decode cL_law 624 = .ok (.iadd, 1) := by decide +kernel
theorem dL_law_625 : decode cL_law 625 = .ok (.iaload, 1) := by decide +kernel
theorem dL_law_626 : decode cL_law 626 = .ok (.invokevirtual 74, 3) := by decide +kernel
theorem dL_law_629 : decode cL_law 629 = .ok (.if_icmp .eq 534, 3) := by decide +kernel
theorem dL_law_632 : decode cL_law 632 = .ok (.iconst 0, 1) := by decide +kernel
theorem dL_law_633 : decode cL_law 633 = .ok (.ireturn, 1) := by decide +kernel
theorem dL_law_634 : decode cL_law 634 = .ok (.aload_n 1, 1) := by decide +kernel
theorem dL_law_635 : decode cL_law 635 = .ok (.aload_n 0, 1) := by decide +kernel
theorem dL_law_636 : decode cL_law 636 = .ok (.iload_n 3, 1) := by decide +kernel
theorem dL_law_637 : decode cL_law 637 = .ok (.iconst 1, 1) := by decide +kernel
theorem dL_law_638 : decode cL_law 638 = .ok (.iadd, 1) := by decide +kernel
theorem dL_law_639 : decode cL_law 639 = .ok (.iaload, 1) := by decide +kernel
theorem dL_law_640 : decode cL_law 640 = .ok (.aload_n 0, 1) := by decide +kernel
theorem dL_law_641 : decode cL_law 641 = .ok (.iload_n 3, 1) := by decide +kernel
theorem dL_law_642 : decode cL_law 642 = .ok (.iconst 2, 1) := by decide +kernel
theorem dL_law_643 : decode cL_law 643 = .ok (.iadd, 1) := by decide +kernel
theorem dL_law_644 : decode cL_law 644 = .ok (.iaload, 1) := by decide +kernel
theorem dL_law_645 : decode cL_law 645 = .ok (.aload_n 0, 1) := by decide +kernel
theorem dL_law_646 : decode cL_law 646 = .ok (.iload_n 3, 1) := by decide +kernel
theorem dL_law_647 : decode cL_law 647 = .ok (.iconst 3, 1) := by decide +kernel
theorem dL_law_648 : decode cL_law 648 = .ok (.iadd, 1) := by decide +kernel
theorem dL_law_649 : decode cL_law 649 = .ok (.iaload, 1) := by decide +kernel
theorem dL_law_650 : decode cL_law 650 = .ok (.ifCond .eq 7, 3) := by decide +kernel
theorem dL_law_653 : decode cL_law 653 = .ok (.iconst 1, 1) := by decide +kernel
theorem dL_law_654 : decode cL_law 654 = .ok (.goto 4, 3) := by decide +kernel
theorem dL_law_657 : decode cL_law 657 = .ok (.iconst 0, 1) := by decide +kernel
theorem dL_law_658 : decode cL_law 658 = .ok (.invokevirtual 75, 3) := by decide +kernel
theorem dL_law_661 : decode cL_law 661 = .ok (.aload_n 2, 1) := by decide +kernel
theorem dL_law_662 : decode cL_law 662 = .ok (.aload_n 0, 1) := by decide +kernel
theorem dL_law_663 : decode cL_law 663 = .ok (.iload_n 3, 1) := by decide +kernel
theorem dL_law_664 : decode cL_law 664 = .ok (.iconst 1, 1) := by decide +kernel
theorem dL_law_665 : decode cL_law 665 = .ok (.iadd, 1) := by decide +kernel
theorem dL_law_666 : decode cL_law 666 = .ok (.iaload, 1) := by decide +kernel
theorem dL_law_667 : decode cL_law 667 = .ok (.aload_n 0, 1) := by decide +kernel
theorem dL_law_668 : decode cL_law 668 = .ok (.iload_n 3, 1) := by decide +kernel
theorem dL_law_669 : decode cL_law 669 = .ok (.iconst 2, 1) := by decide +kernel
theorem dL_law_670 : decode cL_law 670 = .ok (.iadd, 1) := by decide +kernel
theorem dL_law_671 : decode cL_law 671 = .ok (.iaload, 1) := by decide +kernel
theorem dL_law_672 : decode cL_law 672 = .ok (.aload_n 0, 1) := by decide +kernel
theorem dL_law_673 : decode cL_law 673 = .ok (.iload_n 3, 1) := by decide +kernel
theorem dL_law_674 : decode cL_law 674 = .ok (.iconst 3, 1) := by decide +kernel
theorem dL_law_675 : decode cL_law 675 = .ok (.iadd, 1) := by decide +kernel
theorem dL_law_676 : decode cL_law 676 = .ok (.iaload, 1) := by decide +kernel
theorem dL_law_677 : decode cL_law 677 = .ok (.ifCond .eq 7, 3) := by decide +kernel
theorem dL_law_680 : decode cL_law 680 = .ok (.iconst 1, 1) := by decide +kernel
theorem dL_law_681 : decode cL_law 681 = .ok (.goto 4, 3) := by decide +kernel
theorem dL_law_684 : decode cL_law 684 = .ok (.iconst 0, 1) := by decide +kernel
theorem dL_law_685 : decode cL_law 685 = .ok (.invokevirtual 79, 3) := by decide +kernel
theorem dL_law_688 : decode cL_law 688 = .ok (.if_icmp .eq 475, 3) := by decide +kernel
theorem dL_law_691 : decode cL_law 691 = .ok (.iconst 0, 1) := by decide +kernel
theorem dL_law_692 : decode cL_law 692 = .ok (.ireturn, 1) := by decide +kernel
theorem dL_law_693 : decode cL_law 693 = .ok (.aload_n 1, 1) := by decide +kernel
theorem dL_law_694 : decode cL_law 694 = .ok (.aload_n 0, 1) := by decide +kernel
theorem dL_law_695 : decode cL_law 695 = .ok (.iload_n 3, 1) := by decide +kernel
theorem dL_law_696 : decode cL_law 696 = .ok (.iconst 1, 1) := by decide +kernel
theorem dL_law_697 : decode cL_law 697 = .ok (.iadd, 1) := by decide +kernel
theorem dL_law_698 : decode cL_law 698 = .ok (.iaload, 1) := by decide +kernel
theorem dL_law_699 : decode cL_law 699 = .ok (.invokevirtual 80, 3) := by decide +kernel
theorem dL_law_702 : decode cL_law 702 = .ok (.aload_n 2, 1) := by decide +kernel
theorem dL_law_703 : decode cL_law 703 = .ok (.aload_n 0, 1) := by decide +kernel
theorem dL_law_704 : decode cL_law 704 = .ok (.iload_n 3, 1) := by decide +kernel
theorem dL_law_705 : decode cL_law 705 = .ok (.iconst 1, 1) := by decide +kernel
theorem dL_law_706 : decode cL_law 706 = .ok (.iadd, 1) := by decide +kernel
theorem dL_law_707 : decode cL_law 707 = .ok (.iaload, 1) := by decide +kernel
theorem dL_law_708 : decode cL_law 708 = .ok (.invokevirtual 83, 3) := by decide +kernel
theorem dL_law_711 : decode cL_law 711 = .ok (.if_icmp .eq 452, 3) := by decide +kernel
theorem dL_law_714 : decode cL_law 714 = .ok (.iconst 0, 1) := by decide +kernel
theorem dL_law_715 : decode cL_law 715 = .ok (.ireturn, 1) := by decide +kernel
theorem dL_law_716 : decode cL_law 716 = .ok (.aload_n 1, 1) := by decide +kernel
theorem dL_law_717 : decode cL_law 717 = .ok (.aload_n 0, 1) := by decide +kernel
theorem dL_law_718 : decode cL_law 718 = .ok (.iload_n 3, 1) := by decide +kernel
theorem dL_law_719 : decode cL_law 719 = .ok (.iconst 1, 1) := by decide +kernel
theorem dL_law_720 : decode cL_law 720 = .ok (.iadd, 1) := by decide +kernel
theorem dL_law_721 : decode cL_law 721 = .ok (.iaload, 1) := by decide +kernel
theorem dL_law_722 : decode cL_law 722 = .ok (.invokevirtual 84, 3) := by decide +kernel
theorem dL_law_725 : decode cL_law 725 = .ok (.aload_n 2, 1) := by decide +kernel
theorem dL_law_726 : decode cL_law 726 = .ok (.aload_n 0, 1) := by decide +kernel
theorem dL_law_727 : decode cL_law 727 = .ok (.iload_n 3, 1) := by decide +kernel
theorem dL_law_728 : decode cL_law 728 = .ok (.iconst 1, 1) := by decide +kernel
theorem dL_law_729 : decode cL_law 729 = .ok (.iadd, 1) := by decide +kernel
theorem dL_law_730 : decode cL_law 730 = .ok (.iaload, 1) := by decide +kernel
theorem dL_law_731 : decode cL_law 731 = .ok (.invokevirtual 87, 3) := by decide +kernel
theorem dL_law_734 : decode cL_law 734 = .ok (.if_icmp .eq 429, 3) := by decide +kernel
theorem dL_law_737 : decode cL_law 737 = .ok (.iconst 0, 1) := by decide +kernel
theorem dL_law_738 : decode cL_law 738 = .ok (.ireturn, 1) := by decide +kernel
theorem dL_law_739 : decode cL_law 739 = .ok (.aload_n 1, 1) := by decide +kernel
theorem dL_law_740 : decode cL_law 740 = .ok (.aload_n 0, 1) := by decide +kernel
theorem dL_law_741 : decode cL_law 741 = .ok (.iload_n 3, 1) := by decide +kernel
theorem dL_law_742 : decode cL_law 742 = .ok (.iconst 1, 1) := by decide +kernel
theorem dL_law_743 : decode cL_law 743 = .ok (.iadd, 1) := by decide +kernel
theorem dL_law_744 : decode cL_law 744 = .ok (.iaload, 1) := by decide +kernel
theorem dL_law_745 : decode cL_law 745 = .ok (.invokevirtual 88, 3) := by decide +kernel
theorem dL_law_748 : decode cL_law 748 = .ok (.aload_n 2, 1) := by decide +kernel
theorem dL_law_749 : decode cL_law 749 = .ok (.aload_n 0, 1) := by decide +kernel
theorem dL_law_750 : decode cL_law 750 = .ok (.iload_n 3, 1) := by decide +kernel
theorem dL_law_751 : decode cL_law 751 = .ok (.iconst 1, 1) := by decide +kernel
theorem dL_law_752 : decode cL_law 752 = .ok (.iadd, 1) := by decide +kernel
theorem dL_law_753 : decode cL_law 753 = .ok (.iaload, 1) := by decide +kernel
theorem dL_law_754 : decode cL_law 754 = .ok (.invokevirtual 91, 3) := by decide +kernel
theorem dL_law_757 : decode cL_law 757 = .ok (.if_icmp .eq 406, 3) := by decide +kernel
theorem dL_law_760 : decode cL_law 760 = .ok (.iconst 0, 1) := by decide +kernel
theorem dL_law_761 : decode cL_law 761 = .ok (.ireturn, 1) := by decide +kernel
theorem dL_law_762 : decode cL_law 762 = .ok (.aload_n 1, 1) := by decide +kernel
theorem dL_law_763 : decode cL_law 763 = .ok (.aload_n 0, 1) := by decide +kernel
theorem dL_law_764 : decode cL_law 764 = .ok (.iload_n 3, 1) := by decide +kernel
theorem dL_law_765 : decode cL_law 765 = .ok (.iconst 1, 1) := by decide +kernel
theorem dL_law_766 : decode cL_law 766 = .ok (.iadd, 1) := by decide +kernel
theorem dL_law_767 : decode cL_law 767 = .ok (.iaload, 1) := by decide +kernel
theorem dL_law_768 : decode cL_law 768 = .ok (.invokevirtual 92, 3) := by decide +kernel
theorem dL_law_771 : decode cL_law 771 = .ok (.aload_n 2, 1) := by decide +kernel
theorem dL_law_772 : decode cL_law 772 = .ok (.aload_n 0, 1) := by decide +kernel
theorem dL_law_773 : decode cL_law 773 = .ok (.iload_n 3, 1) := by decide +kernel
theorem dL_law_774 : decode cL_law 774 = .ok (.iconst 1, 1) := by decide +kernel
theorem dL_law_775 : decode cL_law 775 = .ok (.iadd, 1) := by decide +kernel
theorem dL_law_776 : decode cL_law 776 = .ok (.iaload, 1) := by decide +kernel
theorem dL_law_777 : decode cL_law 777 = .ok (.invokevirtual 95, 3) := by decide +kernel
theorem dL_law_780 : decode cL_law 780 = .ok (.if_icmp .eq 383, 3) := by decide +kernel
theorem dL_law_783 : decode cL_law 783 = .ok (.iconst 0, 1) := by decide +kernel
theorem dL_law_784 : decode cL_law 784 = .ok (.ireturn, 1) := by decide +kernel
theorem dL_law_785 : decode cL_law 785 = .ok (.aload_n 1, 1) := by decide +kernel
theorem dL_law_786 : decode cL_law 786 = .ok (.aload_n 0, 1) := by decide +kernel
theorem dL_law_787 : decode cL_law 787 = .ok (.iload_n 3, 1) := by decide +kernel
theorem dL_law_788 : decode cL_law 788 = .ok (.iconst 1, 1) := by decide +kernel
theorem dL_law_789 : decode cL_law 789 = .ok (.iadd, 1) := by decide +kernel
theorem dL_law_790 : decode cL_law 790 = .ok (.iaload, 1) := by decide +kernel
theorem dL_law_791 : decode cL_law 791 = .ok (.aload_n 0, 1) := by decide +kernel
theorem dL_law_792 : decode cL_law 792 = .ok (.iload_n 3, 1) := by decide +kernel
theorem dL_law_793 : decode cL_law 793 = .ok (.iconst 2, 1) := by decide +kernel
theorem dL_law_794 : decode cL_law 794 = .ok (.iadd, 1) := by decide +kernel
theorem dL_law_795 : decode cL_law 795 = .ok (.iaload, 1) := by decide +kernel
theorem dL_law_796 : decode cL_law 796 = .ok (.invokevirtual 96, 3) := by decide +kernel
theorem dL_law_799 : decode cL_law 799 = .ok (.aload_n 2, 1) := by decide +kernel
theorem dL_law_800 : decode cL_law 800 = .ok (.aload_n 0, 1) := by decide +kernel
theorem dL_law_801 : decode cL_law 801 = .ok (.iload_n 3, 1) := by decide +kernel
theorem dL_law_802 : decode cL_law 802 = .ok (.iconst 1, 1) := by decide +kernel
theorem dL_law_803 : decode cL_law 803 = .ok (.iadd, 1) := by decide +kernel
theorem dL_law_804 : decode cL_law 804 = .ok (.iaload, 1) := by decide +kernel
theorem dL_law_805 : decode cL_law 805 = .ok (.aload_n 0, 1) := by decide +kernel
theorem dL_law_806 : decode cL_law 806 = .ok (.iload_n 3, 1) := by decide +kernel
theorem dL_law_807 : decode cL_law 807 = .ok (.iconst 2, 1) := by decide +kernel
theorem dL_law_808 : decode cL_law 808 = .ok (.iadd, 1) := by decide +kernel
theorem dL_law_809 : decode cL_law 809 = .ok (.iaload, 1) := by decide +kernel
theorem dL_law_810 : decode cL_law 810 = .ok (.invokevirtual 100, 3) := by decide +kernel
theorem dL_law_813 : decode cL_law 813 = .ok (.lcmp, 1) := by decide +kernel
theorem dL_law_814 : decode cL_law 814 = .ok (.ifCond .eq 349, 3) := by decide +kernel
theorem dL_law_817 : decode cL_law 817 = .ok (.iconst 0, 1) := by decide +kernel
theorem dL_law_818 : decode cL_law 818 = .ok (.ireturn, 1) := by decide +kernel
theorem dL_law_819 : decode cL_law 819 = .ok (.aload_n 1, 1) := by decide +kernel
theorem dL_law_820 : decode cL_law 820 = .ok (.aload_n 0, 1) := by decide +kernel
theorem dL_law_821 : decode cL_law 821 = .ok (.iload_n 3, 1) := by decide +kernel
theorem dL_law_822 : decode cL_law 822 = .ok (.iconst 1, 1) := by decide +kernel
theorem dL_law_823 : decode cL_law 823 = .ok (.iadd, 1) := by decide +kernel
theorem dL_law_824 : decode cL_law 824 = .ok (.iaload, 1) := by decide +kernel
theorem dL_law_825 : decode cL_law 825 = .ok (.aload_n 0, 1) := by decide +kernel
theorem dL_law_826 : decode cL_law 826 = .ok (.iload_n 3, 1) := by decide +kernel
theorem dL_law_827 : decode cL_law 827 = .ok (.iconst 2, 1) := by decide +kernel
theorem dL_law_828 : decode cL_law 828 = .ok (.iadd, 1) := by decide +kernel
theorem dL_law_829 : decode cL_law 829 = .ok (.iaload, 1) := by decide +kernel
theorem dL_law_830 : decode cL_law 830 = .ok (.aload_n 0, 1) := by decide +kernel
theorem dL_law_831 : decode cL_law 831 = .ok (.iload_n 3, 1) := by decide +kernel
theorem dL_law_832 : decode cL_law 832 = .ok (.iconst 3, 1) := by decide +kernel
theorem dL_law_833 : decode cL_law 833 = .ok (.iadd, 1) := by decide +kernel
theorem dL_law_834 : decode cL_law 834 = .ok (.iaload, 1) := by decide +kernel
theorem dL_law_835 : decode cL_law 835 = .ok (.invokevirtual 101, 3) := by decide +kernel
theorem dL_law_838 : decode cL_law 838 = .ok (.aload_n 2, 1) := by decide +kernel
theorem dL_law_839 : decode cL_law 839 = .ok (.aload_n 0, 1) := by decide +kernel
theorem dL_law_840 : decode cL_law 840 = .ok (.iload_n 3, 1) := by decide +kernel
theorem dL_law_841 : decode cL_law 841 = .ok (.iconst 1, 1) := by decide +kernel
theorem dL_law_842 : decode cL_law 842 = .ok (.iadd, 1) := by decide +kernel
theorem dL_law_843 : decode cL_law 843 = .ok (.iaload, 1) := by decide +kernel
theorem dL_law_844 : decode cL_law 844 = .ok (.aload_n 0, 1) := by decide +kernel
theorem dL_law_845 : decode cL_law 845 = .ok (.iload_n 3, 1) := by decide +kernel
theorem dL_law_846 : decode cL_law 846 = .ok (.iconst 2, 1) := by decide +kernel
theorem dL_law_847 : decode cL_law 847 = .ok (.iadd, 1) := by decide +kernel
theorem dL_law_848 : decode cL_law 848 = .ok (.iaload, 1) := by decide +kernel
theorem dL_law_849 : decode cL_law 849 = .ok (.aload_n 0, 1) := by decide +kernel
theorem dL_law_850 : decode cL_law 850 = .ok (.iload_n 3, 1) := by decide +kernel
theorem dL_law_851 : decode cL_law 851 = .ok (.iconst 3, 1) := by decide +kernel
theorem dL_law_852 : decode cL_law 852 = .ok (.iadd, 1) := by decide +kernel
theorem dL_law_853 : decode cL_law 853 = .ok (.iaload, 1) := by decide +kernel
theorem dL_law_854 : decode cL_law 854 = .ok (.invokevirtual 104, 3) := by decide +kernel
theorem dL_law_857 : decode cL_law 857 = .ok (.if_icmp .eq 306, 3) := by decide +kernel
theorem dL_law_860 : decode cL_law 860 = .ok (.iconst 0, 1) := by decide +kernel
theorem dL_law_861 : decode cL_law 861 = .ok (.ireturn, 1) := by decide +kernel
theorem dL_law_862 : decode cL_law 862 = .ok (.aload_n 1, 1) := by decide +kernel
theorem dL_law_863 : decode cL_law 863 = .ok (.aload_n 0, 1) := by decide +kernel
theorem dL_law_864 : decode cL_law 864 = .ok (.iload_n 3, 1) := by decide +kernel
theorem dL_law_865 : decode cL_law 865 = .ok (.iconst 1, 1) := by decide +kernel
theorem dL_law_866 : decode cL_law 866 = .ok (.iadd, 1) := by decide +kernel
theorem dL_law_867 : decode cL_law 867 = .ok (.iaload, 1) := by decide +kernel
theorem dL_law_868 : decode cL_law 868 = .ok (.invokevirtual 105, 3) := by decide +kernel
theorem dL_law_871 : decode cL_law 871 = .ok (.aload_n 2, 1) := by decide +kernel
theorem dL_law_872 : decode cL_law 872 = .ok (.aload_n 0, 1) := by decide +kernel
theorem dL_law_873 : decode cL_law 873 = .ok (.iload_n 3, 1) := by decide +kernel
theorem dL_law_874 : decode cL_law 874 = .ok (.iconst 1, 1) := by decide +kernel
theorem dL_law_875 : decode cL_law 875 = .ok (.iadd, 1) := by decide +kernel
theorem dL_law_876 : decode cL_law 876 = .ok (.iaload, 1) := by decide +kernel
theorem dL_law_877 : decode cL_law 877 = .ok (.invokevirtual 108, 3) := by decide +kernel
theorem dL_law_880 : decode cL_law 880 = .ok (.if_icmp .eq 283, 3) := by decide +kernel
theorem dL_law_883 : decode cL_law 883 = .ok (.iconst 0, 1) := by decide +kernel
theorem dL_law_884 : decode cL_law 884 = .ok (.ireturn, 1) := by decide +kernel
theorem dL_law_885 : decode cL_law 885 = .ok (.aload_n 1, 1) := by decide +kernel
theorem dL_law_886 : decode cL_law 886 = .ok (.aload_n 0, 1) := by decide +kernel
theorem dL_law_887 : decode cL_law 887 = .ok (.iload_n 3, 1) := by decide +kernel
theorem dL_law_888 : decode cL_law 888 = .ok (.iconst 1, 1) := by decide +kernel
theorem dL_law_889 : decode cL_law 889 = .ok (.iadd, 1) := by decide +kernel
theorem dL_law_890 : decode cL_law 890 = .ok (.iaload, 1) := by decide +kernel
theorem dL_law_891 : decode cL_law 891 = .ok (.aload_n 0, 1) := by decide +kernel
theorem dL_law_892 : decode cL_law 892 = .ok (.iload_n 3, 1) := by decide +kernel
theorem dL_law_893 : decode cL_law 893 = .ok (.iconst 2, 1) := by decide +kernel
theorem dL_law_894 : decode cL_law 894 = .ok (.iadd, 1) := by decide +kernel
theorem dL_law_895 : decode cL_law 895 = .ok (.iaload, 1) := by decide +kernel
theorem dL_law_896 : decode cL_law 896 = .ok (.aload_n 0, 1) := by decide +kernel
theorem dL_law_897 : decode cL_law 897 = .ok (.iload_n 3, 1) := by decide +kernel
theorem dL_law_898 : decode cL_law 898 = .ok (.iconst 3, 1) := by decide +kernel
theorem dL_law_899 : decode cL_law 899 = .ok (.iadd, 1) := by decide +kernel
theorem dL_law_900 : decode cL_law 900 = .ok (.iaload, 1) := by decide +kernel
theorem dL_law_901 : decode cL_law 901 = .ok (.invokevirtual 109, 3) := by decide +kernel
theorem dL_law_904 : decode cL_law 904 = .ok (.aload_n 2, 1) := by decide +kernel
theorem dL_law_905 : decode cL_law 905 = .ok (.aload_n 0, 1) := by decide +kernel
theorem dL_law_906 : decode cL_law 906 = .ok (.iload_n 3, 1) := by decide +kernel
theorem dL_law_907 : decode cL_law 907 = .ok (.iconst 1, 1) := by decide +kernel
theorem dL_law_908 : decode cL_law 908 = .ok (.iadd, 1) := by decide +kernel
theorem dL_law_909 : decode cL_law 909 = .ok (.iaload, 1) := by decide +kernel
theorem dL_law_910 : decode cL_law 910 = .ok (.aload_n 0, 1) := by decide +kernel
theorem dL_law_911 : decode cL_law 911 = .ok (.iload_n 3, 1) := by decide +kernel
theorem dL_law_912 : decode cL_law 912 = .ok (.iconst 2, 1) := by decide +kernel
theorem dL_law_913 : decode cL_law 913 = .ok (.iadd, 1) := by decide +kernel
theorem dL_law_914 : decode cL_law 914 = .ok (.iaload, 1) := by decide +kernel
theorem dL_law_915 : decode cL_law 915 = .ok (.aload_n 0, 1) := by decide +kernel
theorem dL_law_916 : decode cL_law 916 = .ok (.iload_n 3, 1) := by decide +kernel
theorem dL_law_917 : decode cL_law 917 = .ok (.iconst 3, 1) := by decide +kernel
theorem dL_law_918 : decode cL_law 918 = .ok (.iadd, 1) := by decide +kernel
theorem dL_law_919 : decode cL_law 919 = .ok (.iaload, 1) := by decide +kernel
theorem dL_law_920 : decode cL_law 920 = .ok (.invokevirtual 112, 3) := by decide +kernel
theorem dL_law_923 : decode cL_law 923 = .ok (.if_icmp .eq 240, 3) := by decide +kernel
theorem dL_law_926 : decode cL_law 926 = .ok (.iconst 0, 1) := by decide +kernel
theorem dL_law_927 : decode cL_law 927 = .ok (.ireturn, 1) := by decide +kernel
theorem dL_law_928 : decode cL_law 928 = .ok (.aload_n 1, 1) := by decide +kernel
theorem dL_law_929 : decode cL_law 929 = .ok (.aload_n 0, 1) := by decide +kernel
theorem dL_law_930 : decode cL_law 930 = .ok (.iload_n 3, 1) := by decide +kernel
theorem dL_law_931 : decode cL_law 931 = .ok (.iconst 1, 1) := by decide +kernel
theorem dL_law_932 : decode cL_law 932 = .ok (.iadd, 1) := by decide +kernel
theorem dL_law_933 : decode cL_law 933 = .ok (.iaload, 1) := by decide +kernel
theorem dL_law_934 : decode cL_law 934 = .ok (.aload_n 0, 1) := by decide +kernel
theorem dL_law_935 : decode cL_law 935 = .ok (.iload_n 3, 1) := by decide +kernel
theorem dL_law_936 : decode cL_law 936 = .ok (.iconst 2, 1) := by decide +kernel
theorem dL_law_937 : decode cL_law 937 = .ok (.iadd, 1) := by decide +kernel
theorem dL_law_938 : decode cL_law 938 = .ok (.iaload, 1) := by decide +kernel
theorem dL_law_939 : decode cL_law 939 = .ok (.aload_n 0, 1) := by decide +kernel
theorem dL_law_940 : decode cL_law 940 = .ok (.iload_n 3, 1) := by decide +kernel
theorem dL_law_941 : decode cL_law 941 = .ok (.iconst 3, 1) := by decide +kernel
theorem dL_law_942 : decode cL_law 942 = .ok (.iadd, 1) := by decide +kernel
theorem dL_law_943 : decode cL_law 943 = .ok (.iaload, 1) := by decide +kernel
theorem dL_law_944 : decode cL_law 944 = .ok (.invokevirtual 113, 3) := by decide +kernel
theorem dL_law_947 : decode cL_law 947 = .ok (.aload_n 2, 1) := by decide +kernel
theorem dL_law_948 : decode cL_law 948 = .ok (.aload_n 0, 1) := by decide +kernel
theorem dL_law_949 : decode cL_law 949 = .ok (.iload_n 3, 1) := by decide +kernel
theorem dL_law_950 : decode cL_law 950 = .ok (.iconst 1, 1) := by decide +kernel
theorem dL_law_951 : decode cL_law 951 = .ok (.iadd, 1) := by decide +kernel
theorem dL_law_952 : decode cL_law 952 = .ok (.iaload, 1) := by decide +kernel
theorem dL_law_953 : decode cL_law 953 = .ok (.aload_n 0, 1) := by decide +kernel
theorem dL_law_954 : decode cL_law 954 = .ok (.iload_n 3, 1) := by decide +kernel
theorem dL_law_955 : decode cL_law 955 = .ok (.iconst 2, 1) := by decide +kernel
theorem dL_law_956 : decode cL_law 956 = .ok (.iadd, 1) := by decide +kernel
theorem dL_law_957 : decode cL_law 957 = .ok (.iaload, 1) := by decide +kernel
theorem dL_law_958 : decode cL_law 958 = .ok (.aload_n 0, 1) := by decide +kernel
theorem dL_law_959 : decode cL_law 959 = .ok (.iload_n 3, 1) := by decide +kernel
theorem dL_law_960 : decode cL_law 960 = .ok (.iconst 3, 1) := by decide +kernel
theorem dL_law_961 : decode cL_law 961 = .ok (.iadd, 1) := by decide +kernel
theorem dL_law_962 : decode cL_law 962 = .ok (.iaload, 1) := by decide +kernel
theorem dL_law_963 : decode cL_law 963 = .ok (.invokevirtual 117, 3) := by decide +kernel
theorem dL_law_966 : decode cL_law 966 = .ok (.lcmp, 1) := by decide +kernel
theorem dL_law_967 : decode cL_law 967 = .ok (.ifCond .eq 196, 3) := by decide +kernel
theorem dL_law_970 : decode cL_law 970 = .ok (.iconst 0, 1) := by decide +kernel
theorem dL_law_971 : decode cL_law 971 = .ok (.ireturn, 1) := by decide +kernel
theorem dL_law_972 : decode cL_law 972 = .ok (.aload_n 1, 1) := by decide +kernel
theorem dL_law_973 : decode cL_law 973 = .ok (.aload_n 0, 1) := by decide +kernel
theorem dL_law_974 : decode cL_law 974 = .ok (.iload_n 3, 1) := by decide +kernel
theorem dL_law_975 : decode cL_law 975 = .ok (.iconst 1, 1) := by decide +kernel
theorem dL_law_976 : decode cL_law 976 = .ok (.iadd, 1) := by decide +kernel
theorem dL_law_977 : decode cL_law 977 = .ok (.iaload, 1) := by decide +kernel
theorem dL_law_978 : decode cL_law 978 = .ok (.aload_n 0, 1) := by decide +kernel
theorem dL_law_979 : decode cL_law 979 = .ok (.iload_n 3, 1) := by decide +kernel
theorem dL_law_980 : decode cL_law 980 = .ok (.iconst 2, 1) := by decide +kernel
theorem dL_law_981 : decode cL_law 981 = .ok (.iadd, 1) := by decide +kernel
theorem dL_law_982 : decode cL_law 982 = .ok (.iaload, 1) := by decide +kernel
theorem dL_law_983 : decode cL_law 983 = .ok (.aload_n 0, 1) := by decide +kernel
theorem dL_law_984 : decode cL_law 984 = .ok (.iload_n 3, 1) := by decide +kernel
theorem dL_law_985 : decode cL_law 985 = .ok (.iconst 3, 1) := by decide +kernel
theorem dL_law_986 : decode cL_law 986 = .ok (.iadd, 1) := by decide +kernel
theorem dL_law_987 : decode cL_law 987 = .ok (.iaload, 1) := by decide +kernel
theorem dL_law_988 : decode cL_law 988 = .ok (.aload_n 0, 1) := by decide +kernel
theorem dL_law_989 : decode cL_law 989 = .ok (.iload_n 3, 1) := by decide +kernel
theorem dL_law_990 : decode cL_law 990 = .ok (.iconst 4, 1) := by decide +kernel
theorem dL_law_991 : decode cL_law 991 = .ok (.iadd, 1) := by decide +kernel
theorem dL_law_992 : decode cL_law 992 = .ok (.iaload, 1) := by decide +kernel
theorem dL_law_993 : decode cL_law 993 = .ok (.aload_n 0, 1) := by decide +kernel
theorem dL_law_994 : decode cL_law 994 = .ok (.iload_n 3, 1) := by decide +kernel
theorem dL_law_995 : decode cL_law 995 = .ok (.iconst 5, 1) := by decide +kernel
theorem dL_law_996 : decode cL_law 996 = .ok (.iadd, 1) := by decide +kernel
theorem dL_law_997 : decode cL_law 997 = .ok (.iaload, 1) := by decide +kernel
theorem dL_law_998 : decode cL_law 998 = .ok (.invokevirtual 118, 3) := by decide +kernel
theorem dL_law_1001 : decode cL_law 1001 = .ok (.aload_n 2, 1) := by decide +kernel
theorem dL_law_1002 : decode cL_law 1002 = .ok (.aload_n 0, 1) := by decide +kernel
theorem dL_law_1003 : decode cL_law 1003 = .ok (.iload_n 3, 1) := by decide +kernel
theorem dL_law_1004 : decode cL_law 1004 = .ok (.iconst 1, 1) := by decide +kernel
theorem dL_law_1005 : decode cL_law 1005 = .ok (.iadd, 1) := by decide +kernel
theorem dL_law_1006 : decode cL_law 1006 = .ok (.iaload, 1) := by decide +kernel
theorem dL_law_1007 : decode cL_law 1007 = .ok (.aload_n 0, 1) := by decide +kernel
theorem dL_law_1008 : decode cL_law 1008 = .ok (.iload_n 3, 1) := by decide +kernel
theorem dL_law_1009 : decode cL_law 1009 = .ok (.iconst 2, 1) := by decide +kernel
theorem dL_law_1010 : decode cL_law 1010 = .ok (.iadd, 1) := by decide +kernel
theorem dL_law_1011 : decode cL_law 1011 = .ok (.iaload, 1) := by decide +kernel
theorem dL_law_1012 : decode cL_law 1012 = .ok (.aload_n 0, 1) := by decide +kernel
theorem dL_law_1013 : decode cL_law 1013 = .ok (.iload_n 3, 1) := by decide +kernel
theorem dL_law_1014 : decode cL_law 1014 = .ok (.iconst 3, 1) := by decide +kernel
theorem dL_law_1015 : decode cL_law 1015 = .ok (.iadd, 1) := by decide +kernel
theorem dL_law_1016 : decode cL_law 1016 = .ok (.iaload, 1) := by decide +kernel
theorem dL_law_1017 : decode cL_law 1017 = .ok (.aload_n 0, 1) := by decide +kernel
theorem dL_law_1018 : decode cL_law 1018 = .ok (.iload_n 3, 1) := by decide +kernel
theorem dL_law_1019 : decode cL_law 1019 = .ok (.iconst 4, 1) := by decide +kernel
theorem dL_law_1020 : decode cL_law 1020 = .ok (.iadd, 1) := by decide +kernel
theorem dL_law_1021 : decode cL_law 1021 = .ok (.iaload, 1) := by decide +kernel
theorem dL_law_1022 : decode cL_law 1022 = .ok (.aload_n 0, 1) := by decide +kernel
theorem dL_law_1023 : decode cL_law 1023 = .ok (.iload_n 3, 1) := by decide +kernel
theorem dL_law_1024 : decode cL_law 1024 = .ok (.iconst 5, 1) := by decide +kernel
theorem dL_law_1025 : decode cL_law 1025 = .ok (.iadd, 1) := by decide +kernel
theorem dL_law_1026 : decode cL_law 1026 = .ok (.iaload, 1) := by decide +kernel
theorem dL_law_1027 : decode cL_law 1027 = .ok (.invokevirtual 121, 3) := by decide +kernel
theorem dL_law_1030 : decode cL_law 1030 = .ok (.if_icmp .eq 133, 3) := by decide +kernel
theorem dL_law_1033 : decode cL_law 1033 = .ok (.iconst 0, 1) := by decide +kernel
theorem dL_law_1034 : decode cL_law 1034 = .ok (.ireturn, 1) := by decide +kernel
theorem dL_law_1035 : decode cL_law 1035 = .ok (.aload_n 1, 1) := by decide +kernel
theorem dL_law_1036 : decode cL_law 1036 = .ok (.aload_n 0, 1) := by decide +kernel
theorem dL_law_1037 : decode cL_law 1037 = .ok (.iload_n 3, 1) := by decide +kernel
theorem dL_law_1038 : decode cL_law 1038 = .ok (.iconst 1, 1) := by decide +kernel
theorem dL_law_1039 : decode cL_law 1039 = .ok (.iadd, 1) := by decide +kernel
theorem dL_law_1040 : decode cL_law 1040 = .ok (.iaload, 1) := by decide +kernel
theorem dL_law_1041 : decode cL_law 1041 = .ok (.invokevirtual 122, 3) := by decide +kernel
theorem dL_law_1044 : decode cL_law 1044 = .ok (.aload_n 2, 1) := by decide +kernel
theorem dL_law_1045 : decode cL_law 1045 = .ok (.aload_n 0, 1) := by decide +kernel
theorem dL_law_1046 : decode cL_law 1046 = .ok (.iload_n 3, 1) := by decide +kernel
theorem dL_law_1047 : decode cL_law 1047 = .ok (.iconst 1, 1) := by decide +kernel
theorem dL_law_1048 : decode cL_law 1048 = .ok (.iadd, 1) := by decide +kernel
theorem dL_law_1049 : decode cL_law 1049 = .ok (.iaload, 1) := by decide +kernel
theorem dL_law_1050 : decode cL_law 1050 = .ok (.invokevirtual 125, 3) := by decide +kernel
theorem dL_law_1053 : decode cL_law 1053 = .ok (.if_icmp .eq 110, 3) := by decide +kernel
theorem dL_law_1056 : decode cL_law 1056 = .ok (.iconst 0, 1) := by decide +kernel
theorem dL_law_1057 : decode cL_law 1057 = .ok (.ireturn, 1) := by decide +kernel
theorem dL_law_1058 : decode cL_law 1058 = .ok (.aload_n 1, 1) := by decide +kernel
theorem dL_law_1059 : decode cL_law 1059 = .ok (.aload_n 0, 1) := by decide +kernel
theorem dL_law_1060 : decode cL_law 1060 = .ok (.iload_n 3, 1) := by decide +kernel
theorem dL_law_1061 : decode cL_law 1061 = .ok (.iconst 1, 1) := by decide +kernel
theorem dL_law_1062 : decode cL_law 1062 = .ok (.iadd, 1) := by decide +kernel
theorem dL_law_1063 : decode cL_law 1063 = .ok (.iaload, 1) := by decide +kernel
theorem dL_law_1064 : decode cL_law 1064 = .ok (.invokevirtual 126, 3) := by decide +kernel
theorem dL_law_1067 : decode cL_law 1067 = .ok (.aload_n 2, 1) := by decide +kernel
theorem dL_law_1068 : decode cL_law 1068 = .ok (.aload_n 0, 1) := by decide +kernel
theorem dL_law_1069 : decode cL_law 1069 = .ok (.iload_n 3, 1) := by decide +kernel
theorem dL_law_1070 : decode cL_law 1070 = .ok (.iconst 1, 1) := by decide +kernel
theorem dL_law_1071 : decode cL_law 1071 = .ok (.iadd, 1) := by decide +kernel
theorem dL_law_1072 : decode cL_law 1072 = .ok (.iaload, 1) := by decide +kernel
theorem dL_law_1073 : decode cL_law 1073 = .ok (.invokevirtual 129, 3) := by decide +kernel
theorem dL_law_1076 : decode cL_law 1076 = .ok (.if_icmp .eq 87, 3) := by decide +kernel
theorem dL_law_1079 : decode cL_law 1079 = .ok (.iconst 0, 1) := by decide +kernel
theorem dL_law_1080 : decode cL_law 1080 = .ok (.ireturn, 1) := by decide +kernel
theorem dL_law_1081 : decode cL_law 1081 = .ok (.aload_n 1, 1) := by decide +kernel
theorem dL_law_1082 : decode cL_law 1082 = .ok (.aload_n 0, 1) := by decide +kernel
theorem dL_law_1083 : decode cL_law 1083 = .ok (.iload_n 3, 1) := by decide +kernel
theorem dL_law_1084 : decode cL_law 1084 = .ok (.iconst 1, 1) := by decide +kernel
theorem dL_law_1085 : decode cL_law 1085 = .ok (.iadd, 1) := by decide +kernel
theorem dL_law_1086 : decode cL_law 1086 = .ok (.iaload, 1) := by decide +kernel
theorem dL_law_1087 : decode cL_law 1087 = .ok (.aload_n 0, 1) := by decide +kernel
theorem dL_law_1088 : decode cL_law 1088 = .ok (.iload_n 3, 1) := by decide +kernel
theorem dL_law_1089 : decode cL_law 1089 = .ok (.iconst 2, 1) := by decide +kernel
theorem dL_law_1090 : decode cL_law 1090 = .ok (.iadd, 1) := by decide +kernel
theorem dL_law_1091 : decode cL_law 1091 = .ok (.iaload, 1) := by decide +kernel
theorem dL_law_1092 : decode cL_law 1092 = .ok (.invokevirtual 130, 3) := by decide +kernel
theorem dL_law_1095 : decode cL_law 1095 = .ok (.aload_n 2, 1) := by decide +kernel
theorem dL_law_1096 : decode cL_law 1096 = .ok (.aload_n 0, 1) := by decide +kernel
theorem dL_law_1097 : decode cL_law 1097 = .ok (.iload_n 3, 1) := by decide +kernel
theorem dL_law_1098 : decode cL_law 1098 = .ok (.iconst 1, 1) := by decide +kernel
theorem dL_law_1099 : decode cL_law 1099 = .ok (.iadd, 1) := by decide +kernel
theorem dL_law_1100 : decode cL_law 1100 = .ok (.iaload, 1) := by decide +kernel
theorem dL_law_1101 : decode cL_law 1101 = .ok (.aload_n 0, 1) := by decide +kernel
theorem dL_law_1102 : decode cL_law 1102 = .ok (.iload_n 3, 1) := by decide +kernel
theorem dL_law_1103 : decode cL_law 1103 = .ok (.iconst 2, 1) := by decide +kernel
theorem dL_law_1104 : decode cL_law 1104 = .ok (.iadd, 1) := by decide +kernel
theorem dL_law_1105 : decode cL_law 1105 = .ok (.iaload, 1) := by decide +kernel
theorem dL_law_1106 : decode cL_law 1106 = .ok (.invokevirtual 133, 3) := by decide +kernel
theorem dL_law_1109 : decode cL_law 1109 = .ok (.if_icmp .eq 54, 3) := by decide +kernel
theorem dL_law_1112 : decode cL_law 1112 = .ok (.iconst 0, 1) := by decide +kernel
theorem dL_law_1113 : decode cL_law 1113 = .ok (.ireturn, 1) := by decide +kernel
theorem dL_law_1114 : decode cL_law 1114 = .ok (.aload_n 1, 1) := by decide +kernel
theorem dL_law_1115 : decode cL_law 1115 = .ok (.invokevirtual 134, 3) := by decide +kernel
theorem dL_law_1118 : decode cL_law 1118 = .ok (.aload_n 2, 1) := by decide +kernel
theorem dL_law_1119 : decode cL_law 1119 = .ok (.invokevirtual 137, 3) := by decide +kernel
theorem dL_law_1122 : decode cL_law 1122 = .ok (.if_icmp .eq 41, 3) := by decide +kernel
theorem dL_law_1125 : decode cL_law 1125 = .ok (.iconst 0, 1) := by decide +kernel
theorem dL_law_1126 : decode cL_law 1126 = .ok (.ireturn, 1) := by decide +kernel
theorem dL_law_1127 : decode cL_law 1127 = .ok (.aload_n 1, 1) := by decide +kernel
theorem dL_law_1128 : decode cL_law 1128 = .ok (.invokevirtual 138, 3) := by decide +kernel
theorem dL_law_1131 : decode cL_law 1131 = .ok (.aload_n 2, 1) := by decide +kernel
theorem dL_law_1132 : decode cL_law 1132 = .ok (.invokevirtual 141, 3) := by decide +kernel
theorem dL_law_1135 : decode cL_law 1135 = .ok (.if_icmp .eq 28, 3) := by decide +kernel
theorem dL_law_1138 : decode cL_law 1138 = .ok (.iconst 0, 1) := by decide +kernel
theorem dL_law_1139 : decode cL_law 1139 = .ok (.ireturn, 1) := by decide +kernel
theorem dL_law_1140 : decode cL_law 1140 = .ok (.aload_n 1, 1) := by decide +kernel
theorem dL_law_1141 : decode cL_law 1141 = .ok (.aload_n 0, 1) := by decide +kernel
theorem dL_law_1142 : decode cL_law 1142 = .ok (.iload_n 3, 1) := by decide +kernel
theorem dL_law_1143 : decode cL_law 1143 = .ok (.iconst 1, 1) := by decide +kernel
theorem dL_law_1144 : decode cL_law 1144 = .ok (.iadd, 1) := by decide +kernel
theorem dL_law_1145 : decode cL_law 1145 = .ok (.iaload, 1) := by decide +kernel
theorem dL_law_1146 : decode cL_law 1146 = .ok (.invokevirtual 142, 3) := by decide +kernel
theorem dL_law_1149 : decode cL_law 1149 = .ok (.aload_n 2, 1) := by decide +kernel
theorem dL_law_1150 : decode cL_law 1150 = .ok (.aload_n 0, 1) := by decide +kernel
theorem dL_law_1151 : decode cL_law 1151 = .ok (.iload_n 3, 1) := by decide +kernel
theorem dL_law_1152 : decode cL_law 1152 = .ok (.iconst 1, 1) := by decide +kernel
theorem dL_law_1153 : decode cL_law 1153 = .ok (.iadd, 1) := by decide +kernel
theorem dL_law_1154 : decode cL_law 1154 = .ok (.iaload, 1) := by decide +kernel
theorem dL_law_1155 : decode cL_law 1155 = .ok (.invokevirtual 145, 3) := by decide +kernel
theorem dL_law_1158 : decode cL_law 1158 = .ok (.if_icmp .eq 5, 3) := by decide +kernel
theorem dL_law_1161 : decode cL_law 1161 = .ok (.iconst 0, 1) := by decide +kernel
theorem dL_law_1162 : decode cL_law 1162 = .ok (.ireturn, 1) := by decide +kernel
theorem dL_law_1163 : decode cL_law 1163 = .ok (.iinc 3 6, 3) := by decide +kernel
theorem dL_law_1166 : decode cL_law 1166 = .ok (.goto (-1148), 3) := by decide +kernel
theorem dL_law_1169 : decode cL_law 1169 = .ok (.iconst 1, 1) := by decide +kernel
theorem dL_law_1170 : decode cL_law 1170 = .ok (.ireturn, 1) := by decide +kernel
abbrev vwCl : List vw_C := [(RX0, TX0, 4), (RX1, TX1, 2), (RX2, TX2, 4), (RX3, TX3, 3), (RX4, TX4, 8), (RX5, TX5, 9), (RX6, TX6, 27)]
end
section
/-! ===== a world of fixed cells: cell k lies at ad k, its contents are read off the row S k ===== -/
abbrev xSt : Type := Nat → Nat → Int32
/-- the row k is f -/
def sr (S : xSt) (k : Nat) (f : Nat → Int32) : xSt := fun j => if j = k then f else S j
/-- place j of the row k is v -/
def su (S : xSt) (k j : Nat) (v : Int32) : xSt := sr S k (upd (S k) j v)
theorem sr_self (S : xSt) (k : Nat) (f : Nat → Int32) : sr S k f k = f := if_pos rfl
theorem sr_ne {S : xSt} {k : Nat} {f : Nat → Int32} {j : Nat} (h : j ≠ k) : sr S k f j = S j := if_neg h
theorem su_self (S : xSt) (k j : Nat) (v : Int32) : su S k j v k = upd (S k) j v := if_pos rfl
theorem su_ne {S : xSt} {k j : Nat} {v : Int32} {i : Nat} (h : i ≠ k) : su S k j v i = S i := if_neg h
theorem sr_same (S : xSt) (k : Nat) : sr S k (S k) = S := by
  funext i
  by_cases h : i = k
  · rw [h, sr_self]
  · rw [sr_ne h]
theorem sr_sr (S : xSt) (k : Nat) (f g : Nat → Int32) : sr (sr S k f) k g = sr S k g := by
  funext i
  by_cases h : i = k
  · rw [h, sr_self, sr_self]
  · rw [sr_ne h, sr_ne h, sr_ne h]
abbrev xLy : Type := Nat → (Nat → Int32) → va_E
def xW (ly : xLy) (N : Nat) (ad : Nat → Nat) (S : xSt) : va_W := (List.range N).map (fun k => (ad k, ly k (S k)))
theorem xW_at {ly : xLy} {N : Nat} {ad : Nat → Nat} {S : xSt} {k : Nat} (h : k < N) : (xW ly N ad S)[k]? = some (ad k, ly k (S k)) := by
  simp [xW, h]
theorem xW_len {ly : xLy} {N : Nat} {ad : Nat → Nat} {S : xSt} : (xW ly N ad S).length = N := by simp [xW]
theorem xW_out {ly : xLy} {N : Nat} {ad : Nat → Nat} {S : xSt} {k : Nat} (h : ¬ k < N) : (xW ly N ad S)[k]? = none := by
  simp [xW]; omega
theorem xW_some {ly : xLy} {N : Nat} {ad : Nat → Nat} {S : xSt} {k : Nat} {q : Nat × va_E} (h : (xW ly N ad S)[k]? = some q) : k < N ∧ q = (ad k, ly k (S k)) := by
  by_cases hk : k < N
  · rw [xW_at hk] at h
    exact ⟨hk, (Option.some.inj h).symm⟩
  · rw [xW_out hk] at h
    cases h
theorem xW_set {ly : xLy} {N : Nat} {ad : Nat → Nat} {S : xSt} {k : Nat} (h : k < N) (f : Nat → Int32) : (xW ly N ad S).set k (ad k, ly k f) = xW ly N ad (sr S k f) := by
  apply List.ext_getElem?
  intro i
  by_cases hi : i < N
  · rw [xW_at hi]
    by_cases hk : k = i
    · subst hk
      rw [List.getElem?_set_self (by rw [xW_len]; exact hi), sr_self]
    · rw [List.getElem?_set_ne hk, xW_at hi, sr_ne (fun e => hk e.symm)]
  · rw [xW_out hi]
    by_cases hk : k = i
    · omega
    · rw [List.getElem?_set_ne hk, xW_out hi]
/-- the addresses are apart -/
def xI (N : Nat) (ad : Nat → Nat) : Prop := ∀ i j, i < N → j < N → ad i = ad j → i = j
/-- the addresses of the world -/
def xA (N : Nat) (ad : Nat → Nat) : Nat → Prop := fun q => ∃ k, k < N ∧ q = ad k
theorem xD {ly : xLy} {N : Nat} {ad : Nat → Nat} {A : Nat → Prop} (S : xSt) (hI : xI N ad) (hA : ∀ k, k < N → A (ad k)) : va_D A (xW ly N ad S) := by
  refine ⟨fun i j p q hi hj hpq => ?_, fun k q hk => ?_⟩
  · obtain ⟨a, rfl⟩ := xW_some hi
    obtain ⟨b, rfl⟩ := xW_some hj
    exact hI i j a b hpq
  · obtain ⟨a, rfl⟩ := xW_some hk
    exact hA k a
theorem xA_in {N : Nat} {ad : Nat → Nat} : ∀ k, k < N → xA N ad (ad k) := fun k h => ⟨k, h, rfl⟩
/-- contracts over such a world: an int (or a boolean), nothing, a long -/
def xPc (D : va_G) (cl : List vw_C) (tys : List (ClassId × FieldType)) (ly : xLy) (N : Nat) (ad : Nat → Nat) (av : List Value) (S : xSt) : Array Value → State → Prop := va_Pc av (fun U => va_P D cl (xW ly N ad S) U.heap ∧ va_K D cl tys U)
def xQi (D : va_G) (cl : List vw_C) (ly : xLy) (N : Nat) (ad : Nat → Nat) (post : Int32 → xSt → Prop) : Array Value → State → Outcome → State → Prop := va_Qi post (fun S' t => va_P D cl (xW ly N ad S') t.heap) (xA N ad)
def xQl (D : va_G) (cl : List vw_C) (ly : xLy) (N : Nat) (ad : Nat → Nat) (post : Int64 → xSt → Prop) : Array Value → State → Outcome → State → Prop := va_Ql post (fun S' t => va_P D cl (xW ly N ad S') t.heap) (xA N ad)
def xQv (D : va_G) (cl : List vw_C) (ly : xLy) (N : Nat) (ad : Nat → Nat) (post : xSt → Prop) : Array Value → State → Outcome → State → Prop := va_Qv post (fun S' t => va_P D cl (xW ly N ad S') t.heap) (xA N ad)
def xMi (l : Launch) (y : MethodName) (ws : List Cond) (rm : Room) (D : va_G) (cl : List vw_C) (tys : List (ClassId × FieldType)) (ly : xLy) (N : Nat) (ad : Nat → Nat) (av : List Value) (S : xSt) (post : Int32 → xSt → Prop) : Prop := Met l y ws rm (xPc D cl tys ly N ad av S) (xQi D cl ly N ad post) 0 0 (xA N ad)
def xMl (l : Launch) (y : MethodName) (ws : List Cond) (rm : Room) (D : va_G) (cl : List vw_C) (tys : List (ClassId × FieldType)) (ly : xLy) (N : Nat) (ad : Nat → Nat) (av : List Value) (S : xSt) (post : Int64 → xSt → Prop) : Prop := Met l y ws rm (xPc D cl tys ly N ad av S) (xQl D cl ly N ad post) 0 0 (xA N ad)
def xMv (l : Launch) (y : MethodName) (ws : List Cond) (rm : Room) (D : va_G) (cl : List vw_C) (tys : List (ClassId × FieldType)) (ly : xLy) (N : Nat) (ad : Nat → Nat) (av : List Value) (S : xSt) (post : xSt → Prop) : Prop := Met l y ws rm (xPc D cl tys ly N ad av S) (xQv D cl ly N ad post) 0 0 (xA N ad)
/-- what holds in a method's body -/
def xB (p : Program) (s : State) (m : MethodId) (args : Array Value) (meth : Method) (c : Code) (cc : ByteArray) (nL : Nat) (own : String) (Ts : List Cond) (ret : Option FieldType) : Prop := p.tables.exec = Jvm.exec ∧ c.code = cc ∧ c.maxLocals = nL ∧ s.vm.findClass own = some m.cls ∧ (∀ w ∈ Ts, w.before args s = true) ∧ meth.sig.returnType = ret ∧ meth.locks = false
theorem xPc_blind {D : va_G} {cl : List vw_C} {tys : List (ClassId × FieldType)} {ly : xLy} {N : Nat} {ad : Nat → Nat} {av : List Value} {S : xSt} : FrameBlind (xPc D cl tys ly N ad av S) := fun a U g mk q => by
  obtain ⟨q0, qP, qK⟩ := q
  exact ⟨q0, qP, va_K.moved (u := U) (U := U.calling g mk a) (Vm.Alike.refl U.vm) qK⟩
section XM
variable {l : Launch} {y : MethodName} {ws ws' : List Cond} {rm : Room} {D : va_G} {cl : List vw_C} {tys : List (ClassId × FieldType)} {ly : xLy} {N : Nat} {ad : Nat → Nat} {av : List Value} {S : xSt} {cc : ByteArray} {nL : Nat} {ret : Option FieldType}
theorem xM_of {Qc : Array Value → State → Outcome → State → Prop} {mc ms : Nat} {free : Addr → Prop} (hy : plainName y.cls = true) (hw : ws = Cond.code y cc nL ret :: ws') (hlen : (lg_sl av).length ≤ nL) (body : ∀ (p : Program) (e : Env) (s : State) (m : MethodId) (below : List Frame) (meth : Method) (c : Code) (ls : Array Slot), xB p s m av.toArray meth c cc nL y.cls ws ret → lv_has ls nL (lv_args 0 av) → va_K D cl tys s → va_P D cl (xW ly N ad S) s.heap →
    W p l e rm s m av.toArray below meth c s.heap [] 0 0 (MQ below Qc av.toArray s mc ms free) (F0 m 0 ls [])) : Met l y ws rm (xPc D cl tys ly N ad av S) Qc mc ms free := by
  refine Met.ofW (cc := cc) (maxL := nL) (ret := ret) hy hw ?_
  intro p e s m args below meth c s₁ B hml hv
  obtain ⟨rfl, hP, hK⟩ := hv
  have hl := lv_entry av (n := nL) hlen
  rw [lg_entry_eq]
  exact body p e s m below meth c _ ⟨B.exec, B.bytes, hml, findClass_of_methodNamed B.named, atoms_spec (ws := ws) B.pre, B.returns, B.notSynchronized⟩ hl hK hP
end XM
section XR
variable {p : Program} {l : Launch} {e : Env} {R : Room} {s : State} {m : MethodId} {args : Array Value} {below : List Frame} {meth : Method} {c : Code} {H : Heap} {locs : List Loc} {cells slots : Nat} {Q : State → Prop}
variable {cc : ByteArray} {pc : Nat} {ls : Array Slot} {rest : List Value} {D : va_G} {cl : List vw_C} {A : Nat → Prop} {tys : List (ClassId × FieldType)} {H0 : Heap} {ly : xLy} {N : Nat} {ad : Nat → Nat} {S : xSt}
theorem x_get (hx : p.tables.exec = Jvm.exec) (hb : c.code = cc) {own C : String} {T : u_T} {n ci index : Nat} {Ts : List Cond} (hts : ∀ w ∈ Ts, w.before args s = true) (hin : ∀ w ∈ u_ws C T n, w ∈ Ts) (hown : s.vm.findClass own = some m.cls) (hK : va_K D cl tys s) (hP : va_P D cl (xW ly N ad S) H) (k : Nat) (hk : k < N) {fs : List Value} (hc : ly k (S k) = .inr (ci, fs)) (hcl : cl[ci]? = some (C, T, n)) (j : Nat) (hj : j < n) (hlink : (Cond.fieldLink own index (T j).1 (T j).2.1 (T j).2.2.1).before args s = true) {v : Value} (hv : fs[j]? = some v) (hdg : decode cc pc = .ok (.getfield index, 3))
    (kk : W p l e R s m args below meth c H locs cells slots Q (F0 m (pc + 3) ls (v :: rest))) : W p l e R s m args below meth c H locs cells slots Q (F0 m pc ls (.ref (ad k) :: rest)) :=
  va_get hx hb hts hin hown hK hP k ((xW_at hk).trans (by rw [hc])) hcl j hj hlink (fun _ h => h) hv hdg kk
theorem x_put (hx : p.tables.exec = Jvm.exec) (hb : c.code = cc) {own C : String} {T : u_T} {n ci index : Nat} {Ts : List Cond} (hts : ∀ w ∈ Ts, w.before args s = true) (hin : ∀ w ∈ u_ws C T n, w ∈ Ts) (ty0 : Nat → FieldType) (hty : ∀ k, k < n → parseFieldDescriptor (T k).2.2.1 = some (ty0 k)) (hnm : ∀ a, a < n → ∀ b, b < n → a ≠ b → (T a).2.1 ≠ (T b).2.1) (hown : s.vm.findClass own = some m.cls) (hK : va_K D cl tys s) (hI : xI N ad) (hA : ∀ k, k < N → A (ad k)) (hP : va_P D cl (xW ly N ad S) H) (hS : va_S A H0 H locs) (k : Nat) (hk : k < N) {fs : List Value} (hc : ly k (S k) = .inr (ci, fs)) (hcl : cl[ci]? = some (C, T, n)) (j : Nat) (hj : j < n) (hlink : (Cond.fieldLink own index (T j).1 (T j).2.1 (T j).2.2.1).before args s = true) (hfin : (T j).2.2.2 = false) {v : Value} (f : Nat → Int32) (hf : ly k f = .inr (ci, fs.set j v)) (hn : narrow (ty0 j) v = v) (hfit : fits (ty0 j) v = true) (hl : j < fs.length) (hdg : decode cc pc = .ok (.putfield index, 3))
    (kk : ∀ (H1 : Heap) (locs1 : List Loc), va_P D cl (xW ly N ad (sr S k f)) H1 → va_S A H0 H1 locs1 → W p l e R s m args below meth c H1 locs1 cells slots Q (F0 m (pc + 3) ls rest)) : W p l e R s m args below meth c H locs cells slots Q (F0 m pc ls (v :: .ref (ad k) :: rest)) :=
  va_put hx hb hts hin ty0 hty hnm hown hK hP (xD S hI hA) hS k ((xW_at hk).trans (by rw [hc])) hcl j hj hlink (fun _ h => h) hfin (hty j hj) hn hfit hl hdg
    (fun H1 locs1 h1 _ h3 => kk H1 locs1 (by rw [← hf, xW_set hk] at h1; exact h1) h3)
theorem x_iald (hx : p.tables.exec = Jvm.exec) (hb : c.code = cc) (hK : va_K D cl tys s) (hP : va_P D cl (xW ly N ad S) H) (k t0 : Nat) (hk : k < N) {cA : ClassId} {n : Nat} (hc : ly k (S k) = .inl (cA, n, .inl (S k))) (ht : tys[t0]? = some (cA, .int)) {i : Int32} (j : Nat) (hi : i = nI j) (hj : j < n) (hn : n < 2 ^ 31) {v : Int32} (hv : S k j = v) (hdg : decode cc pc = .ok (.iaload, 1))
    (kk : W p l e R s m args below meth c H locs cells slots Q (F0 m (pc + 1) ls (.int v :: rest))) : W p l e R s m args below meth c H locs cells slots Q (F0 m pc ls (.int i :: .ref (ad k) :: rest)) := by
  subst hi
  refine va_iald hx hb hK hP k t0 ((xW_at hk).trans (by rw [hc])) ht (vp_in_nI hj hn) hdg ?_
  rw [nI_clamp (by omega), hv]
  exact kk
theorem x_zald (hx : p.tables.exec = Jvm.exec) (hb : c.code = cc) (hK : va_K D cl tys s) (hP : va_P D cl (xW ly N ad S) H) (k t0 : Nat) (hk : k < N) {cA : ClassId} {n : Nat} (hc : ly k (S k) = .inl (cA, n, .inl (S k))) (ht : tys[t0]? = some (cA, .boolean)) {i : Int32} (j : Nat) (hi : i = nI j) (hj : j < n) (hn : n < 2 ^ 31) {v : Int32} (hv : S k j = v) (hdg : decode cc pc = .ok (.baload, 1))
    (kk : W p l e R s m args below meth c H locs cells slots Q (F0 m (pc + 1) ls (.int v :: rest))) : W p l e R s m args below meth c H locs cells slots Q (F0 m pc ls (.int i :: .ref (ad k) :: rest)) := by
  subst hi
  refine va_zald hx hb hK hP k t0 ((xW_at hk).trans (by rw [hc])) ht (vp_in_nI hj hn) hdg ?_
  rw [nI_clamp (by omega), hv]
  exact kk
theorem x_iast (hx : p.tables.exec = Jvm.exec) (hb : c.code = cc) (hK : va_K D cl tys s) (hI : xI N ad) (hA : ∀ k, k < N → A (ad k)) (hP : va_P D cl (xW ly N ad S) H) (hS : va_S A H0 H locs) (k t0 : Nat) (hk : k < N) {cA : ClassId} {n : Nat} (hc : ∀ f, ly k f = .inl (cA, n, .inl f)) (ht : tys[t0]? = some (cA, .int)) {i x : Int32} (j : Nat) (hi : i = nI j) (hj : j < n) (hn : n < 2 ^ 31) (hdg : decode cc pc = .ok (.iastore, 1))
    (kk : ∀ (H1 : Heap) (locs1 : List Loc), va_P D cl (xW ly N ad (su S k j x)) H1 → va_S A H0 H1 locs1 → W p l e R s m args below meth c H1 locs1 cells slots Q (F0 m (pc + 1) ls rest)) : W p l e R s m args below meth c H locs cells slots Q (F0 m pc ls (.int x :: .int i :: .ref (ad k) :: rest)) := by
  subst hi
  refine va_iast hx hb hK hP (xD S hI hA) hS k t0 ((xW_at hk).trans (by rw [hc])) ht (vp_in_nI hj hn) hdg (fun H1 locs1 h1 _ h3 => kk H1 locs1 ?_ h3)
  rw [nI_clamp (by omega), ← hc, xW_set hk] at h1
  exact h1
theorem x_zast (hx : p.tables.exec = Jvm.exec) (hb : c.code = cc) (hK : va_K D cl tys s) (hI : xI N ad) (hA : ∀ k, k < N → A (ad k)) (hP : va_P D cl (xW ly N ad S) H) (hS : va_S A H0 H locs) (k t0 : Nat) (hk : k < N) {cA : ClassId} {n : Nat} (hc : ∀ f, ly k f = .inl (cA, n, .inl f)) (ht : tys[t0]? = some (cA, .boolean)) {i x : Int32} (hz : vp_nar .boolean x = x) (j : Nat) (hi : i = nI j) (hj : j < n) (hn : n < 2 ^ 31) (hdg : decode cc pc = .ok (.bastore, 1))
    (kk : ∀ (H1 : Heap) (locs1 : List Loc), va_P D cl (xW ly N ad (su S k j x)) H1 → va_S A H0 H1 locs1 → W p l e R s m args below meth c H1 locs1 cells slots Q (F0 m (pc + 1) ls rest)) : W p l e R s m args below meth c H locs cells slots Q (F0 m pc ls (.int x :: .int i :: .ref (ad k) :: rest)) := by
  subst hi
  refine va_zast hx hb hK hP (xD S hI hA) hS k t0 ((xW_at hk).trans (by rw [hc])) ht (vp_in_nI hj hn) hdg (fun H1 locs1 h1 _ h3 => kk H1 locs1 ?_ h3)
  rw [nI_clamp (by omega), hz, ← hc, xW_set hk] at h1
  exact h1
/-- a row of references -/
theorem x_aald (hx : p.tables.exec = Jvm.exec) (hb : c.code = cc) (hK : va_K D cl tys s) (hP : va_P D cl (xW ly N ad S) H) (k t0 : Nat) (hk : k < N) {cA : ClassId} {n : Nat} {g : Nat → Option Nat} (hc : ly k (S k) = .inl (cA, n, .inr (.inr (.inr (.inr g))))) {ty : FieldType} (ht : tys[t0]? = some (cA, ty)) (hty : ty.isReference = true) {i : Int32} (j : Nat) (hi : i = nI j) (hj : j < n) (hn : n < 2 ^ 31) {v : Value} (hv : va_rf (g j) = v) (hdg : decode cc pc = .ok (.aaload, 1))
    (kk : W p l e R s m args below meth c H locs cells slots Q (F0 m (pc + 1) ls (v :: rest))) : W p l e R s m args below meth c H locs cells slots Q (F0 m pc ls (.int i :: .ref (ad k) :: rest)) := by
  subst hi
  have ha := hP k _ ((xW_at hk).trans (by rw [hc]))
  refine W.aald (v := v) (ty := ty) hx hb ha ((hK.2 t0 _ ht).1 n (fun j => va_rf (g j))) hty (fun q => by cases q) (by show ¬ (nI j < 0 ∨ (arrV _ _ _).slots.size ≤ _); rw [arrV_size]; exact vp_in_nI hj hn) (by show (arrV _ _ _).slots[_]? = _; rw [nI_clamp (by omega), arrV_read _ _ hj, hv]) rfl rfl hdg kk
/-- ends -/
theorem x_iret {post : Int32 → xSt → Prop} (hx : p.tables.exec = Jvm.exec) (hb : c.code = cc) (hr : meth.sig.returnType = some .int) (hlocks : meth.locks = false) (hP : va_P D cl (xW ly N ad S) H) (hS : va_S (xA N ad) s.heap H locs) {v : Int32} (hdg : decode cc pc = .ok (.ireturn, 1)) (hp : post v S) :
    W p l e R s m args below meth c H locs 0 0 (MQ below (xQi D cl ly N ad post) args s 0 0 (xA N ad)) (F0 m pc ls [.int v]) :=
  W.iret (v := v) hx hb hr (fun t ht hW => ⟨⟨v, S, rfl, hp, (by show va_P D cl (xW ly N ad S) t.heap; rw [ht]; exact hP)⟩, hS.F ht⟩) hS.2.2 hdg
theorem x_zret {post : Int32 → xSt → Prop} (hx : p.tables.exec = Jvm.exec) (hb : c.code = cc) (hr : meth.sig.returnType = some .boolean) (hlocks : meth.locks = false) (hP : va_P D cl (xW ly N ad S) H) (hS : va_S (xA N ad) s.heap H locs) {v : Int32} (hdg : decode cc pc = .ok (.ireturn, 1)) (hn : v = 0 ∨ v = 1) (hp : post v S) :
    W p l e R s m args below meth c H locs 0 0 (MQ below (xQi D cl ly N ad post) args s 0 0 (xA N ad)) (F0 m pc ls [.int v]) :=
  W.zret (v := v) hx hb hr (by rcases hn with rfl | rfl <;> decide +kernel) (fun t ht hW => ⟨⟨v, S, rfl, hp, (by show va_P D cl (xW ly N ad S) t.heap; rw [ht]; exact hP)⟩, hS.F ht⟩) hS.2.2 hdg
theorem x_lret {post : Int64 → xSt → Prop} (hx : p.tables.exec = Jvm.exec) (hb : c.code = cc) (hr : meth.sig.returnType = some .long) (hlocks : meth.locks = false) (hP : va_P D cl (xW ly N ad S) H) (hS : va_S (xA N ad) s.heap H locs) {v : Int64} (hdg : decode cc pc = .ok (.lreturn, 1)) (hp : post v S) :
    W p l e R s m args below meth c H locs 0 0 (MQ below (xQl D cl ly N ad post) args s 0 0 (xA N ad)) (F0 m pc ls [.long v]) :=
  W.lret (v := v) hx hb hr (fun t ht hW => ⟨⟨v, S, rfl, hp, (by show va_P D cl (xW ly N ad S) t.heap; rw [ht]; exact hP)⟩, hS.F ht⟩) hS.2.2 hdg
theorem x_vret {post : xSt → Prop} (hx : p.tables.exec = Jvm.exec) (hb : c.code = cc) (hr : meth.sig.returnType = none) (hlocks : meth.locks = false) (hP : va_P D cl (xW ly N ad S) H) (hS : va_S (xA N ad) s.heap H locs) (hdg : decode cc pc = .ok (.return_, 1)) (hp : post S) :
    W p l e R s m args below meth c H locs 0 0 (MQ below (xQv D cl ly N ad post) args s 0 0 (xA N ad)) (F0 m pc ls []) :=
  W.vret hx hb hr (fun t ht hW => ⟨⟨S, rfl, hp, (by show va_P D cl (xW ly N ad S) t.heap; rw [ht]; exact hP)⟩, hS.F ht⟩) hS.2.2 hdg
variable {y : MethodName} {bytes : ByteArray} {maxL nL n index : Nat} {ret : Option FieldType} {ws Ts : List Cond} {rm : Room} {own C : String} {As st0 : List Value} {Qc : Array Value → State → Outcome → State → Prop} {free : Addr → Prop}
theorem x_runV (F : CallFix p m c cc nL s args Ts own) {k : Nat} (hM : Met l y ws rm (xPc D cl tys ly N ad (.ref (ad k) :: As) S) Qc 0 0 free) (cw : CallW R s args own C index y bytes maxL ret ws rm 0 0 n) (hK : va_K D cl tys s) (hP : va_P D cl (xW ly N ad S) H) (hk : k < N) {ci : Nat} {fs : List Value} (hc : ly k (S k) = .inr (ci, fs)) {T : u_T} {nf : Nat} (hcl : cl[ci]? = some (C, T, nf)) (hn : As.length = n) (hsize : ls.size = nL) (hst : st0 = As.reverse ++ .ref (ad k) :: rest) (hW : (rest.map fun v => v.category).sum ≤ 8) (hdg : decode cc pc = .ok (.invokevirtual index, 3)) (hf : cells ≤ R.cells ∧ slots ≤ R.slots) :
    va_Run p l e R s m args below meth c H locs cells slots 0 0 (F0 m pc ls st0) rest (Qc (Value.ref (ad k) :: As).toArray) free :=
  va_runV F hM cw ⟨xPc_blind, va_recv (q := (C, T, nf)) hK hP hcl ((xW_at hk).trans (by rw [hc])), fun U hU hWm => ⟨rfl, by rw [hU]; exact hP, va_K.moved hWm.alike hK⟩⟩ rfl hn hsize hst (lv_room hW) hdg hf
theorem x_runS (F : CallFix p m c cc nL s args Ts own) (hM : Met l y ws rm (xPc D cl tys ly N ad As S) Qc 0 0 free) (cw : CallB R s args own index y bytes maxL ret ws rm 0 0 n ∧ (Cond.static y).before args s = true) (hK : va_K D cl tys s) (hP : va_P D cl (xW ly N ad S) H) (hn : As.length = n) (hsize : ls.size = nL) (hst : st0 = As.reverse ++ rest) (hW : (rest.map fun v => v.category).sum ≤ 8) (hdg : decode cc pc = .ok (.invokestatic index, 3)) (hf : cells ≤ R.cells ∧ slots ≤ R.slots) :
    va_Run p l e R s m args below meth c H locs cells slots 0 0 (F0 m pc ls st0) rest (Qc As.toArray) free :=
  va_runS F hM cw ⟨xPc_blind, fun U hU hWm => ⟨rfl, by rw [hU]; exact hP, va_K.moved hWm.alike hK⟩⟩ rfl hn hsize hst (lv_room hW) hdg hf
theorem x_calli {post : Int32 → xSt → Prop} {a : Array Value} (hr : va_Run p l e R s m args below meth c H locs cells slots 0 0 (F0 m pc ls st0) rest (xQi D cl ly N ad post a) (xA N ad)) (hS : va_S A H0 H locs) (hA : ∀ k, k < N → A (ad k))
    (kk : ∀ (r : Int32) (S' : xSt) (H1 : Heap) (locs1 : List Loc), post r S' → va_P D cl (xW ly N ad S') H1 → (∀ q : Nat, q < H.size → ¬ xA N ad q → H1[q]? = H[q]?) → va_S A H0 H1 locs1 → W p l e R s m args below meth c H1 locs1 cells slots Q (F0 m (pc + 3) ls (.int r :: rest))) : W p l e R s m args below meth c H locs cells slots Q (F0 m pc ls st0) :=
  va_calli hr hS (fun q _ h => by obtain ⟨k, h1, rfl⟩ := h; exact hA k h1) (fun q h => by obtain ⟨k, h1, rfl⟩ := h; exact hA k h1) (fun r u t H1 locs1 ht hvm hp hB hz hq hS1 => kk r u H1 locs1 hp (by rw [← ht]; exact hB) hq hS1)
theorem x_calll {post : Int64 → xSt → Prop} {a : Array Value} (hr : va_Run p l e R s m args below meth c H locs cells slots 0 0 (F0 m pc ls st0) rest (xQl D cl ly N ad post a) (xA N ad)) (hS : va_S A H0 H locs) (hA : ∀ k, k < N → A (ad k))
    (kk : ∀ (r : Int64) (S' : xSt) (H1 : Heap) (locs1 : List Loc), post r S' → va_P D cl (xW ly N ad S') H1 → (∀ q : Nat, q < H.size → ¬ xA N ad q → H1[q]? = H[q]?) → va_S A H0 H1 locs1 → W p l e R s m args below meth c H1 locs1 cells slots Q (F0 m (pc + 3) ls (.long r :: rest))) : W p l e R s m args below meth c H locs cells slots Q (F0 m pc ls st0) :=
  va_calll hr hS (fun q _ h => by obtain ⟨k, h1, rfl⟩ := h; exact hA k h1) (fun q h => by obtain ⟨k, h1, rfl⟩ := h; exact hA k h1) (fun r u t H1 locs1 ht hvm hp hB hz hq hS1 => kk r u H1 locs1 hp (by rw [← ht]; exact hB) hq hS1)
theorem x_callv {post : xSt → Prop} {a : Array Value} (hr : va_Run p l e R s m args below meth c H locs cells slots 0 0 (F0 m pc ls st0) rest (xQv D cl ly N ad post a) (xA N ad)) (hS : va_S A H0 H locs) (hA : ∀ k, k < N → A (ad k))
    (kk : ∀ (S' : xSt) (H1 : Heap) (locs1 : List Loc), post S' → va_P D cl (xW ly N ad S') H1 → (∀ q : Nat, q < H.size → ¬ xA N ad q → H1[q]? = H[q]?) → va_S A H0 H1 locs1 → W p l e R s m args below meth c H1 locs1 cells slots Q (F0 m (pc + 3) ls rest)) : W p l e R s m args below meth c H locs cells slots Q (F0 m pc ls st0) :=
  va_callv hr hS (fun q _ h => by obtain ⟨k, h1, rfl⟩ := h; exact hA k h1) (fun q h => by obtain ⟨k, h1, rfl⟩ := h; exact hA k h1) (fun u t H1 locs1 ht hvm hp hB hz hq hS1 => kk u H1 locs1 hp (by rw [← ht]; exact hB) hq hS1)
end XR
end
section
/-! ===== the two worlds, and the words in which both are told ===== -/
abbrev tyl (cI cZ cS cG : ClassId) : List (ClassId × FieldType) := [(cI, .int), (cZ, .boolean), (cS, .object "FosterSons$Sheet"), (cG, .array .int)]
/-- the reference: its object, then its rows: 1 sorts, 2 sheetLong, 3 cells, 4 gains, 5 kind, 6 father, 7 worth, 8 fond, 9 sentTo, 10 sentFrom, 11 readGains, 12 read, 13 asked, 14 readCourtOf, 15 readYear, 16 readWas, 17 kept -/
def mLy (cI cZ : ClassId) (bd : Nat → Nat) : xLy := fun k f => match k with
  | 0 => .inr (6, [.int (f 0), .int (f 1), .ref (bd 1), .ref (bd 2), .ref (bd 3), .int (f 5), .int (f 6), .int (f 7), .ref (bd 4), .ref (bd 5), .ref (bd 6), .ref (bd 7), .ref (bd 8), .ref (bd 9), .ref (bd 10), .int (f 15), .int (f 16), .int (f 17), .int (f 18), .ref (bd 11), .ref (bd 12), .ref (bd 13), .int (f 22), .ref (bd 14), .ref (bd 15), .ref (bd 16), .ref (bd 17)])
  | 1 => .inl (cI, 4, .inl f)
  | 2 => .inl (cI, 4, .inl f)
  | 3 => .inl (cI, 240, .inl f)
  | 4 => .inl (cI, 24, .inl f)
  | 5 => .inl (cI, 6, .inl f)
  | 6 => .inl (cI, 6, .inl f)
  | 7 => .inl (cI, 6, .inl f)
  | 8 => .inl (cI, 6, .inl f)
  | 9 => .inl (cI, 6, .inl f)
  | 10 => .inl (cI, 6, .inl f)
  | 11 => .inl (cI, 24, .inl f)
  | 12 => .inl (cI, 24, .inl f)
  | 13 => .inl (cI, 6, .inl f)
  | 14 => .inl (cI, 8, .inl f)
  | 15 => .inl (cI, 8, .inl f)
  | 16 => .inl (cZ, 8, .inl f)
  | _ => .inl (cI, 6, .inl f)
/-- the class: 0 its object, 1 the row of SHEETS, 2 .. 5 SHEETS, 6 .. 9 their cells, 10 the TEXT, 11 its codes, 12 the TREATY (13 its row of GAINS, 14 .. 17 GAINS, 18 kind, 19 father, 20 worth, 21 fond), 22 the draft (23 .. 31 likewise), 32 sent (33 to, 34 from), 35 trial (36, 37), 38 readings (39 court, 40 year, 41 was) -/
def cLy (cI cZ cS cG : ClassId) (ad : Nat → Nat) : xLy := fun k f => match k with
  | 0 => .inr (5, [.ref (ad 1), .ref (ad 10), .ref (ad 12), .ref (ad 22), .ref (ad 32), .ref (ad 35), .ref (ad 38), .int (f 7), .int (f 8)])
  | 1 => .inl (cS, 4, .inr (.inr (.inr (.inr (fun i => if i < 4 then some (ad (2 + i)) else none)))))
  | 2 => .inr (2, [.ref (ad 6), .int (f 1), .int (f 2), .int (f 3)])
  | 3 => .inr (2, [.ref (ad 7), .int (f 1), .int (f 2), .int (f 3)])
  | 4 => .inr (2, [.ref (ad 8), .int (f 1), .int (f 2), .int (f 3)])
  | 5 => .inr (2, [.ref (ad 9), .int (f 1), .int (f 2), .int (f 3)])
  | 6 => .inl (cI, 60, .inl f)
  | 7 => .inl (cI, 60, .inl f)
  | 8 => .inl (cI, 60, .inl f)
  | 9 => .inl (cI, 60, .inl f)
  | 10 => .inr (3, [.ref (ad 11), .int (f 1), .int (f 2)])
  | 11 => .inl (cI, 60, .inl f)
  | 12 => .inr (4, [.int (f 0), .int (f 1), .int (f 2), .ref (ad 13), .ref (ad 18), .ref (ad 19), .ref (ad 20), .ref (ad 21)])
  | 13 => .inl (cG, 4, .inr (.inr (.inr (.inr (fun i => if i < 4 then some (ad (14 + i)) else none)))))
  | 14 => .inl (cI, 6, .inl f)
  | 15 => .inl (cI, 6, .inl f)
  | 16 => .inl (cI, 6, .inl f)
  | 17 => .inl (cI, 6, .inl f)
  | 18 => .inl (cI, 5, .inl f)
  | 19 => .inl (cI, 5, .inl f)
  | 20 => .inl (cI, 5, .inl f)
  | 21 => .inl (cI, 5, .inl f)
  | 22 => .inr (4, [.int (f 0), .int (f 1), .int (f 2), .ref (ad 23), .ref (ad 28), .ref (ad 29), .ref (ad 30), .ref (ad 31)])
  | 23 => .inl (cG, 4, .inr (.inr (.inr (.inr (fun i => if i < 4 then some (ad (24 + i)) else none)))))
  | 24 => .inl (cI, 6, .inl f)
  | 25 => .inl (cI, 6, .inl f)
  | 26 => .inl (cI, 6, .inl f)
  | 27 => .inl (cI, 6, .inl f)
  | 28 => .inl (cI, 5, .inl f)
  | 29 => .inl (cI, 5, .inl f)
  | 30 => .inl (cI, 5, .inl f)
  | 31 => .inl (cI, 5, .inl f)
  | 32 => .inr (1, [.ref (ad 33), .ref (ad 34)])
  | 33 => .inl (cI, 5, .inl f)
  | 34 => .inl (cI, 5, .inl f)
  | 35 => .inr (1, [.ref (ad 36), .ref (ad 37)])
  | 36 => .inl (cI, 5, .inl f)
  | 37 => .inl (cI, 5, .inl f)
  | 38 => .inr (0, [.ref (ad 39), .ref (ad 40), .ref (ad 41), .int (f 3)])
  | 39 => .inl (cI, 8, .inl f)
  | 40 => .inl (cI, 8, .inl f)
  | _ => .inl (cZ, 8, .inl f)
section LY
variable {cI cZ cS cG : ClassId} {ad : Nat → Nat}
theorem cLy_sheet {k : Nat} (h : k < 4) (f : Nat → Int32) : cLy cI cZ cS cG ad (2 + k) f = .inr (2, [.ref (ad (6 + k)), .int (f 1), .int (f 2), .int (f 3)]) := by
  match k, h with
  | 0, _ => rfl
  | 1, _ => rfl
  | 2, _ => rfl
  | 3, _ => rfl
theorem cLy_cells {k : Nat} (h : k < 4) (f : Nat → Int32) : cLy cI cZ cS cG ad (6 + k) f = .inl (cI, 60, .inl f) := by
  match k, h with
  | 0, _ => rfl
  | 1, _ => rfl
  | 2, _ => rfl
  | 3, _ => rfl
theorem cLy_gain14 {k : Nat} (h : k < 4) (f : Nat → Int32) : cLy cI cZ cS cG ad (14 + k) f = .inl (cI, 6, .inl f) := by
  match k, h with
  | 0, _ => rfl
  | 1, _ => rfl
  | 2, _ => rfl
  | 3, _ => rfl
theorem cLy_gain24 {k : Nat} (h : k < 4) (f : Nat → Int32) : cLy cI cZ cS cG ad (24 + k) f = .inl (cI, 6, .inl f) := by
  match k, h with
  | 0, _ => rfl
  | 1, _ => rfl
  | 2, _ => rfl
  | 3, _ => rfl
theorem cLy_snd0 {b : Nat} (h : b = 32 ∨ b = 35) (f : Nat → Int32) : cLy cI cZ cS cG ad b f = .inr (1, [.ref (ad (b + 1)), .ref (ad (b + 2))]) := by
  rcases h with rfl | rfl <;> rfl
theorem cLy_snd1 {b : Nat} (h : b = 32 ∨ b = 35) (f : Nat → Int32) : cLy cI cZ cS cG ad (b + 1) f = .inl (cI, 5, .inl f) := by
  rcases h with rfl | rfl <;> rfl
theorem cLy_snd2 {b : Nat} (h : b = 32 ∨ b = 35) (f : Nat → Int32) : cLy cI cZ cS cG ad (b + 2) f = .inl (cI, 5, .inl f) := by
  rcases h with rfl | rfl <;> rfl
theorem if_pos_rf {j n q : Nat} (h : j < n) : va_rf (if j < n then some q else none) = .ref q := by rw [if_pos h]; rfl
end LY
/-! numbers -/
abbrev inR (s n : Int32) : Prop := ¬ s < 0 ∧ ¬ n ≤ s
abbrev wit (v a b : Int32) : Prop := ¬ v < a ∧ ¬ b < v
theorem inR_ex {s : Int32} {n : Nat} (h : inR s (nI n)) (hn : n < 2 ^ 31) : ∃ j, j < n ∧ s = nI j := by
  rcases pk_ix s hn with q | q | q
  · exact absurd q h.1
  · exact absurd q h.2
  · exact q
theorem inR_nI {j n : Nat} (h : j < n) (hn : n < 2 ^ 31) : inR (nI j) (nI n) := ⟨nI_pos (by omega), nI_ge h hn⟩
/-- what a SON costs: WORTH w, FOND f, kind k, a YEARS away -/
def stake1 (w f k a : Int32) : Int32 := if k = 0 then (if w - f * a < 0 then 0 else w - f * a) else if k = 1 then (if w - f * a < 0 then 0 else w - f * a) + 2 else (if w - f * a < 0 then 0 else w - f * a) / 2
def stk (fa wo fo ki fr : Nat → Int32) (c y : Int32) (s : Nat) : Int32 := if fa s = c ∧ ¬ y < fr s then stake1 (wo s) (fo s) (ki s) (y - fr s) else 0
def sumL (f : Nat → Int32) : Nat → Nat → Int32 → Int32
  | 0, _, a => a
  | n + 1, i, a => sumL f n (i + 1) (a + f i)
def orL (f : Nat → Int32) : Nat → Nat → Int32 → Int32
  | 0, _, a => a
  | n + 1, i, a => orL f n (i + 1) (a ||| f i)
/-- the first from i on, among n -/
def scan (p : Nat → Bool) : Nat → Nat → Int32
  | 0, _ => -9
  | n + 1, i => if p i = true then nI i else scan p n (i + 1)
def allL (p : Nat → Bool) : Nat → Nat → Bool
  | 0, _ => true
  | n + 1, i => if p i = true then allL p n (i + 1) else false
/-- TEMPTED -/
def tmp (N : Nat) (fa wo fo ki fr : Nat → Int32) (g c y : Int32) : Bool := decide (¬ g ≤ sumL (stk fa wo fo ki fr c y) N 0 0)
theorem sumL_cong {f g : Nat → Int32} : ∀ (n i : Nat) (a : Int32), (∀ j, i ≤ j → j < i + n → f j = g j) → sumL f n i a = sumL g n i a
  | 0, _, _, _ => rfl
  | n + 1, i, a, h => by
    rw [sumL, sumL, h i (Nat.le_refl i) (by omega)]
    exact sumL_cong n (i + 1) _ (fun j h1 h2 => h j (by omega) (by omega))
theorem orL_cong {f g : Nat → Int32} : ∀ (n i : Nat) (a : Int32), (∀ j, i ≤ j → j < i + n → f j = g j) → orL f n i a = orL g n i a
  | 0, _, _, _ => rfl
  | n + 1, i, a, h => by
    rw [orL, orL, h i (Nat.le_refl i) (by omega)]
    exact orL_cong n (i + 1) _ (fun j h1 h2 => h j (by omega) (by omega))
theorem scan_cong {p q : Nat → Bool} : ∀ (n i : Nat), (∀ j, i ≤ j → j < i + n → p j = q j) → scan p n i = scan q n i
  | 0, _, _ => rfl
  | n + 1, i, h => by
    rw [scan, scan, h i (Nat.le_refl i) (by omega), scan_cong n (i + 1) (fun j h1 h2 => h j (by omega) (by omega))]
theorem allL_cong {p q : Nat → Bool} : ∀ (n i : Nat), (∀ j, i ≤ j → j < i + n → p j = q j) → allL p n i = allL q n i
  | 0, _, _ => rfl
  | n + 1, i, h => by
    rw [allL, allL, h i (Nat.le_refl i) (by omega), allL_cong n (i + 1) (fun j h1 h2 => h j (by omega) (by omega))]
/-- the first n places by h -/
def fil (h f : Nat → Int32) (n : Nat) : Nat → Int32 := fun s => if s < n then h s else f s
theorem fil_0 (h f : Nat → Int32) : fil h f 0 = f := by
  funext s
  exact if_neg (Nat.not_lt_zero s)
theorem fil_s (h f : Nat → Int32) (n : Nat) : upd (fil h f n) n (h n) = fil h f (n + 1) := by
  funext s
  by_cases e : s = n
  · subst e
    simp [upd, fil]
  · by_cases q : s < n
    · simp [upd, fil, e, q, Nat.lt_succ_of_lt q]
    · simp [upd, fil, e, q, show ¬ s < n + 1 by omega]
theorem fil_fil (h f : Nat → Int32) (n : Nat) : fil h (fil h f n) n = fil h f n := by
  funext s
  by_cases q : s < n <;> simp [fil, q]
theorem fil_in {h f : Nat → Int32} {n s : Nat} (q : s < n) : fil h f n s = h s := if_pos q
theorem su_fil {S : xSt} {k n : Nat} {h f : Nat → Int32} {v : Int32} (hv : v = h n) : su (sr S k (fil h f n)) k n v = sr S k (fil h f (n + 1)) := by
  subst hv
  rw [su, sr_self, fil_s, sr_sr]
theorem ix6 (c y : Nat) : 6 * nI c + nI y = nI (6 * c + y) := by
  rw [← nI_add, ← pk_mul]
  rfl
/-- a number below n -/
def okN (x : Int32) (n : Nat) : Prop := ∃ j, j < n ∧ x = nI j
abbrev nN (x : Int32) : Nat := x.toNatClampNeg
theorem nN_nI {j : Nat} (h : j < 2 ^ 31) : nN (nI j) = j := nI_clamp h
theorem scan_cases (p : Nat → Bool) : ∀ (n i : Nat), scan p n i = -9 ∨ ∃ j, i ≤ j ∧ j < i + n ∧ p j = true ∧ scan p n i = nI j
  | 0, _ => Or.inl rfl
  | n + 1, i => by
    by_cases h : p i = true
    · exact Or.inr ⟨i, Nat.le_refl i, by omega, h, by rw [scan, if_pos h]⟩
    · rw [scan, if_neg h]
      rcases scan_cases p n (i + 1) with q | ⟨j, h1, h2, h3, h4⟩
      · exact Or.inl q
      · exact Or.inr ⟨j, by omega, by omega, h3, h4⟩
theorem nI_ne9 {j : Nat} (h : j < 2 ^ 31) : ¬ nI j = -9 := by
  intro e
  have h1 := congrArg Int32.toInt e
  rw [nI_toInt h] at h1
  have h2 : (-9 : Int32).toInt = -9 := by decide +kernel
  omega
/-- ones in k, by halving -/
def pcL : Nat → Nat → Int32 → Int32
  | 0, _, a => a
  | n + 1, k, a => if k = 0 then a else pcL n (k / 2) (a + nI (k % 2))
/-- the reference's TEMPTED, its set, BREAK -/
def mT (S : xSt) (N c y : Nat) : Bool := tmp N (S 6) (S 7) (S 8) (S 5) (S 13) (S 4 (6 * c + y)) (nI c) (nI y)
def mSet (S : xSt) (N C y : Nat) : Int32 := orL (fun c => if mT S N c y = true then 1 <<< (nI c &&& 31) else 0) C 0 0
def mBrk (S : xSt) (N C Y : Nat) : Int32 := scan (fun y => decide (¬ mSet S N C y = 0)) Y 0
def mSo (S : xSt) (N R : Nat) : Bool := allL (fun q => decide ((if mT S N (nN (S 14 q)) (nN (S 15 q)) = true then (1 : Int32) else 0) = S 16 q)) R 0
/-- asked, as it is SENT now; as a set from the start on -/
def askF (S : xSt) (N : Nat) : Nat → Int32 := fil (fun s => if S 10 s = -9 then S 0 6 else S 10 s) (S 13) N
def askG (S : xSt) (N : Nat) (v : Int32) : Nat → Int32 := fil (fun s => if v >>> (nI s &&& 31) &&& 1 = 1 then 0 else S 0 6) (S 13) N
def mBC (S : xSt) (N C Y : Nat) : Int32 := if mBrk S N C Y = -9 then -9 else scan (fun c => mT S N c (nN (mBrk S N C Y))) C 0
def mSent (S : xSt) (N : Nat) : Int32 := orL (fun s => if S 9 s = -9 then 0 else 1 <<< (nI s &&& 31)) N 0 0
theorem nI_le0 {k : Nat} (h : nI k ≤ 0) (hk : k < 2 ^ 31) : k = 0 := by
  rcases Nat.eq_zero_or_pos k with q | q
  · exact q
  · exact absurd h (nI_nle q hk)
theorem i32ne {x v : Int32} {a : Int} (h : ¬ x = v) (e : v.toInt = a) : x.toInt ≠ a := fun q => h (Int32.toInt_inj.mp (q.trans e.symm))
theorem outT0_5 {x : Int32} (h0 : ¬ x = 0) (h1 : ¬ x = 1) (h2 : ¬ x = 2) (h3 : ¬ x = 3) (h4 : ¬ x = 4) (h5 : ¬ x = 5) : x.toInt < 0 ∨ 5 < x.toInt := by
  have a0 := i32ne (a := 0) h0 (by decide +kernel)
  have a1 := i32ne (a := 1) h1 (by decide +kernel)
  have a2 := i32ne (a := 2) h2 (by decide +kernel)
  have a3 := i32ne (a := 3) h3 (by decide +kernel)
  have a4 := i32ne (a := 4) h4 (by decide +kernel)
  have a5 := i32ne (a := 5) h5 (by decide +kernel)
  omega
theorem outT0_4 {x : Int32} (h0 : ¬ x = 0) (h1 : ¬ x = 1) (h2 : ¬ x = 2) (h3 : ¬ x = 3) (h4 : ¬ x = 4) : x.toInt < 0 ∨ 4 < x.toInt := by
  have a0 := i32ne (a := 0) h0 (by decide +kernel)
  have a1 := i32ne (a := 1) h1 (by decide +kernel)
  have a2 := i32ne (a := 2) h2 (by decide +kernel)
  have a3 := i32ne (a := 3) h3 (by decide +kernel)
  have a4 := i32ne (a := 4) h4 (by decide +kernel)
  omega
theorem outL1_2 {x : Int32} {p q d : Int} (h1 : ¬ x = 1) (h2 : ¬ x = 2) : Op.lookupswitch.offset [(1, p), (2, q)] d x.toInt = d := by
  rw [Op.lookupswitch.offset_cons, if_neg (fun e => i32ne (a := 1) h1 (by decide +kernel) e.symm), Op.lookupswitch.offset_cons, if_neg (fun e => i32ne (a := 2) h2 (by decide +kernel) e.symm), Op.lookupswitch.offset_nil]
theorem outL0_1 {x : Int32} {p q d : Int} (h1 : ¬ x = 0) (h2 : ¬ x = 1) : Op.lookupswitch.offset [(0, p), (1, q)] d x.toInt = d := by
  rw [Op.lookupswitch.offset_cons, if_neg (fun e => i32ne (a := 0) h1 (by decide +kernel) e.symm), Op.lookupswitch.offset_cons, if_neg (fun e => i32ne (a := 1) h2 (by decide +kernel) e.symm), Op.lookupswitch.offset_nil]
/-! the class's words -/
def stakeC (w f k a : Int32) : Int32 := if k = 1 then (if w - f * a < 0 then 0 else w - f * a) + 2 else if k = 2 then (if w - f * a < 0 then 0 else w - f * a) / 2 else (if w - f * a < 0 then 0 else w - f * a)
def stkC (fa wo fo ki fr : Nat → Int32) (c y : Int32) (s : Nat) : Int32 := if fa s = c ∧ ¬ y < fr s then stakeC (wo s) (fo s) (ki s) (y - fr s) else 0
def tmpC (N : Nat) (fa wo fo ki fr : Nat → Int32) (g c y : Int32) : Bool := decide (¬ g ≤ sumL (stkC fa wo fo ki fr c y) N 0 0)
def kpg (pg : Int32) (ki : Nat → Int32) : Nat → Int32 := fun s => if pg >>> (nI s &&& 31) &&& 1 = 1 then 2 else ki s
def cT (S : xSt) (N b : Nat) (pg : Int32) (c y : Nat) : Bool := tmpC N (S 19) (S 20) (S 21) (kpg pg (S 18)) (S (b + 2)) (S (14 + c) y) (nI c) (nI y)
def cFst (S : xSt) (N C b : Nat) (pg : Int32) (y : Nat) : Int32 := scan (fun c => cT S N b pg c y) C 0
def cBrk (S : xSt) (N C Y b : Nat) (pg : Int32) : Int32 := scan (fun y => decide (¬ cFst S N C b pg y = -9)) Y 0
def frG (v : Int32) (f : Nat → Int32) : Nat → Int32 := fil (fun s => if v >>> (nI s &&& 31) &&& 1 = 1 then 0 else 6) f 5
def cMany (S : xSt) (b : Nat) (y : Int32) : Int32 := sumL (fun s => if ¬ y < S (b + 2) s then 1 else 0) 5 0 0
def cSet (S : xSt) (b : Nat) : Int32 := orL (fun s => if ¬ 6 ≤ S (b + 2) s then 1 <<< (nI s &&& 31) else 0) 5 0 0
def cSo (S : xSt) (N R b : Nat) : Bool := allL (fun q => decide ((if cT S N b 0 (nN (S 39 q)) (nN (S 40 q)) = true then (1 : Int32) else 0) = S 41 q)) R 0
theorem sr_same' {S : xSt} {k : Nat} {f : Nat → Int32} (h : f = S k) : sr S k f = S := by
  rw [h, sr_same]
end
section
section M1
variable {l : Launch} {dC : Nat → ClassId} {dI : Nat → Nat → Nat} {cI cZ cS cG : ClassId} {ad bd : Nat → Nat}
set_option maxHeartbeats 4000000 in
set_option maxRecDepth 100000 in
theorem c6_fails (hI : xI 18 bd) (S : xSt) (k : Int32) : xMi l yX6_fails wsX6_fails ({ frames := 0, cells := 0, slots := 0, locals := 0 }) (dC, dI) vwCl (tyl cI cZ cS cG) (mLy cI cZ bd) 18 bd [.ref (bd 0), .int k] S (fun r S' => r = -10 - k ∧ S' = su S 0 0 k) := by
  refine xM_of (cc := cX6_fails) (nL := 2) (ret := (some .int)) (by decide) rfl (Nat.le_of_ble_eq_true rfl) ?_
  intro p e s m below meth c ls B hl hK hP
  obtain ⟨hx, hb, hml, hown, hts, hr, hlocks⟩ := B
  have hl : lv_has ls 2 [(0, .ref (bd 0)), (1, .int k)] := hl
  have hS : va_S (xA 18 bd) s.heap s.heap [] := va_S.rf
  have hAd : ∀ k, k < 18 → xA 18 bd (bd k) := xA_in
  have hinX6 : ∀ w ∈ wsX60, w ∈ wsX6_fails := fun _ h => List.mem_cons_of_mem _ (List.mem_append_right _ h)
  have hF : CallFix p m c cX6_fails 2 s _ wsX6_fails RX6 := ⟨hx, hb, hml, hown, hts⟩
  refine lv_aload_n hx hb dX6_fails_0 rfl (lv_at hl 0 rfl) ?_
  refine lv_iload_n hx hb dX6_fails_1 rfl (lv_at hl 1 rfl) ?_
  refine x_put hx hb hts hinX6 tyX6 tyX6_ok nmX6 hown hK hI hAd hP hS 0 (by decide) rfl rfl 0 (by decide) (hts _ (List.mem_of_getElem? (i := 1) rfl)) rfl (upd (S 0) 0 k) rfl rfl rfl (Nat.le_of_ble_eq_true rfl) dX6_fails_2 (fun H locs hP hS => ?_)
  have hP : va_P (dC, dI) vwCl (xW (mLy cI cZ bd) 18 bd (su S 0 0 k)) H := hP
  refine lv_bipush (v := (-10)) hx hb dX6_fails_5 (by decide +kernel) ?_
  refine lv_iload_n hx hb dX6_fails_7 rfl (lv_at hl 1 rfl) ?_
  refine lv_isub hx hb dX6_fails_8 ?_
  refine x_iret hx hb hr hlocks hP hS dX6_fails_9 ?_
  exact ⟨rfl, rfl⟩

set_option maxHeartbeats 4000000 in
set_option maxRecDepth 100000 in
theorem c6_lost (hI : xI 18 bd) (S : xSt) (k : Int32) : xMl l yX6_lost wsX6_lost ({ frames := 0, cells := 0, slots := 0, locals := 0 }) (dC, dI) vwCl (tyl cI cZ cS cG) (mLy cI cZ bd) 18 bd [.ref (bd 0), .int k] S (fun r S' => r = -9223372036854775808 ∧ S' = su S 0 0 k) := by
  refine xM_of (cc := cX6_lost) (nL := 2) (ret := (some .long)) (by decide) rfl (Nat.le_of_ble_eq_true rfl) ?_
  intro p e s m below meth c ls B hl hK hP
  obtain ⟨hx, hb, hml, hown, hts, hr, hlocks⟩ := B
  have hl : lv_has ls 2 [(0, .ref (bd 0)), (1, .int k)] := hl
  have hS : va_S (xA 18 bd) s.heap s.heap [] := va_S.rf
  have hAd : ∀ k, k < 18 → xA 18 bd (bd k) := xA_in
  have hinX6 : ∀ w ∈ wsX60, w ∈ wsX6_lost := fun _ h => List.mem_cons_of_mem _ (List.mem_append_right _ h)
  have hF : CallFix p m c cX6_lost 2 s _ wsX6_lost RX6 := ⟨hx, hb, hml, hown, hts⟩
  refine lv_aload_n hx hb dX6_lost_0 rfl (lv_at hl 0 rfl) ?_
  refine lv_iload_n hx hb dX6_lost_1 rfl (lv_at hl 1 rfl) ?_
  refine x_put hx hb hts hinX6 tyX6 tyX6_ok nmX6 hown hK hI hAd hP hS 0 (by decide) rfl rfl 0 (by decide) (hts _ (List.mem_of_getElem? (i := 1) rfl)) rfl (upd (S 0) 0 k) rfl rfl rfl (Nat.le_of_ble_eq_true rfl) dX6_lost_2 (fun H locs hP hS => ?_)
  have hP : va_P (dC, dI) vwCl (xW (mLy cI cZ bd) 18 bd (su S 0 0 k)) H := hP
  refine lv_ldc2 (v := (-9223372036854775808)) hx hb hown (hts _ (List.mem_of_getElem? (i := 2) rfl)) dX6_lost_5 ?_
  refine x_lret hx hb hr hlocks hP hS dX6_lost_8 ?_
  exact ⟨rfl, rfl⟩

set_option maxHeartbeats 4000000 in
set_option maxRecDepth 100000 in
theorem c6_within (hI : xI 18 bd) (S : xSt) (v a b : Int32) : xMi l yX6_within wsX6_within ({ frames := 0, cells := 0, slots := 0, locals := 0 }) (dC, dI) vwCl (tyl cI cZ cS cG) (mLy cI cZ bd) 18 bd [.int v, .int a, .int b] S (fun r S' => r = (if wit v a b then 1 else 0) ∧ S' = S) := by
  refine xM_of (cc := cX6_within) (nL := 3) (ret := (some .boolean)) (by decide) rfl (Nat.le_of_ble_eq_true rfl) ?_
  intro p e s m below meth c ls B hl hK hP
  obtain ⟨hx, hb, hml, hown, hts, hr, hlocks⟩ := B
  have hl : lv_has ls 3 [(0, .int v), (1, .int a), (2, .int b)] := hl
  have hS : va_S (xA 18 bd) s.heap s.heap [] := va_S.rf
  have hAd : ∀ k, k < 18 → xA 18 bd (bd k) := xA_in
  have hF : CallFix p m c cX6_within 3 s _ wsX6_within RX6 := ⟨hx, hb, hml, hown, hts⟩
  refine lv_iload_n hx hb dX6_within_0 rfl (lv_at hl 0 rfl) ?_
  refine lv_iload_n hx hb dX6_within_1 rfl (lv_at hl 1 rfl) ?_
  refine lv_icmp_lt (tgt := 14) hx hb dX6_within_2 (by decide) (fun c2 => ?_) (fun c2 => ?_)
  · have d2 := Int32.not_le.mpr c2
    refine lv_iconst (v := 0) hx hb dX6_within_14 (by decide +kernel) ?_
    refine x_zret hx hb hr hlocks hP hS dX6_within_15 (Or.inl rfl) ?_
    skip
    exact ⟨by simp [c2, d2], rfl⟩
  · have d2 := Int32.not_lt.mp c2
    refine lv_iload_n hx hb dX6_within_5 rfl (lv_at hl 0 rfl) ?_
    refine lv_iload_n hx hb dX6_within_6 rfl (lv_at hl 2 rfl) ?_
    refine lv_icmp_gt (tgt := 14) hx hb dX6_within_7 (by decide) (fun c7 => ?_) (fun c7 => ?_)
    · have d7 := Int32.not_le.mpr c7
      refine lv_iconst (v := 0) hx hb dX6_within_14 (by decide +kernel) ?_
      refine x_zret hx hb hr hlocks hP hS dX6_within_15 (Or.inl rfl) ?_
      skip
      exact ⟨by simp [c2, d2, c7, d7], rfl⟩
    · have d7 := Int32.not_lt.mp c7
      refine lv_iconst (v := 1) hx hb dX6_within_10 (by decide +kernel) ?_
      refine lv_goto (tgt := 15) hx hb dX6_within_11 (by decide) ?_
      refine x_zret hx hb hr hlocks hP hS dX6_within_15 (Or.inr rfl) ?_
      skip
      exact ⟨by simp [c2, d2, c7, d7], rfl⟩

set_option maxHeartbeats 4000000 in
set_option maxRecDepth 100000 in
theorem c6_isSheet (hI : xI 18 bd) (S : xSt) (k : Int32) : xMi l yX6_isSheet wsX6_isSheet ({ frames := 1, cells := 0, slots := 0, locals := 22 }) (dC, dI) vwCl (tyl cI cZ cS cG) (mLy cI cZ bd) 18 bd [.int k] S (fun r S' => r = (if wit k 0 3 then 1 else 0) ∧ S' = S) := by
  refine xM_of (cc := cX6_isSheet) (nL := 1) (ret := (some .boolean)) (by decide) rfl (Nat.le_of_ble_eq_true rfl) ?_
  intro p e s m below meth c ls B hl hK hP
  obtain ⟨hx, hb, hml, hown, hts, hr, hlocks⟩ := B
  have hl : lv_has ls 1 [(0, .int k)] := hl
  have hS : va_S (xA 18 bd) s.heap s.heap [] := va_S.rf
  have hAd : ∀ k, k < 18 → xA 18 bd (bd k) := xA_in
  have hF : CallFix p m c cX6_isSheet 1 s _ wsX6_isSheet RX6 := ⟨hx, hb, hml, hown, hts⟩
  refine lv_iload_n hx hb dX6_isSheet_0 rfl (lv_at hl 0 rfl) ?_
  refine lv_iconst (v := 0) hx hb dX6_isSheet_1 (by decide +kernel) ?_
  refine lv_iconst (v := 3) hx hb dX6_isSheet_2 (by decide +kernel) ?_
  refine x_calli (x_runS (As := [.int k, .int 0, .int 3]) (rest := []) hF (c6_within hI S k 0 3 ) (va_cwS 3 hts gX6_isSheet_X6_within rfl rfl rfl (by decide +kernel) ⟨Nat.le_of_ble_eq_true rfl, Nat.le_of_ble_eq_true rfl⟩) hK hP rfl hl.1 rfl (Nat.le_of_ble_eq_true rfl) dX6_isSheet_3 ⟨Nat.zero_le _, Nat.zero_le _⟩) hS hAd (fun r3 S3 H locs hw hP _ hS => ?_)
  obtain ⟨hw, eS3⟩ := hw
  rw [eS3] at hP
  by_cases q3 : wit k 0 3
  · rw [if_pos q3] at hw
    subst hw
    refine x_zret hx hb hr hlocks hP hS dX6_isSheet_6 (Or.inr rfl) ?_
    exact ⟨by simp [q3], rfl⟩
  · rw [if_neg q3] at hw
    subst hw
    refine x_zret hx hb hr hlocks hP hS dX6_isSheet_6 (Or.inl rfl) ?_
    exact ⟨by simp [q3], rfl⟩

set_option maxHeartbeats 4000000 in
set_option maxRecDepth 100000 in
theorem c6_isSort (hI : xI 18 bd) (S : xSt) (k : Int32) : xMi l yX6_isSort wsX6_isSort ({ frames := 1, cells := 0, slots := 0, locals := 22 }) (dC, dI) vwCl (tyl cI cZ cS cG) (mLy cI cZ bd) 18 bd [.int k] S (fun r S' => r = (if wit k 0 2 then 1 else 0) ∧ S' = S) := by
  refine xM_of (cc := cX6_isSort) (nL := 1) (ret := (some .boolean)) (by decide) rfl (Nat.le_of_ble_eq_true rfl) ?_
  intro p e s m below meth c ls B hl hK hP
  obtain ⟨hx, hb, hml, hown, hts, hr, hlocks⟩ := B
  have hl : lv_has ls 1 [(0, .int k)] := hl
  have hS : va_S (xA 18 bd) s.heap s.heap [] := va_S.rf
  have hAd : ∀ k, k < 18 → xA 18 bd (bd k) := xA_in
  have hF : CallFix p m c cX6_isSort 1 s _ wsX6_isSort RX6 := ⟨hx, hb, hml, hown, hts⟩
  refine lv_iload_n hx hb dX6_isSort_0 rfl (lv_at hl 0 rfl) ?_
  refine lv_iconst (v := 0) hx hb dX6_isSort_1 (by decide +kernel) ?_
  refine lv_iconst (v := 2) hx hb dX6_isSort_2 (by decide +kernel) ?_
  refine x_calli (x_runS (As := [.int k, .int 0, .int 2]) (rest := []) hF (c6_within hI S k 0 2 ) (va_cwS 3 hts gX6_isSort_X6_within rfl rfl rfl (by decide +kernel) ⟨Nat.le_of_ble_eq_true rfl, Nat.le_of_ble_eq_true rfl⟩) hK hP rfl hl.1 rfl (Nat.le_of_ble_eq_true rfl) dX6_isSort_3 ⟨Nat.zero_le _, Nat.zero_le _⟩) hS hAd (fun r3 S3 H locs hw hP _ hS => ?_)
  obtain ⟨hw, eS3⟩ := hw
  rw [eS3] at hP
  by_cases q3 : wit k 0 2
  · rw [if_pos q3] at hw
    subst hw
    refine x_zret hx hb hr hlocks hP hS dX6_isSort_6 (Or.inr rfl) ?_
    exact ⟨by simp [q3], rfl⟩
  · rw [if_neg q3] at hw
    subst hw
    refine x_zret hx hb hr hlocks hP hS dX6_isSort_6 (Or.inl rfl) ?_
    exact ⟨by simp [q3], rfl⟩

set_option maxHeartbeats 4000000 in
set_option maxRecDepth 100000 in
theorem c6_isCourt (hI : xI 18 bd) (S : xSt) (k : Int32) : xMi l yX6_isCourt wsX6_isCourt ({ frames := 0, cells := 0, slots := 0, locals := 0 }) (dC, dI) vwCl (tyl cI cZ cS cG) (mLy cI cZ bd) 18 bd [.ref (bd 0), .int k] S (fun r S' => r = (if inR k (S 0 5) then 1 else 0) ∧ S' = S) := by
  refine xM_of (cc := cX6_isCourt) (nL := 2) (ret := (some .boolean)) (by decide) rfl (Nat.le_of_ble_eq_true rfl) ?_
  intro p e s m below meth c ls B hl hK hP
  obtain ⟨hx, hb, hml, hown, hts, hr, hlocks⟩ := B
  have hl : lv_has ls 2 [(0, .ref (bd 0)), (1, .int k)] := hl
  have hS : va_S (xA 18 bd) s.heap s.heap [] := va_S.rf
  have hAd : ∀ k, k < 18 → xA 18 bd (bd k) := xA_in
  have hinX6 : ∀ w ∈ wsX60, w ∈ wsX6_isCourt := fun _ h => List.mem_cons_of_mem _ (List.mem_append_right _ h)
  have hF : CallFix p m c cX6_isCourt 2 s _ wsX6_isCourt RX6 := ⟨hx, hb, hml, hown, hts⟩
  refine lv_iload_n hx hb dX6_isCourt_0 rfl (lv_at hl 1 rfl) ?_
  refine lv_if_lt (tgt := 16) hx hb dX6_isCourt_1 (by decide) (fun c1 => ?_) (fun c1 => ?_)
  · have d1 := Int32.not_le.mpr c1
    refine lv_iconst (v := 0) hx hb dX6_isCourt_16 (by decide +kernel) ?_
    refine x_zret hx hb hr hlocks hP hS dX6_isCourt_17 (Or.inl rfl) ?_
    skip
    exact ⟨by simp [c1, d1], rfl⟩
  · have d1 := Int32.not_lt.mp c1
    refine lv_iload_n hx hb dX6_isCourt_4 rfl (lv_at hl 1 rfl) ?_
    refine lv_aload_n hx hb dX6_isCourt_5 rfl (lv_at hl 0 rfl) ?_
    refine x_get (v := .int (S 0 5)) hx hb hts hinX6 hown hK hP 0 (by decide) rfl rfl 5 (by decide) (hts _ (List.mem_of_getElem? (i := 1) rfl)) rfl dX6_isCourt_6 ?_
    refine lv_icmp_ge (tgt := 16) hx hb dX6_isCourt_9 (by decide) (fun c9 => ?_) (fun c9 => ?_)
    · have d9 := Int32.not_lt.mpr c9
      refine lv_iconst (v := 0) hx hb dX6_isCourt_16 (by decide +kernel) ?_
      refine x_zret hx hb hr hlocks hP hS dX6_isCourt_17 (Or.inl rfl) ?_
      skip
      exact ⟨by simp [c1, d1, c9, d9], rfl⟩
    · have d9 := Int32.not_le.mp c9
      refine lv_iconst (v := 1) hx hb dX6_isCourt_12 (by decide +kernel) ?_
      refine lv_goto (tgt := 17) hx hb dX6_isCourt_13 (by decide) ?_
      refine x_zret hx hb hr hlocks hP hS dX6_isCourt_17 (Or.inr rfl) ?_
      skip
      exact ⟨by simp [c1, d1, c9, d9], rfl⟩

set_option maxHeartbeats 4000000 in
set_option maxRecDepth 100000 in
theorem c6_isYear (hI : xI 18 bd) (S : xSt) (k : Int32) : xMi l yX6_isYear wsX6_isYear ({ frames := 0, cells := 0, slots := 0, locals := 0 }) (dC, dI) vwCl (tyl cI cZ cS cG) (mLy cI cZ bd) 18 bd [.ref (bd 0), .int k] S (fun r S' => r = (if inR k (S 0 6) then 1 else 0) ∧ S' = S) := by
  refine xM_of (cc := cX6_isYear) (nL := 2) (ret := (some .boolean)) (by decide) rfl (Nat.le_of_ble_eq_true rfl) ?_
  intro p e s m below meth c ls B hl hK hP
  obtain ⟨hx, hb, hml, hown, hts, hr, hlocks⟩ := B
  have hl : lv_has ls 2 [(0, .ref (bd 0)), (1, .int k)] := hl
  have hS : va_S (xA 18 bd) s.heap s.heap [] := va_S.rf
  have hAd : ∀ k, k < 18 → xA 18 bd (bd k) := xA_in
  have hinX6 : ∀ w ∈ wsX60, w ∈ wsX6_isYear := fun _ h => List.mem_cons_of_mem _ (List.mem_append_right _ h)
  have hF : CallFix p m c cX6_isYear 2 s _ wsX6_isYear RX6 := ⟨hx, hb, hml, hown, hts⟩
  refine lv_iload_n hx hb dX6_isYear_0 rfl (lv_at hl 1 rfl) ?_
  refine lv_if_lt (tgt := 16) hx hb dX6_isYear_1 (by decide) (fun c1 => ?_) (fun c1 => ?_)
  · have d1 := Int32.not_le.mpr c1
    refine lv_iconst (v := 0) hx hb dX6_isYear_16 (by decide +kernel) ?_
    refine x_zret hx hb hr hlocks hP hS dX6_isYear_17 (Or.inl rfl) ?_
    skip
    exact ⟨by simp [c1, d1], rfl⟩
  · have d1 := Int32.not_lt.mp c1
    refine lv_iload_n hx hb dX6_isYear_4 rfl (lv_at hl 1 rfl) ?_
    refine lv_aload_n hx hb dX6_isYear_5 rfl (lv_at hl 0 rfl) ?_
    refine x_get (v := .int (S 0 6)) hx hb hts hinX6 hown hK hP 0 (by decide) rfl rfl 6 (by decide) (hts _ (List.mem_of_getElem? (i := 1) rfl)) rfl dX6_isYear_6 ?_
    refine lv_icmp_ge (tgt := 16) hx hb dX6_isYear_9 (by decide) (fun c9 => ?_) (fun c9 => ?_)
    · have d9 := Int32.not_lt.mpr c9
      refine lv_iconst (v := 0) hx hb dX6_isYear_16 (by decide +kernel) ?_
      refine x_zret hx hb hr hlocks hP hS dX6_isYear_17 (Or.inl rfl) ?_
      skip
      exact ⟨by simp [c1, d1, c9, d9], rfl⟩
    · have d9 := Int32.not_le.mp c9
      refine lv_iconst (v := 1) hx hb dX6_isYear_12 (by decide +kernel) ?_
      refine lv_goto (tgt := 17) hx hb dX6_isYear_13 (by decide) ?_
      refine x_zret hx hb hr hlocks hP hS dX6_isYear_17 (Or.inr rfl) ?_
      skip
      exact ⟨by simp [c1, d1, c9, d9], rfl⟩

set_option maxHeartbeats 4000000 in
set_option maxRecDepth 100000 in
theorem c6_isSon (hI : xI 18 bd) (S : xSt) (k : Int32) : xMi l yX6_isSon wsX6_isSon ({ frames := 0, cells := 0, slots := 0, locals := 0 }) (dC, dI) vwCl (tyl cI cZ cS cG) (mLy cI cZ bd) 18 bd [.ref (bd 0), .int k] S (fun r S' => r = (if inR k (S 0 7) then 1 else 0) ∧ S' = S) := by
  refine xM_of (cc := cX6_isSon) (nL := 2) (ret := (some .boolean)) (by decide) rfl (Nat.le_of_ble_eq_true rfl) ?_
  intro p e s m below meth c ls B hl hK hP
  obtain ⟨hx, hb, hml, hown, hts, hr, hlocks⟩ := B
  have hl : lv_has ls 2 [(0, .ref (bd 0)), (1, .int k)] := hl
  have hS : va_S (xA 18 bd) s.heap s.heap [] := va_S.rf
  have hAd : ∀ k, k < 18 → xA 18 bd (bd k) := xA_in
  have hinX6 : ∀ w ∈ wsX60, w ∈ wsX6_isSon := fun _ h => List.mem_cons_of_mem _ (List.mem_append_right _ h)
  have hF : CallFix p m c cX6_isSon 2 s _ wsX6_isSon RX6 := ⟨hx, hb, hml, hown, hts⟩
  refine lv_iload_n hx hb dX6_isSon_0 rfl (lv_at hl 1 rfl) ?_
  refine lv_if_lt (tgt := 16) hx hb dX6_isSon_1 (by decide) (fun c1 => ?_) (fun c1 => ?_)
  · have d1 := Int32.not_le.mpr c1
    refine lv_iconst (v := 0) hx hb dX6_isSon_16 (by decide +kernel) ?_
    refine x_zret hx hb hr hlocks hP hS dX6_isSon_17 (Or.inl rfl) ?_
    skip
    exact ⟨by simp [c1, d1], rfl⟩
  · have d1 := Int32.not_lt.mp c1
    refine lv_iload_n hx hb dX6_isSon_4 rfl (lv_at hl 1 rfl) ?_
    refine lv_aload_n hx hb dX6_isSon_5 rfl (lv_at hl 0 rfl) ?_
    refine x_get (v := .int (S 0 7)) hx hb hts hinX6 hown hK hP 0 (by decide) rfl rfl 7 (by decide) (hts _ (List.mem_of_getElem? (i := 1) rfl)) rfl dX6_isSon_6 ?_
    refine lv_icmp_ge (tgt := 16) hx hb dX6_isSon_9 (by decide) (fun c9 => ?_) (fun c9 => ?_)
    · have d9 := Int32.not_lt.mpr c9
      refine lv_iconst (v := 0) hx hb dX6_isSon_16 (by decide +kernel) ?_
      refine x_zret hx hb hr hlocks hP hS dX6_isSon_17 (Or.inl rfl) ?_
      skip
      exact ⟨by simp [c1, d1, c9, d9], rfl⟩
    · have d9 := Int32.not_le.mp c9
      refine lv_iconst (v := 1) hx hb dX6_isSon_12 (by decide +kernel) ?_
      refine lv_goto (tgt := 17) hx hb dX6_isSon_13 (by decide) ?_
      refine x_zret hx hb hr hlocks hP hS dX6_isSon_17 (Or.inr rfl) ?_
      skip
      exact ⟨by simp [c1, d1, c9, d9], rfl⟩

set_option maxHeartbeats 4000000 in
set_option maxRecDepth 100000 in
theorem c6_begins (hI : xI 18 bd) (S : xSt) (k : Int32) : xMv l yX6_begins wsX6_begins ({ frames := 0, cells := 0, slots := 0, locals := 0 }) (dC, dI) vwCl (tyl cI cZ cS cG) (mLy cI cZ bd) 18 bd [.ref (bd 0), .int k] S (fun S' => S' = su S 0 1 (31 * S 0 1 + k)) := by
  refine xM_of (cc := cX6_begins) (nL := 2) (ret := none) (by decide) rfl (Nat.le_of_ble_eq_true rfl) ?_
  intro p e s m below meth c ls B hl hK hP
  obtain ⟨hx, hb, hml, hown, hts, hr, hlocks⟩ := B
  have hl : lv_has ls 2 [(0, .ref (bd 0)), (1, .int k)] := hl
  have hS : va_S (xA 18 bd) s.heap s.heap [] := va_S.rf
  have hAd : ∀ k, k < 18 → xA 18 bd (bd k) := xA_in
  have hinX6 : ∀ w ∈ wsX60, w ∈ wsX6_begins := fun _ h => List.mem_cons_of_mem _ (List.mem_append_right _ h)
  have hF : CallFix p m c cX6_begins 2 s _ wsX6_begins RX6 := ⟨hx, hb, hml, hown, hts⟩
  refine lv_aload_n hx hb dX6_begins_0 rfl (lv_at hl 0 rfl) ?_
  refine lv_bipush (v := 31) hx hb dX6_begins_1 (by decide +kernel) ?_
  refine lv_aload_n hx hb dX6_begins_3 rfl (lv_at hl 0 rfl) ?_
  refine x_get (v := .int (S 0 1)) hx hb hts hinX6 hown hK hP 0 (by decide) rfl rfl 1 (by decide) (hts _ (List.mem_of_getElem? (i := 1) rfl)) rfl dX6_begins_4 ?_
  refine lv_imul hx hb dX6_begins_7 ?_
  refine lv_iload_n hx hb dX6_begins_8 rfl (lv_at hl 1 rfl) ?_
  refine lv_iadd hx hb dX6_begins_9 ?_
  refine x_put hx hb hts hinX6 tyX6 tyX6_ok nmX6 hown hK hI hAd hP hS 0 (by decide) rfl rfl 1 (by decide) (hts _ (List.mem_of_getElem? (i := 1) rfl)) rfl (upd (S 0) 1 ((31 * (S 0 1)) + k)) rfl rfl rfl (Nat.le_of_ble_eq_true rfl) dX6_begins_10 (fun H locs hP hS => ?_)
  have hP : va_P (dC, dI) vwCl (xW (mLy cI cZ bd) 18 bd (su S 0 1 ((31 * (S 0 1)) + k))) H := hP
  refine x_vret hx hb hr hlocks hP hS dX6_begins_13 ?_
  exact rfl

set_option maxHeartbeats 4000000 in
set_option maxRecDepth 100000 in
theorem c6_trace (hI : xI 18 bd) (S : xSt) : xMi l yX6_trace wsX6_trace ({ frames := 0, cells := 0, slots := 0, locals := 0 }) (dC, dI) vwCl (tyl cI cZ cS cG) (mLy cI cZ bd) 18 bd [.ref (bd 0)] S (fun r S' => r = S 0 1 ∧ S' = S) := by
  refine xM_of (cc := cX6_trace) (nL := 1) (ret := (some .int)) (by decide) rfl (Nat.le_of_ble_eq_true rfl) ?_
  intro p e s m below meth c ls B hl hK hP
  obtain ⟨hx, hb, hml, hown, hts, hr, hlocks⟩ := B
  have hl : lv_has ls 1 [(0, .ref (bd 0))] := hl
  have hS : va_S (xA 18 bd) s.heap s.heap [] := va_S.rf
  have hAd : ∀ k, k < 18 → xA 18 bd (bd k) := xA_in
  have hinX6 : ∀ w ∈ wsX60, w ∈ wsX6_trace := fun _ h => List.mem_cons_of_mem _ (List.mem_append_right _ h)
  have hF : CallFix p m c cX6_trace 1 s _ wsX6_trace RX6 := ⟨hx, hb, hml, hown, hts⟩
  refine lv_aload_n hx hb dX6_trace_0 rfl (lv_at hl 0 rfl) ?_
  refine x_get (v := .int (S 0 1)) hx hb hts hinX6 hown hK hP 0 (by decide) rfl rfl 1 (by decide) (hts _ (List.mem_of_getElem? (i := 1) rfl)) rfl dX6_trace_1 ?_
  refine x_iret hx hb hr hlocks hP hS dX6_trace_4 ?_
  exact ⟨rfl, rfl⟩

set_option maxHeartbeats 4000000 in
set_option maxRecDepth 100000 in
theorem c6_fault (hI : xI 18 bd) (S : xSt) : xMi l yX6_fault wsX6_fault ({ frames := 0, cells := 0, slots := 0, locals := 0 }) (dC, dI) vwCl (tyl cI cZ cS cG) (mLy cI cZ bd) 18 bd [.ref (bd 0)] S (fun r S' => r = S 0 0 ∧ S' = S) := by
  refine xM_of (cc := cX6_fault) (nL := 1) (ret := (some .int)) (by decide) rfl (Nat.le_of_ble_eq_true rfl) ?_
  intro p e s m below meth c ls B hl hK hP
  obtain ⟨hx, hb, hml, hown, hts, hr, hlocks⟩ := B
  have hl : lv_has ls 1 [(0, .ref (bd 0))] := hl
  have hS : va_S (xA 18 bd) s.heap s.heap [] := va_S.rf
  have hAd : ∀ k, k < 18 → xA 18 bd (bd k) := xA_in
  have hinX6 : ∀ w ∈ wsX60, w ∈ wsX6_fault := fun _ h => List.mem_cons_of_mem _ (List.mem_append_right _ h)
  have hF : CallFix p m c cX6_fault 1 s _ wsX6_fault RX6 := ⟨hx, hb, hml, hown, hts⟩
  refine lv_aload_n hx hb dX6_fault_0 rfl (lv_at hl 0 rfl) ?_
  refine x_get (v := .int (S 0 0)) hx hb hts hinX6 hown hK hP 0 (by decide) rfl rfl 0 (by decide) (hts _ (List.mem_of_getElem? (i := 1) rfl)) rfl dX6_fault_1 ?_
  refine x_iret hx hb hr hlocks hP hS dX6_fault_4 ?_
  exact ⟨rfl, rfl⟩

set_option maxHeartbeats 4000000 in
set_option maxRecDepth 100000 in
theorem c6_stakeBy (hI : xI 18 bd) (S : xSt) (j : Nat) (f y : Int32) (hj : j < 6) : xMi l yX6_stakeBy wsX6_stakeBy ({ frames := 0, cells := 0, slots := 0, locals := 0 }) (dC, dI) vwCl (tyl cI cZ cS cG) (mLy cI cZ bd) 18 bd [.ref (bd 0), .int (nI j), .int f, .int y] S (fun r S' => r = stake1 (S 7 j) (S 8 j) (S 5 j) (y - f) ∧ S' = S) := by
  refine xM_of (cc := cX6_stakeBy) (nL := 5) (ret := (some .int)) (by decide) rfl (Nat.le_of_ble_eq_true rfl) ?_
  intro p e s m below meth c ls B hl hK hP
  obtain ⟨hx, hb, hml, hown, hts, hr, hlocks⟩ := B
  have hl : lv_has ls 5 [(0, .ref (bd 0)), (1, .int (nI j)), (2, .int f), (3, .int y)] := hl
  have hS : va_S (xA 18 bd) s.heap s.heap [] := va_S.rf
  have hAd : ∀ k, k < 18 → xA 18 bd (bd k) := xA_in
  have hinX6 : ∀ w ∈ wsX60, w ∈ wsX6_stakeBy := fun _ h => List.mem_cons_of_mem _ (List.mem_append_right _ h)
  have hF : CallFix p m c cX6_stakeBy 5 s _ wsX6_stakeBy RX6 := ⟨hx, hb, hml, hown, hts⟩
  refine lv_aload_n hx hb dX6_stakeBy_0 rfl (lv_at hl 0 rfl) ?_
  refine x_get (v := .ref (bd 7)) hx hb hts hinX6 hown hK hP 0 (by decide) rfl rfl 11 (by decide) (hts _ (List.mem_of_getElem? (i := 1) rfl)) rfl dX6_stakeBy_1 ?_
  refine lv_iload_n hx hb dX6_stakeBy_4 rfl (lv_at hl 1 rfl) ?_
  refine x_iald (v := S 7 j) hx hb hK hP 7 0 (by decide) rfl rfl j rfl (by omega) (by decide) rfl dX6_stakeBy_5 ?_
  refine lv_aload_n hx hb dX6_stakeBy_6 rfl (lv_at hl 0 rfl) ?_
  refine x_get (v := .ref (bd 8)) hx hb hts hinX6 hown hK hP 0 (by decide) rfl rfl 12 (by decide) (hts _ (List.mem_of_getElem? (i := 2) rfl)) rfl dX6_stakeBy_7 ?_
  refine lv_iload_n hx hb dX6_stakeBy_10 rfl (lv_at hl 1 rfl) ?_
  refine x_iald (v := S 8 j) hx hb hK hP 8 0 (by decide) rfl rfl j rfl (by omega) (by decide) rfl dX6_stakeBy_11 ?_
  refine lv_iload_n hx hb dX6_stakeBy_12 rfl (lv_at hl 3 rfl) ?_
  refine lv_iload_n hx hb dX6_stakeBy_13 rfl (lv_at hl 2 rfl) ?_
  refine lv_isub hx hb dX6_stakeBy_14 ?_
  refine lv_imul hx hb dX6_stakeBy_15 ?_
  refine lv_isub hx hb dX6_stakeBy_16 ?_
  refine lv_topi (fun x17 ex17 => ?_)
  refine lv_istore (lv' := [(4, .int x17), (0, .ref (bd 0)), (1, .int (nI j)), (2, .int f), (3, .int y)]) hx hb dX6_stakeBy_17 hl (by decide) rfl (fun ls hl => ?_)
  refine lv_iload hx hb dX6_stakeBy_19 (lv_at hl 0 rfl) ?_
  refine lv_if_ge (tgt := 28) hx hb dX6_stakeBy_21 (by decide) (fun c21 => ?_) (fun c21 => ?_)
  · have d21 := Int32.not_lt.mpr c21
    refine lv_iload hx hb dX6_stakeBy_28 (lv_at hl 0 rfl) ?_
    refine lv_istore (lv' := [(4, .int x17), (0, .ref (bd 0)), (1, .int (nI j)), (2, .int f), (3, .int y)]) hx hb dX6_stakeBy_30 hl (by decide) rfl (fun ls hl => ?_)
    refine lv_aload_n hx hb dX6_stakeBy_32 rfl (lv_at hl 1 rfl) ?_
    refine x_get (v := .ref (bd 5)) hx hb hts hinX6 hown hK hP 0 (by decide) rfl rfl 9 (by decide) (hts _ (List.mem_of_getElem? (i := 3) rfl)) rfl dX6_stakeBy_33 ?_
    refine lv_iload_n hx hb dX6_stakeBy_36 rfl (lv_at hl 2 rfl) ?_
    refine x_iald (v := S 5 j) hx hb hK hP 5 0 (by decide) rfl rfl j rfl (by omega) (by decide) rfl dX6_stakeBy_37 ?_
    refine lv_if_ne (tgt := 46) hx hb dX6_stakeBy_38 (by decide) (fun c38 => ?_) (fun c38 => ?_)
    · refine lv_aload_n hx hb dX6_stakeBy_46 rfl (lv_at hl 1 rfl) ?_
      refine x_get (v := .ref (bd 5)) hx hb hts hinX6 hown hK hP 0 (by decide) rfl rfl 9 (by decide) (hts _ (List.mem_of_getElem? (i := 3) rfl)) rfl dX6_stakeBy_47 ?_
      refine lv_iload_n hx hb dX6_stakeBy_50 rfl (lv_at hl 2 rfl) ?_
      refine x_iald (v := S 5 j) hx hb hK hP 5 0 (by decide) rfl rfl j rfl (by omega) (by decide) rfl dX6_stakeBy_51 ?_
      refine lv_iconst (v := 1) hx hb dX6_stakeBy_52 (by decide +kernel) ?_
      refine lv_icmp_ne (tgt := 63) hx hb dX6_stakeBy_53 (by decide) (fun c53 => ?_) (fun c53 => ?_)
      · refine lv_iload hx hb dX6_stakeBy_63 (lv_at hl 0 rfl) ?_
        refine lv_iconst (v := 2) hx hb dX6_stakeBy_65 (by decide +kernel) ?_
        refine lv_idiv hx hb dX6_stakeBy_66 (by decide +kernel) ?_
        refine x_iret hx hb hr hlocks hP hS dX6_stakeBy_67 ?_
        subst ex17
        exact ⟨by simp [stake1, c21, d21, c38, c53], rfl⟩
      · refine lv_iload hx hb dX6_stakeBy_56 (lv_at hl 0 rfl) ?_
        refine lv_iconst (v := 2) hx hb dX6_stakeBy_58 (by decide +kernel) ?_
        refine lv_iadd hx hb dX6_stakeBy_59 ?_
        refine lv_goto (tgt := 67) hx hb dX6_stakeBy_60 (by decide) ?_
        refine x_iret hx hb hr hlocks hP hS dX6_stakeBy_67 ?_
        subst ex17
        exact ⟨by simp [stake1, c21, d21, c38, c53], rfl⟩
    · refine lv_iload hx hb dX6_stakeBy_41 (lv_at hl 0 rfl) ?_
      refine lv_goto (tgt := 67) hx hb dX6_stakeBy_43 (by decide) ?_
      refine x_iret hx hb hr hlocks hP hS dX6_stakeBy_67 ?_
      subst ex17
      exact ⟨by simp [stake1, c21, d21, c38], rfl⟩
  · have d21 := Int32.not_le.mp c21
    refine lv_iconst (v := 0) hx hb dX6_stakeBy_24 (by decide +kernel) ?_
    refine lv_goto (tgt := 30) hx hb dX6_stakeBy_25 (by decide) ?_
    refine lv_istore (lv' := [(4, .int 0), (0, .ref (bd 0)), (1, .int (nI j)), (2, .int f), (3, .int y)]) hx hb dX6_stakeBy_30 hl (by decide) rfl (fun ls hl => ?_)
    refine lv_aload_n hx hb dX6_stakeBy_32 rfl (lv_at hl 1 rfl) ?_
    refine x_get (v := .ref (bd 5)) hx hb hts hinX6 hown hK hP 0 (by decide) rfl rfl 9 (by decide) (hts _ (List.mem_of_getElem? (i := 3) rfl)) rfl dX6_stakeBy_33 ?_
    refine lv_iload_n hx hb dX6_stakeBy_36 rfl (lv_at hl 2 rfl) ?_
    refine x_iald (v := S 5 j) hx hb hK hP 5 0 (by decide) rfl rfl j rfl (by omega) (by decide) rfl dX6_stakeBy_37 ?_
    refine lv_if_ne (tgt := 46) hx hb dX6_stakeBy_38 (by decide) (fun c38 => ?_) (fun c38 => ?_)
    · refine lv_aload_n hx hb dX6_stakeBy_46 rfl (lv_at hl 1 rfl) ?_
      refine x_get (v := .ref (bd 5)) hx hb hts hinX6 hown hK hP 0 (by decide) rfl rfl 9 (by decide) (hts _ (List.mem_of_getElem? (i := 3) rfl)) rfl dX6_stakeBy_47 ?_
      refine lv_iload_n hx hb dX6_stakeBy_50 rfl (lv_at hl 2 rfl) ?_
      refine x_iald (v := S 5 j) hx hb hK hP 5 0 (by decide) rfl rfl j rfl (by omega) (by decide) rfl dX6_stakeBy_51 ?_
      refine lv_iconst (v := 1) hx hb dX6_stakeBy_52 (by decide +kernel) ?_
      refine lv_icmp_ne (tgt := 63) hx hb dX6_stakeBy_53 (by decide) (fun c53 => ?_) (fun c53 => ?_)
      · refine lv_iload hx hb dX6_stakeBy_63 (lv_at hl 0 rfl) ?_
        refine lv_iconst (v := 2) hx hb dX6_stakeBy_65 (by decide +kernel) ?_
        refine lv_idiv hx hb dX6_stakeBy_66 (by decide +kernel) ?_
        refine x_iret hx hb hr hlocks hP hS dX6_stakeBy_67 ?_
        subst ex17
        exact ⟨by simp [stake1, c21, d21, c38, c53], rfl⟩
      · refine lv_iload hx hb dX6_stakeBy_56 (lv_at hl 0 rfl) ?_
        refine lv_iconst (v := 2) hx hb dX6_stakeBy_58 (by decide +kernel) ?_
        refine lv_iadd hx hb dX6_stakeBy_59 ?_
        refine lv_goto (tgt := 67) hx hb dX6_stakeBy_60 (by decide) ?_
        refine x_iret hx hb hr hlocks hP hS dX6_stakeBy_67 ?_
        subst ex17
        exact ⟨by simp [stake1, c21, d21, c38, c53], rfl⟩
    · refine lv_iload hx hb dX6_stakeBy_41 (lv_at hl 0 rfl) ?_
      refine lv_goto (tgt := 67) hx hb dX6_stakeBy_43 (by decide) ?_
      refine x_iret hx hb hr hlocks hP hS dX6_stakeBy_67 ?_
      subst ex17
      exact ⟨by simp [stake1, c21, d21, c38], rfl⟩

end M1
end
section
section M2
variable {l : Launch} {dC : Nat → ClassId} {dI : Nat → Nat → Nat} {cI cZ cS cG : ClassId} {ad bd : Nat → Nat}
set_option maxHeartbeats 4000000 in
set_option maxRecDepth 100000 in
theorem c6_askNow (hI : xI 18 bd) (S : xSt) (N : Nat) (hN : S 0 7 = nI N) (hN5 : N ≤ 5) : xMv l yX6_askNow wsX6_askNow ({ frames := 0, cells := 0, slots := 0, locals := 0 }) (dC, dI) vwCl (tyl cI cZ cS cG) (mLy cI cZ bd) 18 bd [.ref (bd 0)] S (fun S' => S' = sr S 13 (askF S N)) := by
  refine xM_of (cc := cX6_askNow) (nL := 2) (ret := none) (by decide) rfl (Nat.le_of_ble_eq_true rfl) ?_
  intro p e s m below meth c ls B hl hK hP
  obtain ⟨hx, hb, hml, hown, hts, hr, hlocks⟩ := B
  have hl : lv_has ls 2 [(0, .ref (bd 0))] := hl
  have hS : va_S (xA 18 bd) s.heap s.heap [] := va_S.rf
  have hAd : ∀ k, k < 18 → xA 18 bd (bd k) := xA_in
  have hinX6 : ∀ w ∈ wsX60, w ∈ wsX6_askNow := fun _ h => List.mem_cons_of_mem _ (List.mem_append_right _ h)
  have hF : CallFix p m c cX6_askNow 2 s _ wsX6_askNow RX6 := ⟨hx, hb, hml, hown, hts⟩
  have L2 : ∀ (n : Nat) (i : Nat) (hi : i + n = N) (H : Heap) (locs : List Loc) (ls : Array Slot), va_P (dC, dI) vwCl (xW (mLy cI cZ bd) 18 bd (sr S 13 (fil (fun s => if S 10 s = -9 then S 0 6 else S 10 s) (S 13) i))) H → va_S (xA 18 bd) s.heap H locs → lv_has ls 2 [(0, .ref (bd 0)), (1, .int (nI i))] → W p l e ({ frames := 0, cells := 0, slots := 0, locals := 0 }) s m ([.ref (bd 0)] : List Value).toArray below meth c H locs 0 0 (MQ below (xQv (dC, dI) vwCl (mLy cI cZ bd) 18 bd (fun S' => S' = sr S 13 (askF S N))) ([.ref (bd 0)] : List Value).toArray s 0 0 (xA 18 bd)) (F0 m 2 ls []) := by
    intro n
    induction n with
    | zero =>
      intro i hi H locs ls hP hS hl
      refine lv_iload_n hx hb dX6_askNow_2 rfl (lv_at hl 1 rfl) ?_
      refine lv_aload_n hx hb dX6_askNow_3 rfl (lv_at hl 0 rfl) ?_
      refine x_get (v := .int (nI N)) hx hb hts hinX6 hown hK hP 0 (by decide) rfl rfl 7 (by decide) (hts _ (List.mem_of_getElem? (i := 1) rfl)) (congrArg (fun z => some (Value.int z)) hN) dX6_askNow_4 ?_
      refine lv_icmp_ge (tgt := 46) hx hb dX6_askNow_7 (by decide) (fun _ => ?_) (fun hc => absurd (nI_le (by omega) (by omega)) hc)
      refine x_vret hx hb hr hlocks hP hS dX6_askNow_46 ?_
      exact (by rw [show i = N by omega]; rfl)
    | succ n ih =>
      intro i hi H locs ls hP hS hl
      refine lv_iload_n hx hb dX6_askNow_2 rfl (lv_at hl 1 rfl) ?_
      refine lv_aload_n hx hb dX6_askNow_3 rfl (lv_at hl 0 rfl) ?_
      refine x_get (v := .int (nI N)) hx hb hts hinX6 hown hK hP 0 (by decide) rfl rfl 7 (by decide) (hts _ (List.mem_of_getElem? (i := 1) rfl)) (congrArg (fun z => some (Value.int z)) hN) dX6_askNow_4 ?_
      refine lv_icmp_ge (tgt := 46) hx hb dX6_askNow_7 (by decide) (fun hc => absurd hc (nI_ge (by omega) (by omega))) (fun _ => ?_)
      refine lv_aload_n hx hb dX6_askNow_10 rfl (lv_at hl 0 rfl) ?_
      refine x_get (v := .ref (bd 13)) hx hb hts hinX6 hown hK hP 0 (by decide) rfl rfl 21 (by decide) (hts _ (List.mem_of_getElem? (i := 2) rfl)) rfl dX6_askNow_11 ?_
      refine lv_iload_n hx hb dX6_askNow_14 rfl (lv_at hl 1 rfl) ?_
      refine lv_aload_n hx hb dX6_askNow_15 rfl (lv_at hl 0 rfl) ?_
      refine x_get (v := .ref (bd 10)) hx hb hts hinX6 hown hK hP 0 (by decide) rfl rfl 14 (by decide) (hts _ (List.mem_of_getElem? (i := 3) rfl)) rfl dX6_askNow_16 ?_
      refine lv_iload_n hx hb dX6_askNow_19 rfl (lv_at hl 1 rfl) ?_
      refine x_iald (v := S 10 i) hx hb hK hP 10 0 (by decide) rfl rfl i rfl (by omega) (by decide) rfl dX6_askNow_20 ?_
      refine lv_bipush (v := (-9)) hx hb dX6_askNow_21 (by decide +kernel) ?_
      refine lv_icmp_ne (tgt := 33) hx hb dX6_askNow_23 (by decide) (fun c23 => ?_) (fun c23 => ?_)
      · refine lv_aload_n hx hb dX6_askNow_33 rfl (lv_at hl 0 rfl) ?_
        refine x_get (v := .ref (bd 10)) hx hb hts hinX6 hown hK hP 0 (by decide) rfl rfl 14 (by decide) (hts _ (List.mem_of_getElem? (i := 3) rfl)) rfl dX6_askNow_34 ?_
        refine lv_iload_n hx hb dX6_askNow_37 rfl (lv_at hl 1 rfl) ?_
        refine x_iald (v := S 10 i) hx hb hK hP 10 0 (by decide) rfl rfl i rfl (by omega) (by decide) rfl dX6_askNow_38 ?_
        refine x_iast hx hb hK hI hAd hP hS 13 0 (by decide) (fun _ => rfl) rfl i rfl (by omega) (by decide) dX6_askNow_39 (fun H locs hP hS => ?_)
        refine lv_iinc (v := nI (i + 1)) (lv' := [(1, .int (nI (i + 1))), (0, .ref (bd 0))]) hx hb dX6_askNow_40 hl (k := 1) rfl (nI_1 _) (by decide) rfl (fun ls hl => ?_)
        refine lv_goto (tgt := 2) hx hb dX6_askNow_43 (by decide) ?_
        have eST : (su (sr S 13 (fil (fun s => if S 10 s = -9 then S 0 6 else S 10 s) (S 13) i)) 13 i (S 10 i)) = (sr S 13 (fil (fun s => if S 10 s = -9 then S 0 6 else S 10 s) (S 13) (i + 1))) := su_fil (by simp [c23])
        rw [eST] at hP
        exact ih (i + 1) (by omega) H locs ls hP hS (lv_sub hl [1, 0] rfl)
      · refine lv_aload_n hx hb dX6_askNow_26 rfl (lv_at hl 0 rfl) ?_
        refine x_get (v := .int (S 0 6)) hx hb hts hinX6 hown hK hP 0 (by decide) rfl rfl 6 (by decide) (hts _ (List.mem_of_getElem? (i := 4) rfl)) rfl dX6_askNow_27 ?_
        refine lv_goto (tgt := 39) hx hb dX6_askNow_30 (by decide) ?_
        refine x_iast hx hb hK hI hAd hP hS 13 0 (by decide) (fun _ => rfl) rfl i rfl (by omega) (by decide) dX6_askNow_39 (fun H locs hP hS => ?_)
        refine lv_iinc (v := nI (i + 1)) (lv' := [(1, .int (nI (i + 1))), (0, .ref (bd 0))]) hx hb dX6_askNow_40 hl (k := 1) rfl (nI_1 _) (by decide) rfl (fun ls hl => ?_)
        refine lv_goto (tgt := 2) hx hb dX6_askNow_43 (by decide) ?_
        have eST : (su (sr S 13 (fil (fun s => if S 10 s = -9 then S 0 6 else S 10 s) (S 13) i)) 13 i (S 0 6)) = (sr S 13 (fil (fun s => if S 10 s = -9 then S 0 6 else S 10 s) (S 13) (i + 1))) := su_fil (by simp [c23])
        rw [eST] at hP
        exact ih (i + 1) (by omega) H locs ls hP hS (lv_sub hl [1, 0] rfl)
  refine lv_iconst (v := 0) hx hb dX6_askNow_0 (by decide +kernel) ?_
  refine lv_istore_n (lv' := [(1, .int 0), (0, .ref (bd 0))]) hx hb dX6_askNow_1 rfl hl (by decide) rfl (fun ls hl => ?_)
  have hP : va_P (dC, dI) vwCl (xW (mLy cI cZ bd) 18 bd (sr S 13 (fil (fun s => if S 10 s = -9 then S 0 6 else S 10 s) (S 13) 0))) s.heap := by rw [fil_0, sr_same]; exact hP
  exact L2 N 0 (Nat.zero_add N) _ _ ls hP hS (lv_sub hl [1, 0] rfl)

set_option maxHeartbeats 4000000 in
set_option maxRecDepth 100000 in
theorem c6_askSet (hI : xI 18 bd) (S : xSt) (N : Nat) (hN : S 0 7 = nI N) (hN5 : N ≤ 5) (v : Int32) : xMv l yX6_askSet wsX6_askSet ({ frames := 0, cells := 0, slots := 0, locals := 0 }) (dC, dI) vwCl (tyl cI cZ cS cG) (mLy cI cZ bd) 18 bd [.ref (bd 0), .int v] S (fun S' => S' = sr S 13 (askG S N v)) := by
  refine xM_of (cc := cX6_askSet) (nL := 3) (ret := none) (by decide) rfl (Nat.le_of_ble_eq_true rfl) ?_
  intro p e s m below meth c ls B hl hK hP
  obtain ⟨hx, hb, hml, hown, hts, hr, hlocks⟩ := B
  have hl : lv_has ls 3 [(0, .ref (bd 0)), (1, .int v)] := hl
  have hS : va_S (xA 18 bd) s.heap s.heap [] := va_S.rf
  have hAd : ∀ k, k < 18 → xA 18 bd (bd k) := xA_in
  have hinX6 : ∀ w ∈ wsX60, w ∈ wsX6_askSet := fun _ h => List.mem_cons_of_mem _ (List.mem_append_right _ h)
  have hF : CallFix p m c cX6_askSet 3 s _ wsX6_askSet RX6 := ⟨hx, hb, hml, hown, hts⟩
  have L2 : ∀ (n : Nat) (i : Nat) (hi : i + n = N) (H : Heap) (locs : List Loc) (ls : Array Slot), va_P (dC, dI) vwCl (xW (mLy cI cZ bd) 18 bd (sr S 13 (fil (fun s => if v >>> (nI s &&& 31) &&& 1 = 1 then 0 else S 0 6) (S 13) i))) H → va_S (xA 18 bd) s.heap H locs → lv_has ls 3 [(0, .ref (bd 0)), (1, .int v), (2, .int (nI i))] → W p l e ({ frames := 0, cells := 0, slots := 0, locals := 0 }) s m ([.ref (bd 0), .int v] : List Value).toArray below meth c H locs 0 0 (MQ below (xQv (dC, dI) vwCl (mLy cI cZ bd) 18 bd (fun S' => S' = sr S 13 (askG S N v))) ([.ref (bd 0), .int v] : List Value).toArray s 0 0 (xA 18 bd)) (F0 m 2 ls []) := by
    intro n
    induction n with
    | zero =>
      intro i hi H locs ls hP hS hl
      refine lv_iload_n hx hb dX6_askSet_2 rfl (lv_at hl 2 rfl) ?_
      refine lv_aload_n hx hb dX6_askSet_3 rfl (lv_at hl 0 rfl) ?_
      refine x_get (v := .int (nI N)) hx hb hts hinX6 hown hK hP 0 (by decide) rfl rfl 7 (by decide) (hts _ (List.mem_of_getElem? (i := 1) rfl)) (congrArg (fun z => some (Value.int z)) hN) dX6_askSet_4 ?_
      refine lv_icmp_ge (tgt := 39) hx hb dX6_askSet_7 (by decide) (fun _ => ?_) (fun hc => absurd (nI_le (by omega) (by omega)) hc)
      refine x_vret hx hb hr hlocks hP hS dX6_askSet_39 ?_
      exact (by rw [show i = N by omega]; rfl)
    | succ n ih =>
      intro i hi H locs ls hP hS hl
      refine lv_iload_n hx hb dX6_askSet_2 rfl (lv_at hl 2 rfl) ?_
      refine lv_aload_n hx hb dX6_askSet_3 rfl (lv_at hl 0 rfl) ?_
      refine x_get (v := .int (nI N)) hx hb hts hinX6 hown hK hP 0 (by decide) rfl rfl 7 (by decide) (hts _ (List.mem_of_getElem? (i := 1) rfl)) (congrArg (fun z => some (Value.int z)) hN) dX6_askSet_4 ?_
      refine lv_icmp_ge (tgt := 39) hx hb dX6_askSet_7 (by decide) (fun hc => absurd hc (nI_ge (by omega) (by omega))) (fun _ => ?_)
      refine lv_aload_n hx hb dX6_askSet_10 rfl (lv_at hl 0 rfl) ?_
      refine x_get (v := .ref (bd 13)) hx hb hts hinX6 hown hK hP 0 (by decide) rfl rfl 21 (by decide) (hts _ (List.mem_of_getElem? (i := 2) rfl)) rfl dX6_askSet_11 ?_
      refine lv_iload_n hx hb dX6_askSet_14 rfl (lv_at hl 2 rfl) ?_
      refine lv_iload_n hx hb dX6_askSet_15 rfl (lv_at hl 1 rfl) ?_
      refine lv_iload_n hx hb dX6_askSet_16 rfl (lv_at hl 2 rfl) ?_
      refine lv_ishr hx hb dX6_askSet_17 ?_
      refine lv_iconst (v := 1) hx hb dX6_askSet_18 (by decide +kernel) ?_
      refine lv_iand hx hb dX6_askSet_19 ?_
      refine lv_iconst (v := 1) hx hb dX6_askSet_20 (by decide +kernel) ?_
      refine lv_icmp_ne (tgt := 28) hx hb dX6_askSet_21 (by decide) (fun c21 => ?_) (fun c21 => ?_)
      · refine lv_aload_n hx hb dX6_askSet_28 rfl (lv_at hl 0 rfl) ?_
        refine x_get (v := .int (S 0 6)) hx hb hts hinX6 hown hK hP 0 (by decide) rfl rfl 6 (by decide) (hts _ (List.mem_of_getElem? (i := 3) rfl)) rfl dX6_askSet_29 ?_
        refine x_iast hx hb hK hI hAd hP hS 13 0 (by decide) (fun _ => rfl) rfl i rfl (by omega) (by decide) dX6_askSet_32 (fun H locs hP hS => ?_)
        refine lv_iinc (v := nI (i + 1)) (lv' := [(2, .int (nI (i + 1))), (0, .ref (bd 0)), (1, .int v)]) hx hb dX6_askSet_33 hl (k := 2) rfl (nI_1 _) (by decide) rfl (fun ls hl => ?_)
        refine lv_goto (tgt := 2) hx hb dX6_askSet_36 (by decide) ?_
        have eST : (su (sr S 13 (fil (fun s => if v >>> (nI s &&& 31) &&& 1 = 1 then 0 else S 0 6) (S 13) i)) 13 i (S 0 6)) = (sr S 13 (fil (fun s => if v >>> (nI s &&& 31) &&& 1 = 1 then 0 else S 0 6) (S 13) (i + 1))) := su_fil (by simp [c21])
        rw [eST] at hP
        exact ih (i + 1) (by omega) H locs ls hP hS (lv_sub hl [1, 2, 0] rfl)
      · refine lv_iconst (v := 0) hx hb dX6_askSet_24 (by decide +kernel) ?_
        refine lv_goto (tgt := 32) hx hb dX6_askSet_25 (by decide) ?_
        refine x_iast hx hb hK hI hAd hP hS 13 0 (by decide) (fun _ => rfl) rfl i rfl (by omega) (by decide) dX6_askSet_32 (fun H locs hP hS => ?_)
        refine lv_iinc (v := nI (i + 1)) (lv' := [(2, .int (nI (i + 1))), (0, .ref (bd 0)), (1, .int v)]) hx hb dX6_askSet_33 hl (k := 2) rfl (nI_1 _) (by decide) rfl (fun ls hl => ?_)
        refine lv_goto (tgt := 2) hx hb dX6_askSet_36 (by decide) ?_
        have eST : (su (sr S 13 (fil (fun s => if v >>> (nI s &&& 31) &&& 1 = 1 then 0 else S 0 6) (S 13) i)) 13 i 0) = (sr S 13 (fil (fun s => if v >>> (nI s &&& 31) &&& 1 = 1 then 0 else S 0 6) (S 13) (i + 1))) := su_fil (by simp [c21])
        rw [eST] at hP
        exact ih (i + 1) (by omega) H locs ls hP hS (lv_sub hl [1, 2, 0] rfl)
  refine lv_iconst (v := 0) hx hb dX6_askSet_0 (by decide +kernel) ?_
  refine lv_istore_n (lv' := [(2, .int 0), (0, .ref (bd 0)), (1, .int v)]) hx hb dX6_askSet_1 rfl hl (by decide) rfl (fun ls hl => ?_)
  have hP : va_P (dC, dI) vwCl (xW (mLy cI cZ bd) 18 bd (sr S 13 (fil (fun s => if v >>> (nI s &&& 31) &&& 1 = 1 then 0 else S 0 6) (S 13) 0))) s.heap := by rw [fil_0, sr_same]; exact hP
  exact L2 N 0 (Nat.zero_add N) _ _ ls hP hS (lv_sub hl [1, 2, 0] rfl)

set_option maxHeartbeats 4000000 in
set_option maxRecDepth 100000 in
theorem c6_stakesBy (hI : xI 18 bd) (S : xSt) (N : Nat) (hN : S 0 7 = nI N) (hN5 : N ≤ 5) (cn yn : Int32) : xMi l yX6_stakesBy wsX6_stakesBy ({ frames := 1, cells := 0, slots := 0, locals := 24 }) (dC, dI) vwCl (tyl cI cZ cS cG) (mLy cI cZ bd) 18 bd [.ref (bd 0), .int cn, .int yn] S (fun r S' => r = sumL (stk (S 6) (S 7) (S 8) (S 5) (S 13) cn yn) N 0 0 ∧ S' = S) := by
  refine xM_of (cc := cX6_stakesBy) (nL := 5) (ret := (some .int)) (by decide) rfl (Nat.le_of_ble_eq_true rfl) ?_
  intro p e s m below meth c ls B hl hK hP
  obtain ⟨hx, hb, hml, hown, hts, hr, hlocks⟩ := B
  have hl : lv_has ls 5 [(0, .ref (bd 0)), (1, .int cn), (2, .int yn)] := hl
  have hS : va_S (xA 18 bd) s.heap s.heap [] := va_S.rf
  have hAd : ∀ k, k < 18 → xA 18 bd (bd k) := xA_in
  have hinX6 : ∀ w ∈ wsX60, w ∈ wsX6_stakesBy := fun _ h => List.mem_cons_of_mem _ (List.mem_append_right _ h)
  have hF : CallFix p m c cX6_stakesBy 5 s _ wsX6_stakesBy RX6 := ⟨hx, hb, hml, hown, hts⟩
  have L5 : ∀ (n : Nat) (i : Nat) (a : Int32) (hi : i + n = N) (hv : sumL (stk (S 6) (S 7) (S 8) (S 5) (S 13) cn yn) N 0 0 = sumL (stk (S 6) (S 7) (S 8) (S 5) (S 13) cn yn) n i a) (H : Heap) (locs : List Loc) (ls : Array Slot), va_P (dC, dI) vwCl (xW (mLy cI cZ bd) 18 bd S) H → va_S (xA 18 bd) s.heap H locs → lv_has ls 5 [(0, .ref (bd 0)), (1, .int cn), (2, .int yn), (3, .int a), (4, .int (nI i))] → W p l e ({ frames := 1, cells := 0, slots := 0, locals := 24 }) s m ([.ref (bd 0), .int cn, .int yn] : List Value).toArray below meth c H locs 0 0 (MQ below (xQi (dC, dI) vwCl (mLy cI cZ bd) 18 bd (fun r S' => r = sumL (stk (S 6) (S 7) (S 8) (S 5) (S 13) cn yn) N 0 0 ∧ S' = S)) ([.ref (bd 0), .int cn, .int yn] : List Value).toArray s 0 0 (xA 18 bd)) (F0 m 5 ls []) := by
    intro n
    induction n with
    | zero =>
      intro i a hi hv H locs ls hP hS hl
      refine lv_iload hx hb dX6_stakesBy_5 (lv_at hl 4 rfl) ?_
      refine lv_aload_n hx hb dX6_stakesBy_7 rfl (lv_at hl 0 rfl) ?_
      refine x_get (v := .int (nI N)) hx hb hts hinX6 hown hK hP 0 (by decide) rfl rfl 7 (by decide) (hts _ (List.mem_of_getElem? (i := 1) rfl)) (congrArg (fun z => some (Value.int z)) hN) dX6_stakesBy_8 ?_
      refine lv_icmp_ge (tgt := 63) hx hb dX6_stakesBy_11 (by decide) (fun _ => ?_) (fun hc => absurd (nI_le (by omega) (by omega)) hc)
      refine lv_iload_n hx hb dX6_stakesBy_63 rfl (lv_at hl 3 rfl) ?_
      refine x_iret hx hb hr hlocks hP hS dX6_stakesBy_64 ?_
      exact ⟨hv.symm, rfl⟩
    | succ n ih =>
      intro i a hi hv H locs ls hP hS hl
      refine lv_iload hx hb dX6_stakesBy_5 (lv_at hl 4 rfl) ?_
      refine lv_aload_n hx hb dX6_stakesBy_7 rfl (lv_at hl 0 rfl) ?_
      refine x_get (v := .int (nI N)) hx hb hts hinX6 hown hK hP 0 (by decide) rfl rfl 7 (by decide) (hts _ (List.mem_of_getElem? (i := 1) rfl)) (congrArg (fun z => some (Value.int z)) hN) dX6_stakesBy_8 ?_
      refine lv_icmp_ge (tgt := 63) hx hb dX6_stakesBy_11 (by decide) (fun hc => absurd hc (nI_ge (by omega) (by omega))) (fun _ => ?_)
      refine lv_iload_n hx hb dX6_stakesBy_14 rfl (lv_at hl 3 rfl) ?_
      refine lv_aload_n hx hb dX6_stakesBy_15 rfl (lv_at hl 0 rfl) ?_
      refine x_get (v := .ref (bd 6)) hx hb hts hinX6 hown hK hP 0 (by decide) rfl rfl 10 (by decide) (hts _ (List.mem_of_getElem? (i := 2) rfl)) rfl dX6_stakesBy_16 ?_
      refine lv_iload hx hb dX6_stakesBy_19 (lv_at hl 4 rfl) ?_
      refine x_iald (v := S 6 i) hx hb hK hP 6 0 (by decide) rfl rfl i rfl (by omega) (by decide) rfl dX6_stakesBy_21 ?_
      refine lv_iload_n hx hb dX6_stakesBy_22 rfl (lv_at hl 1 rfl) ?_
      refine lv_icmp_ne (tgt := 54) hx hb dX6_stakesBy_23 (by decide) (fun c23 => ?_) (fun c23 => ?_)
      · refine lv_iconst (v := 0) hx hb dX6_stakesBy_54 (by decide +kernel) ?_
        refine lv_iadd hx hb dX6_stakesBy_55 ?_
        refine lv_topi (fun x56 ex56 => ?_)
        refine lv_istore_n (lv' := [(3, .int x56), (0, .ref (bd 0)), (1, .int cn), (2, .int yn), (4, .int (nI i))]) hx hb dX6_stakesBy_56 rfl hl (by decide) rfl (fun ls hl => ?_)
        refine lv_iinc (v := nI (i + 1)) (lv' := [(4, .int (nI (i + 1))), (3, .int x56), (0, .ref (bd 0)), (1, .int cn), (2, .int yn)]) hx hb dX6_stakesBy_57 hl (k := 4) rfl (nI_1 _) (by decide) rfl (fun ls hl => ?_)
        refine lv_goto (tgt := 5) hx hb dX6_stakesBy_60 (by decide) ?_
        exact ih (i + 1) x56 (by omega) (hv.trans (congrArg (sumL (stk (S 6) (S 7) (S 8) (S 5) (S 13) cn yn) n (i + 1)) (show a + (stk (S 6) (S 7) (S 8) (S 5) (S 13) cn yn) i = x56 from by subst ex56; simp [stk, c23]))) H locs ls hP hS (lv_sub hl [2, 3, 4, 1, 0] rfl)
      · refine lv_aload_n hx hb dX6_stakesBy_26 rfl (lv_at hl 0 rfl) ?_
        refine x_get (v := .ref (bd 13)) hx hb hts hinX6 hown hK hP 0 (by decide) rfl rfl 21 (by decide) (hts _ (List.mem_of_getElem? (i := 3) rfl)) rfl dX6_stakesBy_27 ?_
        refine lv_iload hx hb dX6_stakesBy_30 (lv_at hl 4 rfl) ?_
        refine x_iald (v := S 13 i) hx hb hK hP 13 0 (by decide) rfl rfl i rfl (by omega) (by decide) rfl dX6_stakesBy_32 ?_
        refine lv_iload_n hx hb dX6_stakesBy_33 rfl (lv_at hl 2 rfl) ?_
        refine lv_icmp_gt (tgt := 54) hx hb dX6_stakesBy_34 (by decide) (fun c34 => ?_) (fun c34 => ?_)
        · have d34 := Int32.not_le.mpr c34
          refine lv_iconst (v := 0) hx hb dX6_stakesBy_54 (by decide +kernel) ?_
          refine lv_iadd hx hb dX6_stakesBy_55 ?_
          refine lv_topi (fun x56 ex56 => ?_)
          refine lv_istore_n (lv' := [(3, .int x56), (0, .ref (bd 0)), (1, .int cn), (2, .int yn), (4, .int (nI i))]) hx hb dX6_stakesBy_56 rfl hl (by decide) rfl (fun ls hl => ?_)
          refine lv_iinc (v := nI (i + 1)) (lv' := [(4, .int (nI (i + 1))), (3, .int x56), (0, .ref (bd 0)), (1, .int cn), (2, .int yn)]) hx hb dX6_stakesBy_57 hl (k := 4) rfl (nI_1 _) (by decide) rfl (fun ls hl => ?_)
          refine lv_goto (tgt := 5) hx hb dX6_stakesBy_60 (by decide) ?_
          exact ih (i + 1) x56 (by omega) (hv.trans (congrArg (sumL (stk (S 6) (S 7) (S 8) (S 5) (S 13) cn yn) n (i + 1)) (show a + (stk (S 6) (S 7) (S 8) (S 5) (S 13) cn yn) i = x56 from by subst ex56; simp [stk, c23, c34, d34]))) H locs ls hP hS (lv_sub hl [2, 3, 4, 1, 0] rfl)
        · have d34 := Int32.not_lt.mp c34
          refine lv_aload_n hx hb dX6_stakesBy_37 rfl (lv_at hl 0 rfl) ?_
          refine lv_iload hx hb dX6_stakesBy_38 (lv_at hl 4 rfl) ?_
          refine lv_aload_n hx hb dX6_stakesBy_40 rfl (lv_at hl 0 rfl) ?_
          refine x_get (v := .ref (bd 13)) hx hb hts hinX6 hown hK hP 0 (by decide) rfl rfl 21 (by decide) (hts _ (List.mem_of_getElem? (i := 3) rfl)) rfl dX6_stakesBy_41 ?_
          refine lv_iload hx hb dX6_stakesBy_44 (lv_at hl 4 rfl) ?_
          refine x_iald (v := S 13 i) hx hb hK hP 13 0 (by decide) rfl rfl i rfl (by omega) (by decide) rfl dX6_stakesBy_46 ?_
          refine lv_iload_n hx hb dX6_stakesBy_47 rfl (lv_at hl 2 rfl) ?_
          refine x_calli (x_runV (As := [.int (nI i), .int (S 13 i), .int yn]) (rest := [.int a]) hF (c6_stakeBy hI S i (S 13 i) yn (by omega)) (cwV 3 hts gX6_stakesBy_X6_stakeBy rfl rfl rfl (by decide +kernel) ⟨Nat.le_of_ble_eq_true rfl, Nat.le_of_ble_eq_true rfl⟩) hK hP (by decide) rfl rfl rfl hl.1 rfl (Nat.le_of_ble_eq_true rfl) dX6_stakesBy_48 ⟨Nat.zero_le _, Nat.zero_le _⟩) hS hAd (fun r48 S48 H locs hw hP _ hS => ?_)
          obtain ⟨er48, eS48⟩ := hw
          rw [eS48] at hP
          refine lv_goto (tgt := 55) hx hb dX6_stakesBy_51 (by decide) ?_
          refine lv_iadd hx hb dX6_stakesBy_55 ?_
          refine lv_topi (fun x56 ex56 => ?_)
          refine lv_istore_n (lv' := [(3, .int x56), (0, .ref (bd 0)), (1, .int cn), (2, .int yn), (4, .int (nI i))]) hx hb dX6_stakesBy_56 rfl hl (by decide) rfl (fun ls hl => ?_)
          refine lv_iinc (v := nI (i + 1)) (lv' := [(4, .int (nI (i + 1))), (3, .int x56), (0, .ref (bd 0)), (1, .int cn), (2, .int yn)]) hx hb dX6_stakesBy_57 hl (k := 4) rfl (nI_1 _) (by decide) rfl (fun ls hl => ?_)
          refine lv_goto (tgt := 5) hx hb dX6_stakesBy_60 (by decide) ?_
          exact ih (i + 1) x56 (by omega) (hv.trans (congrArg (sumL (stk (S 6) (S 7) (S 8) (S 5) (S 13) cn yn) n (i + 1)) (show a + (stk (S 6) (S 7) (S 8) (S 5) (S 13) cn yn) i = x56 from by subst er48; subst ex56; simp [stk, c23, c34, d34]))) H locs ls hP hS (lv_sub hl [2, 3, 4, 1, 0] rfl)
  refine lv_iconst (v := 0) hx hb dX6_stakesBy_0 (by decide +kernel) ?_
  refine lv_istore_n (lv' := [(3, .int 0), (0, .ref (bd 0)), (1, .int cn), (2, .int yn)]) hx hb dX6_stakesBy_1 rfl hl (by decide) rfl (fun ls hl => ?_)
  refine lv_iconst (v := 0) hx hb dX6_stakesBy_2 (by decide +kernel) ?_
  refine lv_istore (lv' := [(4, .int 0), (3, .int 0), (0, .ref (bd 0)), (1, .int cn), (2, .int yn)]) hx hb dX6_stakesBy_3 hl (by decide) rfl (fun ls hl => ?_)
  exact L5 N 0 0 (Nat.zero_add N) rfl _ _ ls hP hS (lv_sub hl [2, 3, 4, 1, 0] rfl)

set_option maxHeartbeats 4000000 in
set_option maxRecDepth 100000 in
theorem c6_isTempted (hI : xI 18 bd) (S : xSt) (N : Nat) (hN : S 0 7 = nI N) (hN5 : N ≤ 5) (c0 y0 : Nat) (hc : c0 < 4) (hy : y0 < 6) : xMi l yX6_isTempted wsX6_isTempted ({ frames := 2, cells := 0, slots := 0, locals := 48 }) (dC, dI) vwCl (tyl cI cZ cS cG) (mLy cI cZ bd) 18 bd [.ref (bd 0), .int (nI c0), .int (nI y0)] S (fun r S' => r = (if mT S N c0 y0 = true then 1 else 0) ∧ S' = S) := by
  refine xM_of (cc := cX6_isTempted) (nL := 3) (ret := (some .boolean)) (by decide) rfl (Nat.le_of_ble_eq_true rfl) ?_
  intro p e s m below meth c ls B hl hK hP
  obtain ⟨hx, hb, hml, hown, hts, hr, hlocks⟩ := B
  have hl : lv_has ls 3 [(0, .ref (bd 0)), (1, .int (nI c0)), (2, .int (nI y0))] := hl
  have hS : va_S (xA 18 bd) s.heap s.heap [] := va_S.rf
  have hAd : ∀ k, k < 18 → xA 18 bd (bd k) := xA_in
  have hinX6 : ∀ w ∈ wsX60, w ∈ wsX6_isTempted := fun _ h => List.mem_cons_of_mem _ (List.mem_append_right _ h)
  have hF : CallFix p m c cX6_isTempted 3 s _ wsX6_isTempted RX6 := ⟨hx, hb, hml, hown, hts⟩
  refine lv_aload_n hx hb dX6_isTempted_0 rfl (lv_at hl 0 rfl) ?_
  refine x_get (v := .ref (bd 4)) hx hb hts hinX6 hown hK hP 0 (by decide) rfl rfl 8 (by decide) (hts _ (List.mem_of_getElem? (i := 1) rfl)) rfl dX6_isTempted_1 ?_
  refine lv_bipush (v := 6) hx hb dX6_isTempted_4 (by decide +kernel) ?_
  refine lv_iload_n hx hb dX6_isTempted_6 rfl (lv_at hl 1 rfl) ?_
  refine lv_imul hx hb dX6_isTempted_7 ?_
  refine lv_iload_n hx hb dX6_isTempted_8 rfl (lv_at hl 2 rfl) ?_
  refine lv_iadd hx hb dX6_isTempted_9 ?_
  refine x_iald (v := S 4 (6 * c0 + y0)) hx hb hK hP 4 0 (by decide) rfl rfl (6 * c0 + y0) (ix6 c0 y0) (by omega) (by decide) rfl dX6_isTempted_10 ?_
  refine lv_aload_n hx hb dX6_isTempted_11 rfl (lv_at hl 0 rfl) ?_
  refine lv_iload_n hx hb dX6_isTempted_12 rfl (lv_at hl 1 rfl) ?_
  refine lv_iload_n hx hb dX6_isTempted_13 rfl (lv_at hl 2 rfl) ?_
  refine x_calli (x_runV (As := [.int (nI c0), .int (nI y0)]) (rest := [.int (S 4 (6 * c0 + y0))]) hF (c6_stakesBy hI S N hN hN5 (nI c0) (nI y0) ) (cwV 2 hts gX6_isTempted_X6_stakesBy rfl rfl rfl (by decide +kernel) ⟨Nat.le_of_ble_eq_true rfl, Nat.le_of_ble_eq_true rfl⟩) hK hP (by decide) rfl rfl rfl hl.1 rfl (Nat.le_of_ble_eq_true rfl) dX6_isTempted_14 ⟨Nat.zero_le _, Nat.zero_le _⟩) hS hAd (fun r14 S14 H locs hw hP _ hS => ?_)
  obtain ⟨er14, eS14⟩ := hw
  rw [eS14] at hP
  refine lv_icmp_le (tgt := 24) hx hb dX6_isTempted_17 (by decide) (fun c17 => ?_) (fun c17 => ?_)
  · have d17 := Int32.not_lt.mpr c17
    refine lv_iconst (v := 0) hx hb dX6_isTempted_24 (by decide +kernel) ?_
    refine x_zret hx hb hr hlocks hP hS dX6_isTempted_25 (Or.inl rfl) ?_
    subst er14
    exact ⟨by simp [mT, tmp, c17, d17], rfl⟩
  · have d17 := Int32.not_le.mp c17
    refine lv_iconst (v := 1) hx hb dX6_isTempted_20 (by decide +kernel) ?_
    refine lv_goto (tgt := 25) hx hb dX6_isTempted_21 (by decide) ?_
    refine x_zret hx hb hr hlocks hP hS dX6_isTempted_25 (Or.inr rfl) ?_
    subst er14
    exact ⟨by simp [mT, tmp, c17, d17], rfl⟩

set_option maxHeartbeats 4000000 in
set_option maxRecDepth 100000 in
theorem c6_temptedSet (hI : xI 18 bd) (S : xSt) (N : Nat) (hN : S 0 7 = nI N) (hN5 : N ≤ 5) (C : Nat) (hC : S 0 5 = nI C) (hC4 : C ≤ 4) (y0 : Nat) (hy : y0 < 6) : xMi l yX6_temptedSet wsX6_temptedSet ({ frames := 3, cells := 0, slots := 0, locals := 70 }) (dC, dI) vwCl (tyl cI cZ cS cG) (mLy cI cZ bd) 18 bd [.ref (bd 0), .int (nI y0)] S (fun r S' => r = mSet S N C y0 ∧ S' = S) := by
  refine xM_of (cc := cX6_temptedSet) (nL := 4) (ret := (some .int)) (by decide) rfl (Nat.le_of_ble_eq_true rfl) ?_
  intro p e s m below meth c ls B hl hK hP
  obtain ⟨hx, hb, hml, hown, hts, hr, hlocks⟩ := B
  have hl : lv_has ls 4 [(0, .ref (bd 0)), (1, .int (nI y0))] := hl
  have hS : va_S (xA 18 bd) s.heap s.heap [] := va_S.rf
  have hAd : ∀ k, k < 18 → xA 18 bd (bd k) := xA_in
  have hinX6 : ∀ w ∈ wsX60, w ∈ wsX6_temptedSet := fun _ h => List.mem_cons_of_mem _ (List.mem_append_right _ h)
  have hF : CallFix p m c cX6_temptedSet 4 s _ wsX6_temptedSet RX6 := ⟨hx, hb, hml, hown, hts⟩
  have L4 : ∀ (n : Nat) (i : Nat) (a : Int32) (hi : i + n = C) (hv : mSet S N C y0 = orL (fun c => if mT S N c y0 = true then (1 : Int32) <<< (nI c &&& 31) else 0) n i a) (H : Heap) (locs : List Loc) (ls : Array Slot), va_P (dC, dI) vwCl (xW (mLy cI cZ bd) 18 bd S) H → va_S (xA 18 bd) s.heap H locs → lv_has ls 4 [(0, .ref (bd 0)), (1, .int (nI y0)), (2, .int a), (3, .int (nI i))] → W p l e ({ frames := 3, cells := 0, slots := 0, locals := 70 }) s m ([.ref (bd 0), .int (nI y0)] : List Value).toArray below meth c H locs 0 0 (MQ below (xQi (dC, dI) vwCl (mLy cI cZ bd) 18 bd (fun r S' => r = mSet S N C y0 ∧ S' = S)) ([.ref (bd 0), .int (nI y0)] : List Value).toArray s 0 0 (xA 18 bd)) (F0 m 4 ls []) := by
    intro n
    induction n with
    | zero =>
      intro i a hi hv H locs ls hP hS hl
      refine lv_iload_n hx hb dX6_temptedSet_4 rfl (lv_at hl 3 rfl) ?_
      refine lv_aload_n hx hb dX6_temptedSet_5 rfl (lv_at hl 0 rfl) ?_
      refine x_get (v := .int (nI C)) hx hb hts hinX6 hown hK hP 0 (by decide) rfl rfl 5 (by decide) (hts _ (List.mem_of_getElem? (i := 1) rfl)) (congrArg (fun z => some (Value.int z)) hC) dX6_temptedSet_6 ?_
      refine lv_icmp_ge (tgt := 37) hx hb dX6_temptedSet_9 (by decide) (fun _ => ?_) (fun hc => absurd (nI_le (by omega) (by omega)) hc)
      refine lv_iload_n hx hb dX6_temptedSet_37 rfl (lv_at hl 2 rfl) ?_
      refine x_iret hx hb hr hlocks hP hS dX6_temptedSet_38 ?_
      exact ⟨hv.symm, rfl⟩
    | succ n ih =>
      intro i a hi hv H locs ls hP hS hl
      refine lv_iload_n hx hb dX6_temptedSet_4 rfl (lv_at hl 3 rfl) ?_
      refine lv_aload_n hx hb dX6_temptedSet_5 rfl (lv_at hl 0 rfl) ?_
      refine x_get (v := .int (nI C)) hx hb hts hinX6 hown hK hP 0 (by decide) rfl rfl 5 (by decide) (hts _ (List.mem_of_getElem? (i := 1) rfl)) (congrArg (fun z => some (Value.int z)) hC) dX6_temptedSet_6 ?_
      refine lv_icmp_ge (tgt := 37) hx hb dX6_temptedSet_9 (by decide) (fun hc => absurd hc (nI_ge (by omega) (by omega))) (fun _ => ?_)
      refine lv_iload_n hx hb dX6_temptedSet_12 rfl (lv_at hl 2 rfl) ?_
      refine lv_aload_n hx hb dX6_temptedSet_13 rfl (lv_at hl 0 rfl) ?_
      refine lv_iload_n hx hb dX6_temptedSet_14 rfl (lv_at hl 3 rfl) ?_
      refine lv_iload_n hx hb dX6_temptedSet_15 rfl (lv_at hl 1 rfl) ?_
      refine x_calli (x_runV (As := [.int (nI i), .int (nI y0)]) (rest := [.int a]) hF (c6_isTempted hI S N hN hN5 i y0 (by omega) (by omega) ) (cwV 2 hts gX6_temptedSet_X6_isTempted rfl rfl rfl (by decide +kernel) ⟨Nat.le_of_ble_eq_true rfl, Nat.le_of_ble_eq_true rfl⟩) hK hP (by decide) rfl rfl rfl hl.1 rfl (Nat.le_of_ble_eq_true rfl) dX6_temptedSet_16 ⟨Nat.zero_le _, Nat.zero_le _⟩) hS hAd (fun r16 S16 H locs hw hP _ hS => ?_)
      obtain ⟨hw, eS16⟩ := hw
      rw [eS16] at hP
      by_cases q16 : mT S N i y0 = true
      · rw [if_pos q16] at hw
        subst hw
        refine lv_if_eq (tgt := 28) hx hb dX6_temptedSet_19 (by decide) (fun hc => absurd hc (by decide)) (fun _ => ?_)
        refine lv_iconst (v := 1) hx hb dX6_temptedSet_22 (by decide +kernel) ?_
        refine lv_iload_n hx hb dX6_temptedSet_23 rfl (lv_at hl 3 rfl) ?_
        refine lv_ishl hx hb dX6_temptedSet_24 ?_
        refine lv_goto (tgt := 29) hx hb dX6_temptedSet_25 (by decide) ?_
        refine lv_ior hx hb dX6_temptedSet_29 ?_
        refine lv_topi (fun x30 ex30 => ?_)
        refine lv_istore_n (lv' := [(2, .int x30), (0, .ref (bd 0)), (1, .int (nI y0)), (3, .int (nI i))]) hx hb dX6_temptedSet_30 rfl hl (by decide) rfl (fun ls hl => ?_)
        refine lv_iinc (v := nI (i + 1)) (lv' := [(3, .int (nI (i + 1))), (2, .int x30), (0, .ref (bd 0)), (1, .int (nI y0))]) hx hb dX6_temptedSet_31 hl (k := 3) rfl (nI_1 _) (by decide) rfl (fun ls hl => ?_)
        refine lv_goto (tgt := 4) hx hb dX6_temptedSet_34 (by decide) ?_
        exact ih (i + 1) x30 (by omega) (hv.trans (congrArg (orL (fun c => if mT S N c y0 = true then (1 : Int32) <<< (nI c &&& 31) else 0) n (i + 1)) (show a ||| (fun c => if mT S N c y0 = true then (1 : Int32) <<< (nI c &&& 31) else 0) i = x30 from by subst ex30; simp [q16]))) H locs ls hP hS (lv_sub hl [2, 3, 1, 0] rfl)
      · rw [if_neg q16] at hw
        subst hw
        refine lv_if_eq (tgt := 28) hx hb dX6_temptedSet_19 (by decide) (fun _ => ?_) (fun hc => absurd (by decide) hc)
        refine lv_iconst (v := 0) hx hb dX6_temptedSet_28 (by decide +kernel) ?_
        refine lv_ior hx hb dX6_temptedSet_29 ?_
        refine lv_topi (fun x30 ex30 => ?_)
        refine lv_istore_n (lv' := [(2, .int x30), (0, .ref (bd 0)), (1, .int (nI y0)), (3, .int (nI i))]) hx hb dX6_temptedSet_30 rfl hl (by decide) rfl (fun ls hl => ?_)
        refine lv_iinc (v := nI (i + 1)) (lv' := [(3, .int (nI (i + 1))), (2, .int x30), (0, .ref (bd 0)), (1, .int (nI y0))]) hx hb dX6_temptedSet_31 hl (k := 3) rfl (nI_1 _) (by decide) rfl (fun ls hl => ?_)
        refine lv_goto (tgt := 4) hx hb dX6_temptedSet_34 (by decide) ?_
        exact ih (i + 1) x30 (by omega) (hv.trans (congrArg (orL (fun c => if mT S N c y0 = true then (1 : Int32) <<< (nI c &&& 31) else 0) n (i + 1)) (show a ||| (fun c => if mT S N c y0 = true then (1 : Int32) <<< (nI c &&& 31) else 0) i = x30 from by subst ex30; simp [q16]))) H locs ls hP hS (lv_sub hl [2, 3, 1, 0] rfl)
  refine lv_iconst (v := 0) hx hb dX6_temptedSet_0 (by decide +kernel) ?_
  refine lv_istore_n (lv' := [(2, .int 0), (0, .ref (bd 0)), (1, .int (nI y0))]) hx hb dX6_temptedSet_1 rfl hl (by decide) rfl (fun ls hl => ?_)
  refine lv_iconst (v := 0) hx hb dX6_temptedSet_2 (by decide +kernel) ?_
  refine lv_istore_n (lv' := [(3, .int 0), (2, .int 0), (0, .ref (bd 0)), (1, .int (nI y0))]) hx hb dX6_temptedSet_3 rfl hl (by decide) rfl (fun ls hl => ?_)
  exact L4 C 0 0 (Nat.zero_add C) rfl _ _ ls hP hS (lv_sub hl [2, 3, 1, 0] rfl)

set_option maxHeartbeats 4000000 in
set_option maxRecDepth 100000 in
theorem c6_breakYear (hI : xI 18 bd) (S : xSt) (N : Nat) (hN : S 0 7 = nI N) (hN5 : N ≤ 5) (C : Nat) (hC : S 0 5 = nI C) (hC4 : C ≤ 4) (Y : Nat) (hY : S 0 6 = nI Y) (hY6 : Y ≤ 6) : xMi l yX6_breakYear wsX6_breakYear ({ frames := 4, cells := 0, slots := 0, locals := 93 }) (dC, dI) vwCl (tyl cI cZ cS cG) (mLy cI cZ bd) 18 bd [.ref (bd 0)] S (fun r S' => r = mBrk S N C Y ∧ S' = S) := by
  refine xM_of (cc := cX6_breakYear) (nL := 2) (ret := (some .int)) (by decide) rfl (Nat.le_of_ble_eq_true rfl) ?_
  intro p e s m below meth c ls B hl hK hP
  obtain ⟨hx, hb, hml, hown, hts, hr, hlocks⟩ := B
  have hl : lv_has ls 2 [(0, .ref (bd 0))] := hl
  have hS : va_S (xA 18 bd) s.heap s.heap [] := va_S.rf
  have hAd : ∀ k, k < 18 → xA 18 bd (bd k) := xA_in
  have hinX6 : ∀ w ∈ wsX60, w ∈ wsX6_breakYear := fun _ h => List.mem_cons_of_mem _ (List.mem_append_right _ h)
  have hF : CallFix p m c cX6_breakYear 2 s _ wsX6_breakYear RX6 := ⟨hx, hb, hml, hown, hts⟩
  have L2 : ∀ (n : Nat) (i : Nat) (hi : i + n = Y) (hv : mBrk S N C Y = scan (fun y => decide (¬ mSet S N C y = 0)) n i) (H : Heap) (locs : List Loc) (ls : Array Slot), va_P (dC, dI) vwCl (xW (mLy cI cZ bd) 18 bd S) H → va_S (xA 18 bd) s.heap H locs → lv_has ls 2 [(0, .ref (bd 0)), (1, .int (nI i))] → W p l e ({ frames := 4, cells := 0, slots := 0, locals := 93 }) s m ([.ref (bd 0)] : List Value).toArray below meth c H locs 0 0 (MQ below (xQi (dC, dI) vwCl (mLy cI cZ bd) 18 bd (fun r S' => r = mBrk S N C Y ∧ S' = S)) ([.ref (bd 0)] : List Value).toArray s 0 0 (xA 18 bd)) (F0 m 2 ls []) := by
    intro n
    induction n with
    | zero =>
      intro i hi hv H locs ls hP hS hl
      refine lv_iload_n hx hb dX6_breakYear_2 rfl (lv_at hl 1 rfl) ?_
      refine lv_aload_n hx hb dX6_breakYear_3 rfl (lv_at hl 0 rfl) ?_
      refine x_get (v := .int (nI Y)) hx hb hts hinX6 hown hK hP 0 (by decide) rfl rfl 6 (by decide) (hts _ (List.mem_of_getElem? (i := 1) rfl)) (congrArg (fun z => some (Value.int z)) hY) dX6_breakYear_4 ?_
      refine lv_icmp_ge (tgt := 26) hx hb dX6_breakYear_7 (by decide) (fun _ => ?_) (fun hc => absurd (nI_le (by omega) (by omega)) hc)
      refine lv_bipush (v := (-9)) hx hb dX6_breakYear_26 (by decide +kernel) ?_
      refine x_iret hx hb hr hlocks hP hS dX6_breakYear_28 ?_
      exact ⟨hv.symm, rfl⟩
    | succ n ih =>
      intro i hi hv H locs ls hP hS hl
      refine lv_iload_n hx hb dX6_breakYear_2 rfl (lv_at hl 1 rfl) ?_
      refine lv_aload_n hx hb dX6_breakYear_3 rfl (lv_at hl 0 rfl) ?_
      refine x_get (v := .int (nI Y)) hx hb hts hinX6 hown hK hP 0 (by decide) rfl rfl 6 (by decide) (hts _ (List.mem_of_getElem? (i := 1) rfl)) (congrArg (fun z => some (Value.int z)) hY) dX6_breakYear_4 ?_
      refine lv_icmp_ge (tgt := 26) hx hb dX6_breakYear_7 (by decide) (fun hc => absurd hc (nI_ge (by omega) (by omega))) (fun _ => ?_)
      refine lv_aload_n hx hb dX6_breakYear_10 rfl (lv_at hl 0 rfl) ?_
      refine lv_iload_n hx hb dX6_breakYear_11 rfl (lv_at hl 1 rfl) ?_
      refine x_calli (x_runV (As := [.int (nI i)]) (rest := []) hF (c6_temptedSet hI S N hN hN5 C hC hC4 i (by omega) ) (cwV 1 hts gX6_breakYear_X6_temptedSet rfl rfl rfl (by decide +kernel) ⟨Nat.le_of_ble_eq_true rfl, Nat.le_of_ble_eq_true rfl⟩) hK hP (by decide) rfl rfl rfl hl.1 rfl (Nat.le_of_ble_eq_true rfl) dX6_breakYear_12 ⟨Nat.zero_le _, Nat.zero_le _⟩) hS hAd (fun r12 S12 H locs hw hP _ hS => ?_)
      obtain ⟨er12, eS12⟩ := hw
      rw [eS12] at hP
      refine lv_if_eq (tgt := 20) hx hb dX6_breakYear_15 (by decide) (fun c15 => ?_) (fun c15 => ?_)
      · refine lv_iinc (v := nI (i + 1)) (lv' := [(1, .int (nI (i + 1))), (0, .ref (bd 0))]) hx hb dX6_breakYear_20 hl (k := 1) rfl (nI_1 _) (by decide) rfl (fun ls hl => ?_)
        refine lv_goto (tgt := 2) hx hb dX6_breakYear_23 (by decide) ?_
        exact ih (i + 1) (by omega) (hv.trans (by subst er12; rw [scan, if_neg (by simp [c15])])) H locs ls hP hS (lv_sub hl [1, 0] rfl)
      · refine lv_iload_n hx hb dX6_breakYear_18 rfl (lv_at hl 1 rfl) ?_
        refine x_iret hx hb hr hlocks hP hS dX6_breakYear_19 ?_
        subst er12
        exact ⟨by rw [hv, scan, if_pos (by simp [c15])], rfl⟩
  refine lv_iconst (v := 0) hx hb dX6_breakYear_0 (by decide +kernel) ?_
  refine lv_istore_n (lv' := [(1, .int 0), (0, .ref (bd 0))]) hx hb dX6_breakYear_1 rfl hl (by decide) rfl (fun ls hl => ?_)
  exact L2 Y 0 (Nat.zero_add Y) rfl _ _ ls hP hS (lv_sub hl [1, 0] rfl)

set_option maxHeartbeats 4000000 in
set_option maxRecDepth 100000 in
theorem c6_holeOf (hI : xI 18 bd) (S : xSt) (N : Nat) (hN : S 0 7 = nI N) (hN5 : N ≤ 5) (Y : Nat) (hY : S 0 6 = nI Y) (hY6 : Y ≤ 6) (c0 : Nat) (hc : c0 < 4) : xMi l yX6_holeOf wsX6_holeOf ({ frames := 3, cells := 0, slots := 0, locals := 70 }) (dC, dI) vwCl (tyl cI cZ cS cG) (mLy cI cZ bd) 18 bd [.ref (bd 0), .int (nI c0)] S (fun r S' => r = scan (fun y => mT S N c0 y) Y 0 ∧ S' = S) := by
  refine xM_of (cc := cX6_holeOf) (nL := 3) (ret := (some .int)) (by decide) rfl (Nat.le_of_ble_eq_true rfl) ?_
  intro p e s m below meth c ls B hl hK hP
  obtain ⟨hx, hb, hml, hown, hts, hr, hlocks⟩ := B
  have hl : lv_has ls 3 [(0, .ref (bd 0)), (1, .int (nI c0))] := hl
  have hS : va_S (xA 18 bd) s.heap s.heap [] := va_S.rf
  have hAd : ∀ k, k < 18 → xA 18 bd (bd k) := xA_in
  have hinX6 : ∀ w ∈ wsX60, w ∈ wsX6_holeOf := fun _ h => List.mem_cons_of_mem _ (List.mem_append_right _ h)
  have hF : CallFix p m c cX6_holeOf 3 s _ wsX6_holeOf RX6 := ⟨hx, hb, hml, hown, hts⟩
  have L2 : ∀ (n : Nat) (i : Nat) (hi : i + n = Y) (hv : scan (fun y => mT S N c0 y) Y 0 = scan (fun y => mT S N c0 y) n i) (H : Heap) (locs : List Loc) (ls : Array Slot), va_P (dC, dI) vwCl (xW (mLy cI cZ bd) 18 bd S) H → va_S (xA 18 bd) s.heap H locs → lv_has ls 3 [(0, .ref (bd 0)), (1, .int (nI c0)), (2, .int (nI i))] → W p l e ({ frames := 3, cells := 0, slots := 0, locals := 70 }) s m ([.ref (bd 0), .int (nI c0)] : List Value).toArray below meth c H locs 0 0 (MQ below (xQi (dC, dI) vwCl (mLy cI cZ bd) 18 bd (fun r S' => r = scan (fun y => mT S N c0 y) Y 0 ∧ S' = S)) ([.ref (bd 0), .int (nI c0)] : List Value).toArray s 0 0 (xA 18 bd)) (F0 m 2 ls []) := by
    intro n
    induction n with
    | zero =>
      intro i hi hv H locs ls hP hS hl
      refine lv_iload_n hx hb dX6_holeOf_2 rfl (lv_at hl 2 rfl) ?_
      refine lv_aload_n hx hb dX6_holeOf_3 rfl (lv_at hl 0 rfl) ?_
      refine x_get (v := .int (nI Y)) hx hb hts hinX6 hown hK hP 0 (by decide) rfl rfl 6 (by decide) (hts _ (List.mem_of_getElem? (i := 1) rfl)) (congrArg (fun z => some (Value.int z)) hY) dX6_holeOf_4 ?_
      refine lv_icmp_ge (tgt := 27) hx hb dX6_holeOf_7 (by decide) (fun _ => ?_) (fun hc => absurd (nI_le (by omega) (by omega)) hc)
      refine lv_bipush (v := (-9)) hx hb dX6_holeOf_27 (by decide +kernel) ?_
      refine x_iret hx hb hr hlocks hP hS dX6_holeOf_29 ?_
      exact ⟨hv.symm, rfl⟩
    | succ n ih =>
      intro i hi hv H locs ls hP hS hl
      refine lv_iload_n hx hb dX6_holeOf_2 rfl (lv_at hl 2 rfl) ?_
      refine lv_aload_n hx hb dX6_holeOf_3 rfl (lv_at hl 0 rfl) ?_
      refine x_get (v := .int (nI Y)) hx hb hts hinX6 hown hK hP 0 (by decide) rfl rfl 6 (by decide) (hts _ (List.mem_of_getElem? (i := 1) rfl)) (congrArg (fun z => some (Value.int z)) hY) dX6_holeOf_4 ?_
      refine lv_icmp_ge (tgt := 27) hx hb dX6_holeOf_7 (by decide) (fun hc => absurd hc (nI_ge (by omega) (by omega))) (fun _ => ?_)
      refine lv_aload_n hx hb dX6_holeOf_10 rfl (lv_at hl 0 rfl) ?_
      refine lv_iload_n hx hb dX6_holeOf_11 rfl (lv_at hl 1 rfl) ?_
      refine lv_iload_n hx hb dX6_holeOf_12 rfl (lv_at hl 2 rfl) ?_
      refine x_calli (x_runV (As := [.int (nI c0), .int (nI i)]) (rest := []) hF (c6_isTempted hI S N hN hN5 c0 i (by omega) (by omega) ) (cwV 2 hts gX6_holeOf_X6_isTempted rfl rfl rfl (by decide +kernel) ⟨Nat.le_of_ble_eq_true rfl, Nat.le_of_ble_eq_true rfl⟩) hK hP (by decide) rfl rfl rfl hl.1 rfl (Nat.le_of_ble_eq_true rfl) dX6_holeOf_13 ⟨Nat.zero_le _, Nat.zero_le _⟩) hS hAd (fun r13 S13 H locs hw hP _ hS => ?_)
      obtain ⟨hw, eS13⟩ := hw
      rw [eS13] at hP
      by_cases q13 : mT S N c0 i = true
      · rw [if_pos q13] at hw
        subst hw
        refine lv_if_eq (tgt := 21) hx hb dX6_holeOf_16 (by decide) (fun hc => absurd hc (by decide)) (fun _ => ?_)
        refine lv_iload_n hx hb dX6_holeOf_19 rfl (lv_at hl 2 rfl) ?_
        refine x_iret hx hb hr hlocks hP hS dX6_holeOf_20 ?_
        exact ⟨by rw [hv, scan, if_pos q13], rfl⟩
      · rw [if_neg q13] at hw
        subst hw
        refine lv_if_eq (tgt := 21) hx hb dX6_holeOf_16 (by decide) (fun _ => ?_) (fun hc => absurd (by decide) hc)
        refine lv_iinc (v := nI (i + 1)) (lv' := [(2, .int (nI (i + 1))), (0, .ref (bd 0)), (1, .int (nI c0))]) hx hb dX6_holeOf_21 hl (k := 2) rfl (nI_1 _) (by decide) rfl (fun ls hl => ?_)
        refine lv_goto (tgt := 2) hx hb dX6_holeOf_24 (by decide) ?_
        exact ih (i + 1) (by omega) (hv.trans (by rw [scan, if_neg q13])) H locs ls hP hS (lv_sub hl [1, 2, 0] rfl)
  refine lv_iconst (v := 0) hx hb dX6_holeOf_0 (by decide +kernel) ?_
  refine lv_istore_n (lv' := [(2, .int 0), (0, .ref (bd 0)), (1, .int (nI c0))]) hx hb dX6_holeOf_1 rfl hl (by decide) rfl (fun ls hl => ?_)
  exact L2 Y 0 (Nat.zero_add Y) rfl _ _ ls hP hS (lv_sub hl [1, 2, 0] rfl)

set_option maxHeartbeats 4000000 in
set_option maxRecDepth 100000 in
theorem c6_breakCourt (hI : xI 18 bd) (S : xSt) (N : Nat) (hN : S 0 7 = nI N) (hN5 : N ≤ 5) (C : Nat) (hC : S 0 5 = nI C) (hC4 : C ≤ 4) (Y : Nat) (hY : S 0 6 = nI Y) (hY6 : Y ≤ 6) : xMi l yX6_breakCourt wsX6_breakCourt ({ frames := 5, cells := 0, slots := 0, locals := 114 }) (dC, dI) vwCl (tyl cI cZ cS cG) (mLy cI cZ bd) 18 bd [.ref (bd 0)] S (fun r S' => r = mBC S N C Y ∧ S' = S) := by
  refine xM_of (cc := cX6_breakCourt) (nL := 3) (ret := (some .int)) (by decide) rfl (Nat.le_of_ble_eq_true rfl) ?_
  intro p e s m below meth c ls B hl hK hP
  obtain ⟨hx, hb, hml, hown, hts, hr, hlocks⟩ := B
  have hl : lv_has ls 3 [(0, .ref (bd 0))] := hl
  have hS : va_S (xA 18 bd) s.heap s.heap [] := va_S.rf
  have hAd : ∀ k, k < 18 → xA 18 bd (bd k) := xA_in
  have hinX6 : ∀ w ∈ wsX60, w ∈ wsX6_breakCourt := fun _ h => List.mem_cons_of_mem _ (List.mem_append_right _ h)
  have hF : CallFix p m c cX6_breakCourt 3 s _ wsX6_breakCourt RX6 := ⟨hx, hb, hml, hown, hts⟩
  have L7 : ∀ (n : Nat) (y0 : Nat) (hy0 : y0 < 0 + Y) (hb9 : mBrk S N C Y = nI y0) (i : Nat) (hi : i + n = C) (hv : mBC S N C Y = scan (fun c => mT S N c y0) n i) (H : Heap) (locs : List Loc) (ls : Array Slot), va_P (dC, dI) vwCl (xW (mLy cI cZ bd) 18 bd S) H → va_S (xA 18 bd) s.heap H locs → lv_has ls 3 [(0, .ref (bd 0)), (1, .int (nI y0)), (2, .int (nI i))] → W p l e ({ frames := 5, cells := 0, slots := 0, locals := 114 }) s m ([.ref (bd 0)] : List Value).toArray below meth c H locs 0 0 (MQ below (xQi (dC, dI) vwCl (mLy cI cZ bd) 18 bd (fun r S' => r = mBC S N C Y ∧ S' = S)) ([.ref (bd 0)] : List Value).toArray s 0 0 (xA 18 bd)) (F0 m 7 ls []) := by
    intro n
    induction n with
    | zero =>
      intro y0 hy0 hb9 i hi hv H locs ls hP hS hl
      refine lv_iload_n hx hb dX6_breakCourt_7 rfl (lv_at hl 2 rfl) ?_
      refine lv_aload_n hx hb dX6_breakCourt_8 rfl (lv_at hl 0 rfl) ?_
      refine x_get (v := .int (nI C)) hx hb hts hinX6 hown hK hP 0 (by decide) rfl rfl 5 (by decide) (hts _ (List.mem_of_getElem? (i := 1) rfl)) (congrArg (fun z => some (Value.int z)) hC) dX6_breakCourt_9 ?_
      refine lv_icmp_ge (tgt := 38) hx hb dX6_breakCourt_12 (by decide) (fun _ => ?_) (fun hc => absurd (nI_le (by omega) (by omega)) hc)
      refine lv_bipush (v := (-9)) hx hb dX6_breakCourt_38 (by decide +kernel) ?_
      refine x_iret hx hb hr hlocks hP hS dX6_breakCourt_40 ?_
      exact ⟨hv.symm, rfl⟩
    | succ n ih =>
      intro y0 hy0 hb9 i hi hv H locs ls hP hS hl
      refine lv_iload_n hx hb dX6_breakCourt_7 rfl (lv_at hl 2 rfl) ?_
      refine lv_aload_n hx hb dX6_breakCourt_8 rfl (lv_at hl 0 rfl) ?_
      refine x_get (v := .int (nI C)) hx hb hts hinX6 hown hK hP 0 (by decide) rfl rfl 5 (by decide) (hts _ (List.mem_of_getElem? (i := 1) rfl)) (congrArg (fun z => some (Value.int z)) hC) dX6_breakCourt_9 ?_
      refine lv_icmp_ge (tgt := 38) hx hb dX6_breakCourt_12 (by decide) (fun hc => absurd hc (nI_ge (by omega) (by omega))) (fun _ => ?_)
      refine lv_iload_n hx hb dX6_breakCourt_15 rfl (lv_at hl 1 rfl) ?_
      refine lv_bipush (v := (-9)) hx hb dX6_breakCourt_16 (by decide +kernel) ?_
      refine lv_icmp_eq (tgt := 38) hx hb dX6_breakCourt_18 (by decide) (fun hc => absurd hc (nI_ne9 (by omega))) (fun _ => ?_)
      refine lv_aload_n hx hb dX6_breakCourt_21 rfl (lv_at hl 0 rfl) ?_
      refine lv_iload_n hx hb dX6_breakCourt_22 rfl (lv_at hl 2 rfl) ?_
      refine lv_iload_n hx hb dX6_breakCourt_23 rfl (lv_at hl 1 rfl) ?_
      refine x_calli (x_runV (As := [.int (nI i), .int (nI y0)]) (rest := []) hF (c6_isTempted hI S N hN hN5 i y0 (by omega) (by omega) ) (cwV 2 hts gX6_breakCourt_X6_isTempted rfl rfl rfl (by decide +kernel) ⟨Nat.le_of_ble_eq_true rfl, Nat.le_of_ble_eq_true rfl⟩) hK hP (by decide) rfl rfl rfl hl.1 rfl (Nat.le_of_ble_eq_true rfl) dX6_breakCourt_24 ⟨Nat.zero_le _, Nat.zero_le _⟩) hS hAd (fun r24 S24 H locs hw hP _ hS => ?_)
      obtain ⟨hw, eS24⟩ := hw
      rw [eS24] at hP
      by_cases q24 : mT S N i y0 = true
      · rw [if_pos q24] at hw
        subst hw
        refine lv_if_eq (tgt := 32) hx hb dX6_breakCourt_27 (by decide) (fun hc => absurd hc (by decide)) (fun _ => ?_)
        refine lv_iload_n hx hb dX6_breakCourt_30 rfl (lv_at hl 2 rfl) ?_
        refine x_iret hx hb hr hlocks hP hS dX6_breakCourt_31 ?_
        exact ⟨by rw [hv, scan, if_pos q24], rfl⟩
      · rw [if_neg q24] at hw
        subst hw
        refine lv_if_eq (tgt := 32) hx hb dX6_breakCourt_27 (by decide) (fun _ => ?_) (fun hc => absurd (by decide) hc)
        refine lv_iinc (v := nI (i + 1)) (lv' := [(2, .int (nI (i + 1))), (0, .ref (bd 0)), (1, .int (nI y0))]) hx hb dX6_breakCourt_32 hl (k := 2) rfl (nI_1 _) (by decide) rfl (fun ls hl => ?_)
        refine lv_goto (tgt := 7) hx hb dX6_breakCourt_35 (by decide) ?_
        exact ih y0 hy0 hb9 (i + 1) (by omega) (hv.trans (by rw [scan, if_neg q24])) H locs ls hP hS (lv_sub hl [1, 2, 0] rfl)
  refine lv_aload_n hx hb dX6_breakCourt_0 rfl (lv_at hl 0 rfl) ?_
  refine x_calli (x_runV (As := []) (rest := []) hF (c6_breakYear hI S N hN hN5 C hC hC4 Y hY hY6 ) (cwV 0 hts gX6_breakCourt_X6_breakYear rfl rfl rfl (by decide +kernel) ⟨Nat.le_of_ble_eq_true rfl, Nat.le_of_ble_eq_true rfl⟩) hK hP (by decide) rfl rfl rfl hl.1 rfl (Nat.le_of_ble_eq_true rfl) dX6_breakCourt_1 ⟨Nat.zero_le _, Nat.zero_le _⟩) hS hAd (fun r1 S1 H locs hw hP _ hS => ?_)
  obtain ⟨hw, eS1⟩ := hw
  rw [eS1] at hP
  rcases scan_cases (fun y => decide (¬ mSet S N C y = 0)) Y 0 with hb9 | ⟨y0, -, hy0, -, hb9⟩
  · rw [show mBrk S N C Y = _ from hb9] at hw
    subst hw
    refine lv_istore_n (lv' := [(1, .int (-9)), (0, .ref (bd 0))]) hx hb dX6_breakCourt_4 rfl hl (by decide) rfl (fun ls hl => ?_)
    refine lv_iconst (v := 0) hx hb dX6_breakCourt_5 (by decide +kernel) ?_
    refine lv_istore_n (lv' := [(2, .int 0), (1, .int (-9)), (0, .ref (bd 0))]) hx hb dX6_breakCourt_6 rfl hl (by decide) rfl (fun ls hl => ?_)
    refine lv_iload_n hx hb dX6_breakCourt_7 rfl (lv_at hl 0 rfl) ?_
    refine lv_aload_n hx hb dX6_breakCourt_8 rfl (lv_at hl 2 rfl) ?_
    refine x_get (v := .int (nI C)) hx hb hts hinX6 hown hK hP 0 (by decide) rfl rfl 5 (by decide) (hts _ (List.mem_of_getElem? (i := 1) rfl)) (congrArg (fun z => some (Value.int z)) hC) dX6_breakCourt_9 ?_
    refine lv_icmp_ge (tgt := 38) hx hb dX6_breakCourt_12 (by decide) (fun c12 => ?_) (fun c12 => ?_)
    · have d12 := Int32.not_lt.mpr c12
      refine lv_bipush (v := (-9)) hx hb dX6_breakCourt_38 (by decide +kernel) ?_
      refine x_iret hx hb hr hlocks hP hS dX6_breakCourt_40 ?_
      exact ⟨by rw [mBC, if_pos (show mBrk S N C Y = -9 from hb9)], rfl⟩
    · have d12 := Int32.not_le.mp c12
      refine lv_iload_n hx hb dX6_breakCourt_15 rfl (lv_at hl 1 rfl) ?_
      refine lv_bipush (v := (-9)) hx hb dX6_breakCourt_16 (by decide +kernel) ?_
      refine lv_icmp_eq (tgt := 38) hx hb dX6_breakCourt_18 (by decide) (fun _ => ?_) (fun hc => absurd (by decide) hc)
      refine lv_bipush (v := (-9)) hx hb dX6_breakCourt_38 (by decide +kernel) ?_
      refine x_iret hx hb hr hlocks hP hS dX6_breakCourt_40 ?_
      exact ⟨by rw [mBC, if_pos (show mBrk S N C Y = -9 from hb9)], rfl⟩
  · rw [show mBrk S N C Y = _ from hb9] at hw
    subst hw
    refine lv_istore_n (lv' := [(1, .int (nI y0)), (0, .ref (bd 0))]) hx hb dX6_breakCourt_4 rfl hl (by decide) rfl (fun ls hl => ?_)
    refine lv_iconst (v := 0) hx hb dX6_breakCourt_5 (by decide +kernel) ?_
    refine lv_istore_n (lv' := [(2, .int 0), (1, .int (nI y0)), (0, .ref (bd 0))]) hx hb dX6_breakCourt_6 rfl hl (by decide) rfl (fun ls hl => ?_)
    exact L7 C y0 hy0 hb9 0 (Nat.zero_add C) (by rw [mBC, show mBrk S N C Y = _ from hb9, if_neg (nI_ne9 (by omega)), nN_nI (by omega)]) _ _ ls hP hS (lv_sub hl [2, 1, 0] rfl)

set_option maxHeartbeats 4000000 in
set_option maxRecDepth 100000 in
theorem c6_sentSet (hI : xI 18 bd) (S : xSt) (N : Nat) (hN : S 0 7 = nI N) (hN5 : N ≤ 5) : xMi l yX6_sentSet wsX6_sentSet ({ frames := 0, cells := 0, slots := 0, locals := 0 }) (dC, dI) vwCl (tyl cI cZ cS cG) (mLy cI cZ bd) 18 bd [.ref (bd 0)] S (fun r S' => r = mSent S N ∧ S' = S) := by
  refine xM_of (cc := cX6_sentSet) (nL := 3) (ret := (some .int)) (by decide) rfl (Nat.le_of_ble_eq_true rfl) ?_
  intro p e s m below meth c ls B hl hK hP
  obtain ⟨hx, hb, hml, hown, hts, hr, hlocks⟩ := B
  have hl : lv_has ls 3 [(0, .ref (bd 0))] := hl
  have hS : va_S (xA 18 bd) s.heap s.heap [] := va_S.rf
  have hAd : ∀ k, k < 18 → xA 18 bd (bd k) := xA_in
  have hinX6 : ∀ w ∈ wsX60, w ∈ wsX6_sentSet := fun _ h => List.mem_cons_of_mem _ (List.mem_append_right _ h)
  have hF : CallFix p m c cX6_sentSet 3 s _ wsX6_sentSet RX6 := ⟨hx, hb, hml, hown, hts⟩
  have L4 : ∀ (n : Nat) (i : Nat) (a : Int32) (hi : i + n = N) (hv : mSent S N = orL (fun s => if S 9 s = -9 then (0 : Int32) else 1 <<< (nI s &&& 31)) n i a) (H : Heap) (locs : List Loc) (ls : Array Slot), va_P (dC, dI) vwCl (xW (mLy cI cZ bd) 18 bd S) H → va_S (xA 18 bd) s.heap H locs → lv_has ls 3 [(0, .ref (bd 0)), (1, .int a), (2, .int (nI i))] → W p l e ({ frames := 0, cells := 0, slots := 0, locals := 0 }) s m ([.ref (bd 0)] : List Value).toArray below meth c H locs 0 0 (MQ below (xQi (dC, dI) vwCl (mLy cI cZ bd) 18 bd (fun r S' => r = mSent S N ∧ S' = S)) ([.ref (bd 0)] : List Value).toArray s 0 0 (xA 18 bd)) (F0 m 4 ls []) := by
    intro n
    induction n with
    | zero =>
      intro i a hi hv H locs ls hP hS hl
      refine lv_iload_n hx hb dX6_sentSet_4 rfl (lv_at hl 2 rfl) ?_
      refine lv_aload_n hx hb dX6_sentSet_5 rfl (lv_at hl 0 rfl) ?_
      refine x_get (v := .int (nI N)) hx hb hts hinX6 hown hK hP 0 (by decide) rfl rfl 7 (by decide) (hts _ (List.mem_of_getElem? (i := 1) rfl)) (congrArg (fun z => some (Value.int z)) hN) dX6_sentSet_6 ?_
      refine lv_icmp_ge (tgt := 39) hx hb dX6_sentSet_9 (by decide) (fun _ => ?_) (fun hc => absurd (nI_le (by omega) (by omega)) hc)
      refine lv_iload_n hx hb dX6_sentSet_39 rfl (lv_at hl 1 rfl) ?_
      refine x_iret hx hb hr hlocks hP hS dX6_sentSet_40 ?_
      exact ⟨hv.symm, rfl⟩
    | succ n ih =>
      intro i a hi hv H locs ls hP hS hl
      refine lv_iload_n hx hb dX6_sentSet_4 rfl (lv_at hl 2 rfl) ?_
      refine lv_aload_n hx hb dX6_sentSet_5 rfl (lv_at hl 0 rfl) ?_
      refine x_get (v := .int (nI N)) hx hb hts hinX6 hown hK hP 0 (by decide) rfl rfl 7 (by decide) (hts _ (List.mem_of_getElem? (i := 1) rfl)) (congrArg (fun z => some (Value.int z)) hN) dX6_sentSet_6 ?_
      refine lv_icmp_ge (tgt := 39) hx hb dX6_sentSet_9 (by decide) (fun hc => absurd hc (nI_ge (by omega) (by omega))) (fun _ => ?_)
      refine lv_iload_n hx hb dX6_sentSet_12 rfl (lv_at hl 1 rfl) ?_
      refine lv_aload_n hx hb dX6_sentSet_13 rfl (lv_at hl 0 rfl) ?_
      refine x_get (v := .ref (bd 9)) hx hb hts hinX6 hown hK hP 0 (by decide) rfl rfl 13 (by decide) (hts _ (List.mem_of_getElem? (i := 2) rfl)) rfl dX6_sentSet_14 ?_
      refine lv_iload_n hx hb dX6_sentSet_17 rfl (lv_at hl 2 rfl) ?_
      refine x_iald (v := S 9 i) hx hb hK hP 9 0 (by decide) rfl rfl i rfl (by omega) (by decide) rfl dX6_sentSet_18 ?_
      refine lv_bipush (v := (-9)) hx hb dX6_sentSet_19 (by decide +kernel) ?_
      refine lv_icmp_ne (tgt := 28) hx hb dX6_sentSet_21 (by decide) (fun c21 => ?_) (fun c21 => ?_)
      · refine lv_iconst (v := 1) hx hb dX6_sentSet_28 (by decide +kernel) ?_
        refine lv_iload_n hx hb dX6_sentSet_29 rfl (lv_at hl 2 rfl) ?_
        refine lv_ishl hx hb dX6_sentSet_30 ?_
        refine lv_ior hx hb dX6_sentSet_31 ?_
        refine lv_topi (fun x32 ex32 => ?_)
        refine lv_istore_n (lv' := [(1, .int x32), (0, .ref (bd 0)), (2, .int (nI i))]) hx hb dX6_sentSet_32 rfl hl (by decide) rfl (fun ls hl => ?_)
        refine lv_iinc (v := nI (i + 1)) (lv' := [(2, .int (nI (i + 1))), (1, .int x32), (0, .ref (bd 0))]) hx hb dX6_sentSet_33 hl (k := 2) rfl (nI_1 _) (by decide) rfl (fun ls hl => ?_)
        refine lv_goto (tgt := 4) hx hb dX6_sentSet_36 (by decide) ?_
        exact ih (i + 1) x32 (by omega) (hv.trans (congrArg (orL (fun s => if S 9 s = -9 then (0 : Int32) else 1 <<< (nI s &&& 31)) n (i + 1)) (show a ||| (fun s => if S 9 s = -9 then (0 : Int32) else 1 <<< (nI s &&& 31)) i = x32 from by subst ex32; simp [c21]))) H locs ls hP hS (lv_sub hl [2, 1, 0] rfl)
      · refine lv_iconst (v := 0) hx hb dX6_sentSet_24 (by decide +kernel) ?_
        refine lv_goto (tgt := 31) hx hb dX6_sentSet_25 (by decide) ?_
        refine lv_ior hx hb dX6_sentSet_31 ?_
        refine lv_topi (fun x32 ex32 => ?_)
        refine lv_istore_n (lv' := [(1, .int x32), (0, .ref (bd 0)), (2, .int (nI i))]) hx hb dX6_sentSet_32 rfl hl (by decide) rfl (fun ls hl => ?_)
        refine lv_iinc (v := nI (i + 1)) (lv' := [(2, .int (nI (i + 1))), (1, .int x32), (0, .ref (bd 0))]) hx hb dX6_sentSet_33 hl (k := 2) rfl (nI_1 _) (by decide) rfl (fun ls hl => ?_)
        refine lv_goto (tgt := 4) hx hb dX6_sentSet_36 (by decide) ?_
        exact ih (i + 1) x32 (by omega) (hv.trans (congrArg (orL (fun s => if S 9 s = -9 then (0 : Int32) else 1 <<< (nI s &&& 31)) n (i + 1)) (show a ||| (fun s => if S 9 s = -9 then (0 : Int32) else 1 <<< (nI s &&& 31)) i = x32 from by subst ex32; simp [c21]))) H locs ls hP hS (lv_sub hl [2, 1, 0] rfl)
  refine lv_iconst (v := 0) hx hb dX6_sentSet_0 (by decide +kernel) ?_
  refine lv_istore_n (lv' := [(1, .int 0), (0, .ref (bd 0))]) hx hb dX6_sentSet_1 rfl hl (by decide) rfl (fun ls hl => ?_)
  refine lv_iconst (v := 0) hx hb dX6_sentSet_2 (by decide +kernel) ?_
  refine lv_istore_n (lv' := [(2, .int 0), (1, .int 0), (0, .ref (bd 0))]) hx hb dX6_sentSet_3 rfl hl (by decide) rfl (fun ls hl => ?_)
  exact L4 N 0 0 (Nat.zero_add N) rfl _ _ ls hP hS (lv_sub hl [2, 1, 0] rfl)

set_option maxHeartbeats 4000000 in
set_option maxRecDepth 100000 in
theorem c6_size (hI : xI 18 bd) (S : xSt) (k0 : Nat) (hk0 : k0 < 64) : xMi l yX6_size wsX6_size ({ frames := 0, cells := 0, slots := 0, locals := 0 }) (dC, dI) vwCl (tyl cI cZ cS cG) (mLy cI cZ bd) 18 bd [.int (nI k0)] S (fun r S' => r = pcL 6 k0 0 ∧ S' = S) := by
  refine xM_of (cc := cX6_size) (nL := 3) (ret := (some .int)) (by decide) rfl (Nat.le_of_ble_eq_true rfl) ?_
  intro p e s m below meth c ls B hl hK hP
  obtain ⟨hx, hb, hml, hown, hts, hr, hlocks⟩ := B
  have hl : lv_has ls 3 [(0, .int (nI k0))] := hl
  have hS : va_S (xA 18 bd) s.heap s.heap [] := va_S.rf
  have hAd : ∀ k, k < 18 → xA 18 bd (bd k) := xA_in
  have hF : CallFix p m c cX6_size 3 s _ wsX6_size RX6 := ⟨hx, hb, hml, hown, hts⟩
  have L4 : ∀ (n : Nat) (k : Nat) (a : Int32) (hn : n ≤ 6) (hk : k < 2 ^ n) (hv : pcL 6 k0 0 = pcL n k a) (H : Heap) (locs : List Loc) (ls : Array Slot), va_P (dC, dI) vwCl (xW (mLy cI cZ bd) 18 bd S) H → va_S (xA 18 bd) s.heap H locs → lv_has ls 3 [(0, .int (nI k0)), (1, .int a), (2, .int (nI k))] → W p l e ({ frames := 0, cells := 0, slots := 0, locals := 0 }) s m ([.int (nI k0)] : List Value).toArray below meth c H locs 0 0 (MQ below (xQi (dC, dI) vwCl (mLy cI cZ bd) 18 bd (fun r S' => r = pcL 6 k0 0 ∧ S' = S)) ([.int (nI k0)] : List Value).toArray s 0 0 (xA 18 bd)) (F0 m 4 ls []) := by
    intro n
    induction n with
    | zero =>
      intro k a hn hk hv H locs ls hP hS hl
      refine lv_iload_n hx hb dX6_size_4 rfl (lv_at hl 2 rfl) ?_
      refine lv_if_le (tgt := 21) hx hb dX6_size_5 (by decide) (fun _ => ?_) (fun hc => absurd (by rw [show k = 0 by omega]; decide +kernel) hc)
      refine lv_iload_n hx hb dX6_size_21 rfl (lv_at hl 1 rfl) ?_
      refine x_iret hx hb hr hlocks hP hS dX6_size_22 ?_
      exact ⟨hv.symm, rfl⟩
    | succ n ih =>
      intro k a hn hk hv H locs ls hP hS hl
      have hk64 : k < 64 := Nat.lt_of_lt_of_le hk (Nat.pow_le_pow_right (n := 2) (by decide) (show n + 1 ≤ 6 from hn))
      refine lv_iload_n hx hb dX6_size_4 rfl (lv_at hl 2 rfl) ?_
      refine lv_if_le (tgt := 21) hx hb dX6_size_5 (by decide) (fun c5 => ?_) (fun c5 => ?_)
      · have d5 := Int32.not_lt.mpr c5
        refine lv_iload_n hx hb dX6_size_21 rfl (lv_at hl 1 rfl) ?_
        refine x_iret hx hb hr hlocks hP hS dX6_size_22 ?_
        exact ⟨by rw [hv, pcL, if_pos (nI_le0 c5 (by omega))], rfl⟩
      · have d5 := Int32.not_le.mp c5
        refine lv_iload_n hx hb dX6_size_8 rfl (lv_at hl 1 rfl) ?_
        refine lv_iload_n hx hb dX6_size_9 rfl (lv_at hl 2 rfl) ?_
        refine lv_iconst (v := 1) hx hb dX6_size_10 (by decide +kernel) ?_
        refine lv_iand hx hb dX6_size_11 ?_
        refine lv_iadd hx hb dX6_size_12 ?_
        refine lv_topi (fun x13 ex13 => ?_)
        obtain rfl : x13 = a + nI (k % 2) := by rw [ex13, show (nI k &&& 1) = nI (k % 2 ^ 1) from pk_andN (by omega) 1 (by decide +kernel)]
        refine lv_istore_n (lv' := [(1, .int (a + nI (k % 2))), (0, .int (nI k0)), (2, .int (nI k))]) hx hb dX6_size_13 rfl hl (by decide) rfl (fun ls hl => ?_)
        refine lv_iload_n hx hb dX6_size_14 rfl (lv_at hl 2 rfl) ?_
        refine lv_iconst (v := 1) hx hb dX6_size_15 (by decide +kernel) ?_
        refine lv_ishr hx hb dX6_size_16 ?_
        refine lv_topi (fun x17 ex17 => ?_)
        obtain rfl : x17 = nI (k / 2) := by rw [ex17, show (nI k >>> (1 &&& 31)) = nI (k / 2 ^ 1) from pk_shrN (by omega) _ 1 (by decide +kernel)]
        refine lv_istore_n (lv' := [(2, .int (nI (k / 2))), (1, .int (a + nI (k % 2))), (0, .int (nI k0))]) hx hb dX6_size_17 rfl hl (by decide) rfl (fun ls hl => ?_)
        refine lv_goto (tgt := 4) hx hb dX6_size_18 (by decide) ?_
        exact ih (k / 2) (a + nI (k % 2)) (by omega) (by rw [Nat.pow_succ] at hk; omega) (hv.trans (by rw [pcL, if_neg (fun hz => c5 (by rw [hz]; decide +kernel))])) H locs ls hP hS (lv_sub hl [2, 1, 0] rfl)
  refine lv_iconst (v := 0) hx hb dX6_size_0 (by decide +kernel) ?_
  refine lv_istore_n (lv' := [(1, .int 0), (0, .int (nI k0))]) hx hb dX6_size_1 rfl hl (by decide) rfl (fun ls hl => ?_)
  refine lv_iload_n hx hb dX6_size_2 rfl (lv_at hl 1 rfl) ?_
  refine lv_istore_n (lv' := [(2, .int (nI k0)), (1, .int 0), (0, .int (nI k0))]) hx hb dX6_size_3 rfl hl (by decide) rfl (fun ls hl => ?_)
  exact L4 6 k0 0 (Nat.le_refl 6) hk0 rfl _ _ ls hP hS (lv_sub hl [2, 1, 0] rfl)

set_option maxHeartbeats 4000000 in
set_option maxRecDepth 100000 in
theorem c6_areSo (hI : xI 18 bd) (S : xSt) (N : Nat) (hN : S 0 7 = nI N) (hN5 : N ≤ 5) (R : Nat) (hR : S 0 22 = nI R) (hR8 : R ≤ 8) (hrd : ∀ q, q < R → okN (S 14 q) 4 ∧ okN (S 15 q) 6) : xMi l yX6_areSo wsX6_areSo ({ frames := 3, cells := 0, slots := 0, locals := 70 }) (dC, dI) vwCl (tyl cI cZ cS cG) (mLy cI cZ bd) 18 bd [.ref (bd 0)] S (fun r S' => r = (if mSo (sr S 13 (askF S N)) N R = true then 1 else 0) ∧ S' = (sr S 13 (askF S N))) := by
  refine xM_of (cc := cX6_areSo) (nL := 2) (ret := (some .boolean)) (by decide) rfl (Nat.le_of_ble_eq_true rfl) ?_
  intro p e s m below meth c ls B hl hK hP
  obtain ⟨hx, hb, hml, hown, hts, hr, hlocks⟩ := B
  have hl : lv_has ls 2 [(0, .ref (bd 0))] := hl
  have hS : va_S (xA 18 bd) s.heap s.heap [] := va_S.rf
  have hAd : ∀ k, k < 18 → xA 18 bd (bd k) := xA_in
  have hinX6 : ∀ w ∈ wsX60, w ∈ wsX6_areSo := fun _ h => List.mem_cons_of_mem _ (List.mem_append_right _ h)
  have hF : CallFix p m c cX6_areSo 2 s _ wsX6_areSo RX6 := ⟨hx, hb, hml, hown, hts⟩
  have L6 : ∀ (n : Nat) (i : Nat) (hi : i + n = R) (hv : mSo (sr S 13 (askF S N)) N R = allL (fun q => decide ((if mT (sr S 13 (askF S N)) N (nN ((sr S 13 (askF S N)) 14 q)) (nN ((sr S 13 (askF S N)) 15 q)) = true then (1 : Int32) else 0) = (sr S 13 (askF S N)) 16 q)) n i) (H : Heap) (locs : List Loc) (ls : Array Slot), va_P (dC, dI) vwCl (xW (mLy cI cZ bd) 18 bd (sr S 13 (askF S N))) H → va_S (xA 18 bd) s.heap H locs → lv_has ls 2 [(0, .ref (bd 0)), (1, .int (nI i))] → W p l e ({ frames := 3, cells := 0, slots := 0, locals := 70 }) s m ([.ref (bd 0)] : List Value).toArray below meth c H locs 0 0 (MQ below (xQi (dC, dI) vwCl (mLy cI cZ bd) 18 bd (fun r S' => r = (if mSo (sr S 13 (askF S N)) N R = true then 1 else 0) ∧ S' = (sr S 13 (askF S N)))) ([.ref (bd 0)] : List Value).toArray s 0 0 (xA 18 bd)) (F0 m 6 ls []) := by
    intro n
    induction n with
    | zero =>
      intro i hi hv H locs ls hP hS hl
      refine lv_iload_n hx hb dX6_areSo_6 rfl (lv_at hl 1 rfl) ?_
      refine lv_aload_n hx hb dX6_areSo_7 rfl (lv_at hl 0 rfl) ?_
      refine x_get (v := .int (nI R)) hx hb hts hinX6 hown hK hP 0 (by decide) rfl rfl 22 (by decide) (hts _ (List.mem_of_getElem? (i := 1) rfl)) (congrArg (fun z => some (Value.int z)) hR) dX6_areSo_8 ?_
      refine lv_icmp_ge (tgt := 47) hx hb dX6_areSo_11 (by decide) (fun _ => ?_) (fun hc => absurd (nI_le (by omega) (by omega)) hc)
      refine lv_iconst (v := 1) hx hb dX6_areSo_47 (by decide +kernel) ?_
      refine x_zret hx hb hr hlocks hP hS dX6_areSo_48 (Or.inr rfl) ?_
      exact ⟨by rw [if_pos (show mSo (sr S 13 (askF S N)) N R = true from hv)], rfl⟩
    | succ n ih =>
      intro i hi hv H locs ls hP hS hl
      obtain ⟨⟨c0, hc0, ec0⟩, ⟨y0, hy0, ey0⟩⟩ := hrd i (by omega)
      have en : nN ((sr S 13 (askF S N)) 14 i) = c0 := by rw [show (sr S 13 (askF S N)) 14 i = nI c0 from ec0]; exact nN_nI (by omega)
      have em : nN ((sr S 13 (askF S N)) 15 i) = y0 := by rw [show (sr S 13 (askF S N)) 15 i = nI y0 from ey0]; exact nN_nI (by omega)
      refine lv_iload_n hx hb dX6_areSo_6 rfl (lv_at hl 1 rfl) ?_
      refine lv_aload_n hx hb dX6_areSo_7 rfl (lv_at hl 0 rfl) ?_
      refine x_get (v := .int (nI R)) hx hb hts hinX6 hown hK hP 0 (by decide) rfl rfl 22 (by decide) (hts _ (List.mem_of_getElem? (i := 1) rfl)) (congrArg (fun z => some (Value.int z)) hR) dX6_areSo_8 ?_
      refine lv_icmp_ge (tgt := 47) hx hb dX6_areSo_11 (by decide) (fun hc => absurd hc (nI_ge (by omega) (by omega))) (fun _ => ?_)
      refine lv_aload_n hx hb dX6_areSo_14 rfl (lv_at hl 0 rfl) ?_
      refine lv_aload_n hx hb dX6_areSo_15 rfl (lv_at hl 0 rfl) ?_
      refine x_get (v := .ref (bd 14)) hx hb hts hinX6 hown hK hP 0 (by decide) rfl rfl 23 (by decide) (hts _ (List.mem_of_getElem? (i := 2) rfl)) rfl dX6_areSo_16 ?_
      refine lv_iload_n hx hb dX6_areSo_19 rfl (lv_at hl 1 rfl) ?_
      refine x_iald (v := nI c0) hx hb hK hP 14 0 (by decide) rfl rfl i rfl (by omega) (by decide) ec0 dX6_areSo_20 ?_
      refine lv_aload_n hx hb dX6_areSo_21 rfl (lv_at hl 0 rfl) ?_
      refine x_get (v := .ref (bd 15)) hx hb hts hinX6 hown hK hP 0 (by decide) rfl rfl 24 (by decide) (hts _ (List.mem_of_getElem? (i := 3) rfl)) rfl dX6_areSo_22 ?_
      refine lv_iload_n hx hb dX6_areSo_25 rfl (lv_at hl 1 rfl) ?_
      refine x_iald (v := nI y0) hx hb hK hP 15 0 (by decide) rfl rfl i rfl (by omega) (by decide) ey0 dX6_areSo_26 ?_
      refine x_calli (x_runV (As := [.int (nI c0), .int (nI y0)]) (rest := []) hF (c6_isTempted hI (sr S 13 (askF S N)) N hN hN5 c0 y0 (by omega) (by omega) ) (cwV 2 hts gX6_areSo_X6_isTempted rfl rfl rfl (by decide +kernel) ⟨Nat.le_of_ble_eq_true rfl, Nat.le_of_ble_eq_true rfl⟩) hK hP (by decide) rfl rfl rfl hl.1 rfl (Nat.le_of_ble_eq_true rfl) dX6_areSo_27 ⟨Nat.zero_le _, Nat.zero_le _⟩) hS hAd (fun r27 S27 H locs hw hP _ hS => ?_)
      obtain ⟨hw, eS27⟩ := hw
      rw [eS27] at hP
      by_cases q27 : mT (sr S 13 (askF S N)) N c0 y0 = true
      · rw [if_pos q27] at hw
        subst hw
        refine lv_aload_n hx hb dX6_areSo_30 rfl (lv_at hl 0 rfl) ?_
        refine x_get (v := .ref (bd 16)) hx hb hts hinX6 hown hK hP 0 (by decide) rfl rfl 25 (by decide) (hts _ (List.mem_of_getElem? (i := 4) rfl)) rfl dX6_areSo_31 ?_
        refine lv_iload_n hx hb dX6_areSo_34 rfl (lv_at hl 1 rfl) ?_
        refine x_zald (v := S 16 i) hx hb hK hP 16 1 (by decide) rfl rfl i rfl (by omega) (by decide) rfl dX6_areSo_35 ?_
        refine lv_icmp_eq (tgt := 41) hx hb dX6_areSo_36 (by decide) (fun c36 => ?_) (fun c36 => ?_)
        · refine lv_iinc (v := nI (i + 1)) (lv' := [(1, .int (nI (i + 1))), (0, .ref (bd 0))]) hx hb dX6_areSo_41 hl (k := 1) rfl (nI_1 _) (by decide) rfl (fun ls hl => ?_)
          refine lv_goto (tgt := 6) hx hb dX6_areSo_44 (by decide) ?_
          exact ih (i + 1) (by omega) (hv.trans (by have c36 : _ = (sr S 13 (askF S N)) 16 i := c36; rw [allL]; simp [en, em, q27, ← c36])) H locs ls hP hS (lv_sub hl [1, 0] rfl)
        · refine lv_iconst (v := 0) hx hb dX6_areSo_39 (by decide +kernel) ?_
          refine x_zret hx hb hr hlocks hP hS dX6_areSo_40 (Or.inl rfl) ?_
          have c36 : ¬ _ = (sr S 13 (askF S N)) 16 i := c36
          exact ⟨by rw [hv, allL]; simp [en, em, q27, c36], rfl⟩
      · rw [if_neg q27] at hw
        subst hw
        refine lv_aload_n hx hb dX6_areSo_30 rfl (lv_at hl 0 rfl) ?_
        refine x_get (v := .ref (bd 16)) hx hb hts hinX6 hown hK hP 0 (by decide) rfl rfl 25 (by decide) (hts _ (List.mem_of_getElem? (i := 4) rfl)) rfl dX6_areSo_31 ?_
        refine lv_iload_n hx hb dX6_areSo_34 rfl (lv_at hl 1 rfl) ?_
        refine x_zald (v := S 16 i) hx hb hK hP 16 1 (by decide) rfl rfl i rfl (by omega) (by decide) rfl dX6_areSo_35 ?_
        refine lv_icmp_eq (tgt := 41) hx hb dX6_areSo_36 (by decide) (fun c36 => ?_) (fun c36 => ?_)
        · refine lv_iinc (v := nI (i + 1)) (lv' := [(1, .int (nI (i + 1))), (0, .ref (bd 0))]) hx hb dX6_areSo_41 hl (k := 1) rfl (nI_1 _) (by decide) rfl (fun ls hl => ?_)
          refine lv_goto (tgt := 6) hx hb dX6_areSo_44 (by decide) ?_
          exact ih (i + 1) (by omega) (hv.trans (by have c36 : _ = (sr S 13 (askF S N)) 16 i := c36; rw [allL]; simp [en, em, q27, ← c36])) H locs ls hP hS (lv_sub hl [1, 0] rfl)
        · refine lv_iconst (v := 0) hx hb dX6_areSo_39 (by decide +kernel) ?_
          refine x_zret hx hb hr hlocks hP hS dX6_areSo_40 (Or.inl rfl) ?_
          have c36 : ¬ _ = (sr S 13 (askF S N)) 16 i := c36
          exact ⟨by rw [hv, allL]; simp [en, em, q27, c36], rfl⟩
  refine lv_aload_n hx hb dX6_areSo_0 rfl (lv_at hl 0 rfl) ?_
  refine x_callv (x_runV (As := []) (rest := []) hF (c6_askNow hI S N hN hN5 ) (cwV 0 hts gX6_areSo_X6_askNow rfl rfl rfl (by decide +kernel) ⟨Nat.le_of_ble_eq_true rfl, Nat.le_of_ble_eq_true rfl⟩) hK hP (by decide) rfl rfl rfl hl.1 rfl (Nat.le_of_ble_eq_true rfl) dX6_areSo_1 ⟨Nat.zero_le _, Nat.zero_le _⟩) hS hAd (fun S1 H locs hw hP _ hS => ?_)
  rw [hw] at hP
  refine lv_iconst (v := 0) hx hb dX6_areSo_4 (by decide +kernel) ?_
  refine lv_istore_n (lv' := [(1, .int 0), (0, .ref (bd 0))]) hx hb dX6_areSo_5 rfl hl (by decide) rfl (fun ls hl => ?_)
  exact L6 R 0 (Nat.zero_add R) rfl _ _ ls hP hS (lv_sub hl [1, 0] rfl)

end M2
end
