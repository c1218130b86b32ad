section
-- ===== PART A: goes FIRST, ahead of the names: the tables' words, and 'selects' of the private methods out of them =====
/-- a private method of a class that the tables say can be made, by its rows of tables_1 -/
def lw_okq (q : MethodName × Nat) : Prop := (q.1.cls ≠ "java/lang/invoke/MethodHandle" ∧ q.1.cls ≠ "java/lang/invoke/VarHandle") ∧ Cond.instantiable q.1.cls q.2 ∈ tables_1 ∧ Cond.privateMethod q.1 ∈ tables_1 ∧ Cond.instanceMethod q.1 ∈ tables_1
theorem lw_p0 : lw_okq (⟨"java/lang/Throwable", "fillInStackTrace", "(I)Ljava/lang/Throwable;"⟩, 6) := ⟨⟨by decide +kernel, by decide +kernel⟩, List.mem_of_getElem? (i := 213) (by decide +kernel), List.mem_of_getElem? (i := 211) (by decide +kernel), List.mem_of_getElem? (i := 212) (by decide +kernel)⟩
theorem lw_p1 : lw_okq (⟨"NestedCore", "step", "()V"⟩, 12) := ⟨⟨by decide +kernel, by decide +kernel⟩, List.mem_of_getElem? (i := 16) (by decide +kernel), List.mem_of_getElem? (i := 321) (by decide +kernel), List.mem_of_getElem? (i := 322) (by decide +kernel)⟩
theorem lw_p2 : lw_okq (⟨"NestedCore", "take", "(I)V"⟩, 12) := ⟨⟨by decide +kernel, by decide +kernel⟩, List.mem_of_getElem? (i := 16) (by decide +kernel), List.mem_of_getElem? (i := 344) (by decide +kernel), List.mem_of_getElem? (i := 345) (by decide +kernel)⟩
theorem lw_p3 : lw_okq (⟨"NestedCore", "enter", "(I)V"⟩, 12) := ⟨⟨by decide +kernel, by decide +kernel⟩, List.mem_of_getElem? (i := 16) (by decide +kernel), List.mem_of_getElem? (i := 358) (by decide +kernel), List.mem_of_getElem? (i := 359) (by decide +kernel)⟩
theorem lw_p4 : lw_okq (⟨"NestedCore", "fetchFault", "()I"⟩, 12) := ⟨⟨by decide +kernel, by decide +kernel⟩, List.mem_of_getElem? (i := 16) (by decide +kernel), List.mem_of_getElem? (i := 365) (by decide +kernel), List.mem_of_getElem? (i := 366) (by decide +kernel)⟩
theorem lw_p5 : lw_okq (⟨"NestedCore", "fetch", "()I"⟩, 12) := ⟨⟨by decide +kernel, by decide +kernel⟩, List.mem_of_getElem? (i := 16) (by decide +kernel), List.mem_of_getElem? (i := 377) (by decide +kernel), List.mem_of_getElem? (i := 378) (by decide +kernel)⟩
theorem lw_p6 : lw_okq (⟨"NestedCore", "execute", "(I)I"⟩, 12) := ⟨⟨by decide +kernel, by decide +kernel⟩, List.mem_of_getElem? (i := 16) (by decide +kernel), List.mem_of_getElem? (i := 387) (by decide +kernel), List.mem_of_getElem? (i := 388) (by decide +kernel)⟩
theorem lw_p7 : lw_okq (⟨"NestedCore", "shift", "(I)I"⟩, 12) := ⟨⟨by decide +kernel, by decide +kernel⟩, List.mem_of_getElem? (i := 16) (by decide +kernel), List.mem_of_getElem? (i := 391) (by decide +kernel), List.mem_of_getElem? (i := 392) (by decide +kernel)⟩
theorem lw_p8 : lw_okq (⟨"NestedCore", "addThree", "(I)I"⟩, 12) := ⟨⟨by decide +kernel, by decide +kernel⟩, List.mem_of_getElem? (i := 16) (by decide +kernel), List.mem_of_getElem? (i := 399) (by decide +kernel), List.mem_of_getElem? (i := 400) (by decide +kernel)⟩
theorem lw_p9 : lw_okq (⟨"NestedCore", "withNumber", "(I)I"⟩, 12) := ⟨⟨by decide +kernel, by decide +kernel⟩, List.mem_of_getElem? (i := 16) (by decide +kernel), List.mem_of_getElem? (i := 414) (by decide +kernel), List.mem_of_getElem? (i := 415) (by decide +kernel)⟩
theorem lw_p10 : lw_okq (⟨"NestedCore", "combine", "(I)I"⟩, 12) := ⟨⟨by decide +kernel, by decide +kernel⟩, List.mem_of_getElem? (i := 16) (by decide +kernel), List.mem_of_getElem? (i := 418) (by decide +kernel), List.mem_of_getElem? (i := 419) (by decide +kernel)⟩
theorem lw_p11 : lw_okq (⟨"NestedCore", "bits", "(II)I"⟩, 12) := ⟨⟨by decide +kernel, by decide +kernel⟩, List.mem_of_getElem? (i := 16) (by decide +kernel), List.mem_of_getElem? (i := 422) (by decide +kernel), List.mem_of_getElem? (i := 423) (by decide +kernel)⟩
theorem lw_p12 : lw_okq (⟨"NestedCore", "copyOrBranch", "(I)I"⟩, 12) := ⟨⟨by decide +kernel, by decide +kernel⟩, List.mem_of_getElem? (i := 16) (by decide +kernel), List.mem_of_getElem? (i := 430) (by decide +kernel), List.mem_of_getElem? (i := 431) (by decide +kernel)⟩
theorem lw_p13 : lw_okq (⟨"NestedCore", "copyAny", "(I)I"⟩, 12) := ⟨⟨by decide +kernel, by decide +kernel⟩, List.mem_of_getElem? (i := 16) (by decide +kernel), List.mem_of_getElem? (i := 434) (by decide +kernel), List.mem_of_getElem? (i := 435) (by decide +kernel)⟩
theorem lw_p14 : lw_okq (⟨"NestedCore", "branchTo", "(I)I"⟩, 12) := ⟨⟨by decide +kernel, by decide +kernel⟩, List.mem_of_getElem? (i := 16) (by decide +kernel), List.mem_of_getElem? (i := 438) (by decide +kernel), List.mem_of_getElem? (i := 439) (by decide +kernel)⟩
theorem lw_p15 : lw_okq (⟨"NestedCore", "move", "(III)I"⟩, 12) := ⟨⟨by decide +kernel, by decide +kernel⟩, List.mem_of_getElem? (i := 16) (by decide +kernel), List.mem_of_getElem? (i := 442) (by decide +kernel), List.mem_of_getElem? (i := 443) (by decide +kernel)⟩
def lw_privs_1 : List (MethodName × Nat) := [(⟨"java/lang/Throwable", "fillInStackTrace", "(I)Ljava/lang/Throwable;"⟩, 6), (⟨"NestedCore", "step", "()V"⟩, 12), (⟨"NestedCore", "take", "(I)V"⟩, 12), (⟨"NestedCore", "enter", "(I)V"⟩, 12), (⟨"NestedCore", "fetchFault", "()I"⟩, 12), (⟨"NestedCore", "fetch", "()I"⟩, 12), (⟨"NestedCore", "execute", "(I)I"⟩, 12), (⟨"NestedCore", "shift", "(I)I"⟩, 12), (⟨"NestedCore", "addThree", "(I)I"⟩, 12), (⟨"NestedCore", "withNumber", "(I)I"⟩, 12), (⟨"NestedCore", "combine", "(I)I"⟩, 12), (⟨"NestedCore", "bits", "(II)I"⟩, 12), (⟨"NestedCore", "copyOrBranch", "(I)I"⟩, 12), (⟨"NestedCore", "copyAny", "(I)I"⟩, 12), (⟨"NestedCore", "branchTo", "(I)I"⟩, 12), (⟨"NestedCore", "move", "(III)I"⟩, 12)]
theorem lw_r1 : ∀ q ∈ lw_privs_1, lw_okq q := List.forall_mem_cons.mpr ⟨lw_p0, List.forall_mem_cons.mpr ⟨lw_p1, List.forall_mem_cons.mpr ⟨lw_p2, List.forall_mem_cons.mpr ⟨lw_p3, List.forall_mem_cons.mpr ⟨lw_p4, List.forall_mem_cons.mpr ⟨lw_p5, List.forall_mem_cons.mpr ⟨lw_p6, List.forall_mem_cons.mpr ⟨lw_p7, List.forall_mem_cons.mpr ⟨lw_p8, List.forall_mem_cons.mpr ⟨lw_p9, List.forall_mem_cons.mpr ⟨lw_p10, List.forall_mem_cons.mpr ⟨lw_p11, List.forall_mem_cons.mpr ⟨lw_p12, List.forall_mem_cons.mpr ⟨lw_p13, List.forall_mem_cons.mpr ⟨lw_p14, List.forall_mem_cons.mpr ⟨lw_p15, fun _ h => absurd h List.not_mem_nil⟩⟩⟩⟩⟩⟩⟩⟩⟩⟩⟩⟩⟩⟩⟩⟩
theorem lw_p16 : lw_okq (⟨"NestedCore", "faultAlong", "(III)I"⟩, 12) := ⟨⟨by decide +kernel, by decide +kernel⟩, List.mem_of_getElem? (i := 16) (by decide +kernel), List.mem_of_getElem? (i := 446) (by decide +kernel), List.mem_of_getElem? (i := 447) (by decide +kernel)⟩
theorem lw_p17 : lw_okq (⟨"NestedCore", "stackOrSwitch", "(I)I"⟩, 12) := ⟨⟨by decide +kernel, by decide +kernel⟩, List.mem_of_getElem? (i := 16) (by decide +kernel), List.mem_of_getElem? (i := 450) (by decide +kernel), List.mem_of_getElem? (i := 451) (by decide +kernel)⟩
theorem lw_p18 : lw_okq (⟨"NestedCore", "push", "(I)I"⟩, 12) := ⟨⟨by decide +kernel, by decide +kernel⟩, List.mem_of_getElem? (i := 16) (by decide +kernel), List.mem_of_getElem? (i := 454) (by decide +kernel), List.mem_of_getElem? (i := 455) (by decide +kernel)⟩
theorem lw_p19 : lw_okq (⟨"NestedCore", "pop", "(I)I"⟩, 12) := ⟨⟨by decide +kernel, by decide +kernel⟩, List.mem_of_getElem? (i := 16) (by decide +kernel), List.mem_of_getElem? (i := 464) (by decide +kernel), List.mem_of_getElem? (i := 465) (by decide +kernel)⟩
theorem lw_p20 : lw_okq (⟨"NestedCore", "switchOrNothing", "(I)I"⟩, 12) := ⟨⟨by decide +kernel, by decide +kernel⟩, List.mem_of_getElem? (i := 16) (by decide +kernel), List.mem_of_getElem? (i := 468) (by decide +kernel), List.mem_of_getElem? (i := 469) (by decide +kernel)⟩
theorem lw_p21 : lw_okq (⟨"NestedCore", "callOut", "()I"⟩, 12) := ⟨⟨by decide +kernel, by decide +kernel⟩, List.mem_of_getElem? (i := 16) (by decide +kernel), List.mem_of_getElem? (i := 473) (by decide +kernel), List.mem_of_getElem? (i := 474) (by decide +kernel)⟩
theorem lw_p22 : lw_okq (⟨"NestedCore", "branchIf", "(I)I"⟩, 12) := ⟨⟨by decide +kernel, by decide +kernel⟩, List.mem_of_getElem? (i := 16) (by decide +kernel), List.mem_of_getElem? (i := 478) (by decide +kernel), List.mem_of_getElem? (i := 479) (by decide +kernel)⟩
theorem lw_p23 : lw_okq (⟨"NestedCore", "branch", "(I)I"⟩, 12) := ⟨⟨by decide +kernel, by decide +kernel⟩, List.mem_of_getElem? (i := 16) (by decide +kernel), List.mem_of_getElem? (i := 486) (by decide +kernel), List.mem_of_getElem? (i := 487) (by decide +kernel)⟩
theorem lw_p24 : lw_okq (⟨"NestedCore", "land", "()I"⟩, 12) := ⟨⟨by decide +kernel, by decide +kernel⟩, List.mem_of_getElem? (i := 16) (by decide +kernel), List.mem_of_getElem? (i := 490) (by decide +kernel), List.mem_of_getElem? (i := 491) (by decide +kernel)⟩
theorem lw_p25 : lw_okq (⟨"NestedCore", "comeBack", "(I)I"⟩, 12) := ⟨⟨by decide +kernel, by decide +kernel⟩, List.mem_of_getElem? (i := 16) (by decide +kernel), List.mem_of_getElem? (i := 494) (by decide +kernel), List.mem_of_getElem? (i := 495) (by decide +kernel)⟩
theorem lw_p26 : lw_okq (⟨"NestedCore", "unstack", "(II)V"⟩, 12) := ⟨⟨by decide +kernel, by decide +kernel⟩, List.mem_of_getElem? (i := 16) (by decide +kernel), List.mem_of_getElem? (i := 502) (by decide +kernel), List.mem_of_getElem? (i := 503) (by decide +kernel)⟩
theorem lw_p27 : lw_okq (⟨"NestedCore", "raise", "(I)V"⟩, 12) := ⟨⟨by decide +kernel, by decide +kernel⟩, List.mem_of_getElem? (i := 16) (by decide +kernel), List.mem_of_getElem? (i := 510) (by decide +kernel), List.mem_of_getElem? (i := 511) (by decide +kernel)⟩
theorem lw_p28 : lw_okq (⟨"NestedCoreModel", "fails", "(Z)Z"⟩, 26) := ⟨⟨by decide +kernel, by decide +kernel⟩, List.mem_of_getElem? (i := 526) (by decide +kernel), List.mem_of_getElem? (i := 622) (by decide +kernel), List.mem_of_getElem? (i := 623) (by decide +kernel)⟩
theorem lw_p29 : lw_okq (⟨"NestedCoreModel", "store", "(II)V"⟩, 26) := ⟨⟨by decide +kernel, by decide +kernel⟩, List.mem_of_getElem? (i := 526) (by decide +kernel), List.mem_of_getElem? (i := 626) (by decide +kernel), List.mem_of_getElem? (i := 627) (by decide +kernel)⟩
theorem lw_p30 : lw_okq (⟨"NestedCoreModel", "load", "(I)I"⟩, 26) := ⟨⟨by decide +kernel, by decide +kernel⟩, List.mem_of_getElem? (i := 526) (by decide +kernel), List.mem_of_getElem? (i := 634) (by decide +kernel), List.mem_of_getElem? (i := 635) (by decide +kernel)⟩
theorem lw_p31 : lw_okq (⟨"NestedCoreModel", "step", "()V"⟩, 26) := ⟨⟨by decide +kernel, by decide +kernel⟩, List.mem_of_getElem? (i := 526) (by decide +kernel), List.mem_of_getElem? (i := 662) (by decide +kernel), List.mem_of_getElem? (i := 663) (by decide +kernel)⟩
def lw_privs_2 : List (MethodName × Nat) := [(⟨"NestedCore", "faultAlong", "(III)I"⟩, 12), (⟨"NestedCore", "stackOrSwitch", "(I)I"⟩, 12), (⟨"NestedCore", "push", "(I)I"⟩, 12), (⟨"NestedCore", "pop", "(I)I"⟩, 12), (⟨"NestedCore", "switchOrNothing", "(I)I"⟩, 12), (⟨"NestedCore", "callOut", "()I"⟩, 12), (⟨"NestedCore", "branchIf", "(I)I"⟩, 12), (⟨"NestedCore", "branch", "(I)I"⟩, 12), (⟨"NestedCore", "land", "()I"⟩, 12), (⟨"NestedCore", "comeBack", "(I)I"⟩, 12), (⟨"NestedCore", "unstack", "(II)V"⟩, 12), (⟨"NestedCore", "raise", "(I)V"⟩, 12), (⟨"NestedCoreModel", "fails", "(Z)Z"⟩, 26), (⟨"NestedCoreModel", "store", "(II)V"⟩, 26), (⟨"NestedCoreModel", "load", "(I)I"⟩, 26), (⟨"NestedCoreModel", "step", "()V"⟩, 26)]
theorem lw_r2 : ∀ q ∈ lw_privs_2, lw_okq q := List.forall_mem_cons.mpr ⟨lw_p16, List.forall_mem_cons.mpr ⟨lw_p17, List.forall_mem_cons.mpr ⟨lw_p18, List.forall_mem_cons.mpr ⟨lw_p19, List.forall_mem_cons.mpr ⟨lw_p20, List.forall_mem_cons.mpr ⟨lw_p21, List.forall_mem_cons.mpr ⟨lw_p22, List.forall_mem_cons.mpr ⟨lw_p23, List.forall_mem_cons.mpr ⟨lw_p24, List.forall_mem_cons.mpr ⟨lw_p25, List.forall_mem_cons.mpr ⟨lw_p26, List.forall_mem_cons.mpr ⟨lw_p27, List.forall_mem_cons.mpr ⟨lw_p28, List.forall_mem_cons.mpr ⟨lw_p29, List.forall_mem_cons.mpr ⟨lw_p30, List.forall_mem_cons.mpr ⟨lw_p31, fun _ h => absurd h List.not_mem_nil⟩⟩⟩⟩⟩⟩⟩⟩⟩⟩⟩⟩⟩⟩⟩⟩
theorem lw_p32 : lw_okq (⟨"NestedCoreModel", "due", "()I"⟩, 26) := ⟨⟨by decide +kernel, by decide +kernel⟩, List.mem_of_getElem? (i := 526) (by decide +kernel), List.mem_of_getElem? (i := 666) (by decide +kernel), List.mem_of_getElem? (i := 667) (by decide +kernel)⟩
theorem lw_p33 : lw_okq (⟨"NestedCoreModel", "group", "(I)I"⟩, 26) := ⟨⟨by decide +kernel, by decide +kernel⟩, List.mem_of_getElem? (i := 526) (by decide +kernel), List.mem_of_getElem? (i := 670) (by decide +kernel), List.mem_of_getElem? (i := 671) (by decide +kernel)⟩
theorem lw_p34 : lw_okq (⟨"NestedCoreModel", "level", "()I"⟩, 26) := ⟨⟨by decide +kernel, by decide +kernel⟩, List.mem_of_getElem? (i := 526) (by decide +kernel), List.mem_of_getElem? (i := 674) (by decide +kernel), List.mem_of_getElem? (i := 675) (by decide +kernel)⟩
theorem lw_p35 : lw_okq (⟨"NestedCoreModel", "take", "(I)V"⟩, 26) := ⟨⟨by decide +kernel, by decide +kernel⟩, List.mem_of_getElem? (i := 526) (by decide +kernel), List.mem_of_getElem? (i := 678) (by decide +kernel), List.mem_of_getElem? (i := 679) (by decide +kernel)⟩
theorem lw_p36 : lw_okq (⟨"NestedCoreModel", "status", "(Z)I"⟩, 26) := ⟨⟨by decide +kernel, by decide +kernel⟩, List.mem_of_getElem? (i := 526) (by decide +kernel), List.mem_of_getElem? (i := 685) (by decide +kernel), List.mem_of_getElem? (i := 686) (by decide +kernel)⟩
theorem lw_p37 : lw_okq (⟨"NestedCoreModel", "enter", "(I)V"⟩, 26) := ⟨⟨by decide +kernel, by decide +kernel⟩, List.mem_of_getElem? (i := 526) (by decide +kernel), List.mem_of_getElem? (i := 693) (by decide +kernel), List.mem_of_getElem? (i := 694) (by decide +kernel)⟩
theorem lw_p38 : lw_okq (⟨"NestedCoreModel", "fetched", "()I"⟩, 26) := ⟨⟨by decide +kernel, by decide +kernel⟩, List.mem_of_getElem? (i := 526) (by decide +kernel), List.mem_of_getElem? (i := 697) (by decide +kernel), List.mem_of_getElem? (i := 698) (by decide +kernel)⟩
theorem lw_p39 : lw_okq (⟨"NestedCoreModel", "barred", "(II)Z"⟩, 26) := ⟨⟨by decide +kernel, by decide +kernel⟩, List.mem_of_getElem? (i := 526) (by decide +kernel), List.mem_of_getElem? (i := 701) (by decide +kernel), List.mem_of_getElem? (i := 702) (by decide +kernel)⟩
theorem lw_p40 : lw_okq (⟨"NestedCoreModel", "does", "(I)I"⟩, 26) := ⟨⟨by decide +kernel, by decide +kernel⟩, List.mem_of_getElem? (i := 526) (by decide +kernel), List.mem_of_getElem? (i := 705) (by decide +kernel), List.mem_of_getElem? (i := 706) (by decide +kernel)⟩
theorem lw_p41 : lw_okq (⟨"NestedCoreModel", "exchange", "(I)I"⟩, 26) := ⟨⟨by decide +kernel, by decide +kernel⟩, List.mem_of_getElem? (i := 526) (by decide +kernel), List.mem_of_getElem? (i := 710) (by decide +kernel), List.mem_of_getElem? (i := 711) (by decide +kernel)⟩
theorem lw_p42 : lw_okq (⟨"NestedCoreModel", "jump", "(II)I"⟩, 26) := ⟨⟨by decide +kernel, by decide +kernel⟩, List.mem_of_getElem? (i := 526) (by decide +kernel), List.mem_of_getElem? (i := 714) (by decide +kernel), List.mem_of_getElem? (i := 715) (by decide +kernel)⟩
theorem lw_p43 : lw_okq (⟨"NestedCoreModel", "isReturn", "(I)Z"⟩, 26) := ⟨⟨by decide +kernel, by decide +kernel⟩, List.mem_of_getElem? (i := 526) (by decide +kernel), List.mem_of_getElem? (i := 718) (by decide +kernel), List.mem_of_getElem? (i := 719) (by decide +kernel)⟩
theorem lw_p44 : lw_okq (⟨"NestedCoreModel", "isBack", "(II)Z"⟩, 26) := ⟨⟨by decide +kernel, by decide +kernel⟩, List.mem_of_getElem? (i := 526) (by decide +kernel), List.mem_of_getElem? (i := 722) (by decide +kernel), List.mem_of_getElem? (i := 723) (by decide +kernel)⟩
theorem lw_p45 : lw_okq (⟨"NestedCoreModel", "comeBack", "(I)V"⟩, 26) := ⟨⟨by decide +kernel, by decide +kernel⟩, List.mem_of_getElem? (i := 526) (by decide +kernel), List.mem_of_getElem? (i := 726) (by decide +kernel), List.mem_of_getElem? (i := 727) (by decide +kernel)⟩
theorem lw_p46 : lw_okq (⟨"NestedCoreModel", "flags", "(I)V"⟩, 26) := ⟨⟨by decide +kernel, by decide +kernel⟩, List.mem_of_getElem? (i := 526) (by decide +kernel), List.mem_of_getElem? (i := 730) (by decide +kernel), List.mem_of_getElem? (i := 731) (by decide +kernel)⟩
theorem lw_p47 : lw_okq (⟨"NestedCoreModel", "pop", "(I)I"⟩, 26) := ⟨⟨by decide +kernel, by decide +kernel⟩, List.mem_of_getElem? (i := 526) (by decide +kernel), List.mem_of_getElem? (i := 734) (by decide +kernel), List.mem_of_getElem? (i := 735) (by decide +kernel)⟩
def lw_privs_3 : List (MethodName × Nat) := [(⟨"NestedCoreModel", "due", "()I"⟩, 26), (⟨"NestedCoreModel", "group", "(I)I"⟩, 26), (⟨"NestedCoreModel", "level", "()I"⟩, 26), (⟨"NestedCoreModel", "take", "(I)V"⟩, 26), (⟨"NestedCoreModel", "status", "(Z)I"⟩, 26), (⟨"NestedCoreModel", "enter", "(I)V"⟩, 26), (⟨"NestedCoreModel", "fetched", "()I"⟩, 26), (⟨"NestedCoreModel", "barred", "(II)Z"⟩, 26), (⟨"NestedCoreModel", "does", "(I)I"⟩, 26), (⟨"NestedCoreModel", "exchange", "(I)I"⟩, 26), (⟨"NestedCoreModel", "jump", "(II)I"⟩, 26), (⟨"NestedCoreModel", "isReturn", "(I)Z"⟩, 26), (⟨"NestedCoreModel", "isBack", "(II)Z"⟩, 26), (⟨"NestedCoreModel", "comeBack", "(I)V"⟩, 26), (⟨"NestedCoreModel", "flags", "(I)V"⟩, 26), (⟨"NestedCoreModel", "pop", "(I)I"⟩, 26)]
theorem lw_r3 : ∀ q ∈ lw_privs_3, lw_okq q := List.forall_mem_cons.mpr ⟨lw_p32, List.forall_mem_cons.mpr ⟨lw_p33, List.forall_mem_cons.mpr ⟨lw_p34, List.forall_mem_cons.mpr ⟨lw_p35, List.forall_mem_cons.mpr ⟨lw_p36, List.forall_mem_cons.mpr ⟨lw_p37, List.forall_mem_cons.mpr ⟨lw_p38, List.forall_mem_cons.mpr ⟨lw_p39, List.forall_mem_cons.mpr ⟨lw_p40, List.forall_mem_cons.mpr ⟨lw_p41, List.forall_mem_cons.mpr ⟨lw_p42, List.forall_mem_cons.mpr ⟨lw_p43, List.forall_mem_cons.mpr ⟨lw_p44, List.forall_mem_cons.mpr ⟨lw_p45, List.forall_mem_cons.mpr ⟨lw_p46, List.forall_mem_cons.mpr ⟨lw_p47, fun _ h => absurd h List.not_mem_nil⟩⟩⟩⟩⟩⟩⟩⟩⟩⟩⟩⟩⟩⟩⟩⟩
theorem lw_p48 : lw_okq (⟨"NestedCoreModel", "faultOf", "(III)I"⟩, 26) := ⟨⟨by decide +kernel, by decide +kernel⟩, List.mem_of_getElem? (i := 526) (by decide +kernel), List.mem_of_getElem? (i := 741) (by decide +kernel), List.mem_of_getElem? (i := 742) (by decide +kernel)⟩
theorem lw_p49 : lw_okq (⟨"NestedCoreModel", "conditional", "(I)I"⟩, 26) := ⟨⟨by decide +kernel, by decide +kernel⟩, List.mem_of_getElem? (i := 526) (by decide +kernel), List.mem_of_getElem? (i := 745) (by decide +kernel), List.mem_of_getElem? (i := 746) (by decide +kernel)⟩
theorem lw_p50 : lw_okq (⟨"NestedCoreModel", "holds", "(I)Z"⟩, 26) := ⟨⟨by decide +kernel, by decide +kernel⟩, List.mem_of_getElem? (i := 526) (by decide +kernel), List.mem_of_getElem? (i := 749) (by decide +kernel), List.mem_of_getElem? (i := 750) (by decide +kernel)⟩
theorem lw_p51 : lw_okq (⟨"NestedCoreModel", "plain", "(I)I"⟩, 26) := ⟨⟨by decide +kernel, by decide +kernel⟩, List.mem_of_getElem? (i := 526) (by decide +kernel), List.mem_of_getElem? (i := 753) (by decide +kernel), List.mem_of_getElem? (i := 754) (by decide +kernel)⟩
theorem lw_p52 : lw_okq (⟨"NestedCoreModel", "shift", "(I)I"⟩, 26) := ⟨⟨by decide +kernel, by decide +kernel⟩, List.mem_of_getElem? (i := 526) (by decide +kernel), List.mem_of_getElem? (i := 757) (by decide +kernel), List.mem_of_getElem? (i := 758) (by decide +kernel)⟩
theorem lw_p53 : lw_okq (⟨"NestedCoreModel", "test", "(I)V"⟩, 26) := ⟨⟨by decide +kernel, by decide +kernel⟩, List.mem_of_getElem? (i := 526) (by decide +kernel), List.mem_of_getElem? (i := 761) (by decide +kernel), List.mem_of_getElem? (i := 762) (by decide +kernel)⟩
theorem lw_p54 : lw_okq (⟨"NestedCoreModel", "sum", "(III)I"⟩, 26) := ⟨⟨by decide +kernel, by decide +kernel⟩, List.mem_of_getElem? (i := 526) (by decide +kernel), List.mem_of_getElem? (i := 765) (by decide +kernel), List.mem_of_getElem? (i := 766) (by decide +kernel)⟩
theorem lw_p55 : lw_okq (⟨"NestedCoreModel", "immediate", "(I)I"⟩, 26) := ⟨⟨by decide +kernel, by decide +kernel⟩, List.mem_of_getElem? (i := 526) (by decide +kernel), List.mem_of_getElem? (i := 770) (by decide +kernel), List.mem_of_getElem? (i := 771) (by decide +kernel)⟩
theorem lw_p56 : lw_okq (⟨"NestedCoreModel", "logic", "(I)I"⟩, 26) := ⟨⟨by decide +kernel, by decide +kernel⟩, List.mem_of_getElem? (i := 526) (by decide +kernel), List.mem_of_getElem? (i := 774) (by decide +kernel), List.mem_of_getElem? (i := 775) (by decide +kernel)⟩
theorem lw_p57 : lw_okq (⟨"NestedCoreModel", "moveHigh", "(I)I"⟩, 26) := ⟨⟨by decide +kernel, by decide +kernel⟩, List.mem_of_getElem? (i := 526) (by decide +kernel), List.mem_of_getElem? (i := 778) (by decide +kernel), List.mem_of_getElem? (i := 779) (by decide +kernel)⟩
theorem lw_p58 : lw_okq (⟨"NestedCoreModel", "move", "(IIZ)I"⟩, 26) := ⟨⟨by decide +kernel, by decide +kernel⟩, List.mem_of_getElem? (i := 526) (by decide +kernel), List.mem_of_getElem? (i := 782) (by decide +kernel), List.mem_of_getElem? (i := 783) (by decide +kernel)⟩
theorem lw_p59 : lw_okq (⟨"NestedCoreModel", "special", "(I)I"⟩, 26) := ⟨⟨by decide +kernel, by decide +kernel⟩, List.mem_of_getElem? (i := 526) (by decide +kernel), List.mem_of_getElem? (i := 786) (by decide +kernel), List.mem_of_getElem? (i := 787) (by decide +kernel)⟩
theorem lw_p60 : lw_okq (⟨"NestedCoreModel", "push", "(I)I"⟩, 26) := ⟨⟨by decide +kernel, by decide +kernel⟩, List.mem_of_getElem? (i := 526) (by decide +kernel), List.mem_of_getElem? (i := 794) (by decide +kernel), List.mem_of_getElem? (i := 795) (by decide +kernel)⟩
theorem lw_p61 : lw_okq (⟨"NestedCoreModel", "fault", "(I)V"⟩, 26) := ⟨⟨by decide +kernel, by decide +kernel⟩, List.mem_of_getElem? (i := 526) (by decide +kernel), List.mem_of_getElem? (i := 799) (by decide +kernel), List.mem_of_getElem? (i := 800) (by decide +kernel)⟩
def lw_privs_4 : List (MethodName × Nat) := [(⟨"NestedCoreModel", "faultOf", "(III)I"⟩, 26), (⟨"NestedCoreModel", "conditional", "(I)I"⟩, 26), (⟨"NestedCoreModel", "holds", "(I)Z"⟩, 26), (⟨"NestedCoreModel", "plain", "(I)I"⟩, 26), (⟨"NestedCoreModel", "shift", "(I)I"⟩, 26), (⟨"NestedCoreModel", "test", "(I)V"⟩, 26), (⟨"NestedCoreModel", "sum", "(III)I"⟩, 26), (⟨"NestedCoreModel", "immediate", "(I)I"⟩, 26), (⟨"NestedCoreModel", "logic", "(I)I"⟩, 26), (⟨"NestedCoreModel", "moveHigh", "(I)I"⟩, 26), (⟨"NestedCoreModel", "move", "(IIZ)I"⟩, 26), (⟨"NestedCoreModel", "special", "(I)I"⟩, 26), (⟨"NestedCoreModel", "push", "(I)I"⟩, 26), (⟨"NestedCoreModel", "fault", "(I)V"⟩, 26)]
theorem lw_r4 : ∀ q ∈ lw_privs_4, lw_okq q := List.forall_mem_cons.mpr ⟨lw_p48, List.forall_mem_cons.mpr ⟨lw_p49, List.forall_mem_cons.mpr ⟨lw_p50, List.forall_mem_cons.mpr ⟨lw_p51, List.forall_mem_cons.mpr ⟨lw_p52, List.forall_mem_cons.mpr ⟨lw_p53, List.forall_mem_cons.mpr ⟨lw_p54, List.forall_mem_cons.mpr ⟨lw_p55, List.forall_mem_cons.mpr ⟨lw_p56, List.forall_mem_cons.mpr ⟨lw_p57, List.forall_mem_cons.mpr ⟨lw_p58, List.forall_mem_cons.mpr ⟨lw_p59, List.forall_mem_cons.mpr ⟨lw_p60, List.forall_mem_cons.mpr ⟨lw_p61, fun _ h => absurd h List.not_mem_nil⟩⟩⟩⟩⟩⟩⟩⟩⟩⟩⟩⟩⟩⟩
def lw_privs : List (MethodName × Nat) := lw_privs_1 ++ (lw_privs_2 ++ (lw_privs_3 ++ (lw_privs_4)))
def lw_tbl : List Cond := k2_sels lw_privs ++ tables_1
theorem lw_privs_ok : ∀ q ∈ lw_privs, lw_okq q := by
  show ∀ q ∈ lw_privs_1 ++ (lw_privs_2 ++ (lw_privs_3 ++ (lw_privs_4))), lw_okq q
  exact List.forall_mem_append.mpr ⟨lw_r1, List.forall_mem_append.mpr ⟨lw_r2, List.forall_mem_append.mpr ⟨lw_r3, lw_r4⟩⟩⟩
end
section
def F_N : u_T := fun k => match k with
  | 0 => ("NestedCore", "registers", "[I", true)
  | 1 => ("NestedCore", "before", "[I", true)
  | 2 => ("NestedCore", "memory", "LNestedCore$Memory;", true)
  | 3 => ("NestedCore", "areas", "LNestedCore$Areas;", true)
  | 4 => ("NestedCore", "exceptions", "LNestedCore$Exceptions;", true)
  | 5 => ("NestedCore", "flags", "LNestedCore$Flags;", true)
  | 6 => ("NestedCore", "ticker", "LNestedCore$Ticker;", true)
  | 7 => ("NestedCore", "number", "I", false)
  | 8 => ("NestedCore", "halted", "I", false)
  | 9 => ("NestedCore", "taken", "I", false)
  | 10 => ("NestedCore", "chained", "I", false)
  | _ => ("NestedCore", "faulted", "I", false)
def t_N : Nat → FieldType := fun k => match k with
  | 0 => .array .int
  | 1 => .array .int
  | 2 => .object "NestedCore$Memory"
  | 3 => .object "NestedCore$Areas"
  | 4 => .object "NestedCore$Exceptions"
  | 5 => .object "NestedCore$Flags"
  | 6 => .object "NestedCore$Ticker"
  | 7 => .int
  | 8 => .int
  | 9 => .int
  | 10 => .int
  | _ => .int
theorem n_N : ∀ a, a < 12 → ∀ b, b < 12 → a ≠ b → (F_N a).2.1 ≠ (F_N b).2.1 := by decide +kernel
theorem t_N_ok : ∀ k, k < 12 → parseFieldDescriptor (F_N k).2.2.1 = some (t_N k) := by decide +kernel
def F_Me : u_T := fun k => match k with
  | _ => ("NestedCore$Memory", "words", "[I", true)
def t_Me : Nat → FieldType := fun k => match k with
  | _ => .array .int
theorem n_Me : ∀ a, a < 1 → ∀ b, b < 1 → a ≠ b → (F_Me a).2.1 ≠ (F_Me b).2.1 := by decide +kernel
theorem t_Me_ok : ∀ k, k < 1 → parseFieldDescriptor (F_Me k).2.2.1 = some (t_Me k) := by decide +kernel
def F_Ar : u_T := fun k => match k with
  | 0 => ("NestedCore$Areas", "starts", "[I", true)
  | 1 => ("NestedCore$Areas", "sizes", "[I", true)
  | 2 => ("NestedCore$Areas", "rights", "[I", true)
  | _ => ("NestedCore$Areas", "nevers", "[Z", true)
def t_Ar : Nat → FieldType := fun k => match k with
  | 0 => .array .int
  | 1 => .array .int
  | 2 => .array .int
  | _ => .array .boolean
theorem n_Ar : ∀ a, a < 4 → ∀ b, b < 4 → a ≠ b → (F_Ar a).2.1 ≠ (F_Ar b).2.1 := by decide +kernel
theorem t_Ar_ok : ∀ k, k < 4 → parseFieldDescriptor (F_Ar k).2.2.1 = some (t_Ar k) := by decide +kernel
def F_Ex : u_T := fun k => match k with
  | 0 => ("NestedCore$Exceptions", "enabled", "[Z", true)
  | 1 => ("NestedCore$Exceptions", "pending", "[Z", true)
  | 2 => ("NestedCore$Exceptions", "active", "[Z", true)
  | 3 => ("NestedCore$Exceptions", "priorities", "[I", true)
  | 4 => ("NestedCore$Exceptions", "split", "I", false)
  | 5 => ("NestedCore$Exceptions", "floor", "I", false)
  | 6 => ("NestedCore$Exceptions", "mask", "Z", false)
  | _ => ("NestedCore$Exceptions", "faults", "Z", false)
def t_Ex : Nat → FieldType := fun k => match k with
  | 0 => .array .boolean
  | 1 => .array .boolean
  | 2 => .array .boolean
  | 3 => .array .int
  | 4 => .int
  | 5 => .int
  | 6 => .boolean
  | _ => .boolean
theorem n_Ex : ∀ a, a < 8 → ∀ b, b < 8 → a ≠ b → (F_Ex a).2.1 ≠ (F_Ex b).2.1 := by decide +kernel
theorem t_Ex_ok : ∀ k, k < 8 → parseFieldDescriptor (F_Ex k).2.2.1 = some (t_Ex k) := by decide +kernel
def F_Fl : u_T := fun k => match k with
  | 0 => ("NestedCore$Flags", "n", "Z", false)
  | 1 => ("NestedCore$Flags", "z", "Z", false)
  | 2 => ("NestedCore$Flags", "c", "Z", false)
  | _ => ("NestedCore$Flags", "v", "Z", false)
def t_Fl : Nat → FieldType := fun k => match k with
  | 0 => .boolean
  | 1 => .boolean
  | 2 => .boolean
  | _ => .boolean
theorem n_Fl : ∀ a, a < 4 → ∀ b, b < 4 → a ≠ b → (F_Fl a).2.1 ≠ (F_Fl b).2.1 := by decide +kernel
theorem t_Fl_ok : ∀ k, k < 4 → parseFieldDescriptor (F_Fl k).2.2.1 = some (t_Fl k) := by decide +kernel
def F_Ti : u_T := fun k => match k with
  | 0 => ("NestedCore$Ticker", "reload", "I", false)
  | _ => ("NestedCore$Ticker", "counter", "I", false)
def t_Ti : Nat → FieldType := fun k => match k with
  | 0 => .int
  | _ => .int
theorem n_Ti : ∀ a, a < 2 → ∀ b, b < 2 → a ≠ b → (F_Ti a).2.1 ≠ (F_Ti b).2.1 := by decide +kernel
theorem t_Ti_ok : ∀ k, k < 2 → parseFieldDescriptor (F_Ti k).2.2.1 = some (t_Ti k) := by decide +kernel
def F_Mo : u_T := fun k => match k with
  | 0 => ("NestedCoreModel", "thrown", "I", false)
  | 1 => ("NestedCoreModel", "bytes", "[I", true)
  | 2 => ("NestedCoreModel", "\x72", "[I", true)
  | 3 => ("NestedCoreModel", "n", "Z", false)
  | 4 => ("NestedCoreModel", "z", "Z", false)
  | 5 => ("NestedCoreModel", "c", "Z", false)
  | 6 => ("NestedCoreModel", "v", "Z", false)
  | 7 => ("NestedCoreModel", "ranks", "[I", true)
  | 8 => ("NestedCoreModel", "enabled", "[Z", true)
  | 9 => ("NestedCoreModel", "pending", "[Z", true)
  | 10 => ("NestedCoreModel", "active", "[Z", true)
  | 11 => ("NestedCoreModel", "split", "I", false)
  | 12 => ("NestedCoreModel", "floor", "I", false)
  | 13 => ("NestedCoreModel", "mask", "Z", false)
  | 14 => ("NestedCoreModel", "faultsOn", "Z", false)
  | 15 => ("NestedCoreModel", "reload", "I", false)
  | 16 => ("NestedCoreModel", "counter", "I", false)
  | 17 => ("NestedCoreModel", "number", "I", false)
  | 18 => ("NestedCoreModel", "halted", "I", false)
  | 19 => ("NestedCoreModel", "taken", "I", false)
  | 20 => ("NestedCoreModel", "chained", "I", false)
  | 21 => ("NestedCoreModel", "faults", "I", false)
  | 22 => ("NestedCoreModel", "from", "[I", true)
  | 23 => ("NestedCoreModel", "to", "[I", true)
  | 24 => ("NestedCoreModel", "rights", "[I", true)
  | _ => ("NestedCoreModel", "never", "[Z", true)
def t_Mo : Nat → FieldType := fun k => match k with
  | 0 => .int
  | 1 => .array .int
  | 2 => .array .int
  | 3 => .boolean
  | 4 => .boolean
  | 5 => .boolean
  | 6 => .boolean
  | 7 => .array .int
  | 8 => .array .boolean
  | 9 => .array .boolean
  | 10 => .array .boolean
  | 11 => .int
  | 12 => .int
  | 13 => .boolean
  | 14 => .boolean
  | 15 => .int
  | 16 => .int
  | 17 => .int
  | 18 => .int
  | 19 => .int
  | 20 => .int
  | 21 => .int
  | 22 => .array .int
  | 23 => .array .int
  | 24 => .array .int
  | _ => .array .boolean
theorem n_Mo : ∀ a, a < 26 → ∀ b, b < 26 → a ≠ b → (F_Mo a).2.1 ≠ (F_Mo b).2.1 := by decide +kernel
theorem t_Mo_ok : ∀ k, k < 26 → parseFieldDescriptor (F_Mo k).2.2.1 = some (t_Mo k) := by decide +kernel
abbrev clS : List vw_C := [("NestedCore", F_N, 12), ("NestedCore$Memory", F_Me, 1), ("NestedCore$Areas", F_Ar, 4), ("NestedCore$Exceptions", F_Ex, 8), ("NestedCore$Flags", F_Fl, 4), ("NestedCore$Ticker", F_Ti, 2), ("NestedCoreModel", F_Mo, 26)]
abbrev b_N_init : ByteArray := prog_1_method_1_code
def y_N_init : MethodName := ⟨"NestedCore", "<init>", "()V"⟩
abbrev b_N_set : ByteArray := prog_1_method_2_code
def y_N_set : MethodName := ⟨"NestedCore", "set", "(II)V"⟩
abbrev b_N_word : ByteArray := prog_1_method_3_code
def y_N_word : MethodName := ⟨"NestedCore", "word", "(I)I"⟩
abbrev b_N_put : ByteArray := prog_1_method_4_code
def y_N_put : MethodName := ⟨"NestedCore", "put", "(II)V"⟩
abbrev b_N_register : ByteArray := prog_1_method_5_code
def y_N_register : MethodName := ⟨"NestedCore", "register", "(I)I"⟩
abbrev b_N_rank : ByteArray := prog_1_method_6_code
def y_N_rank : MethodName := ⟨"NestedCore", "rank", "(IIZ)V"⟩
abbrev b_N_pend : ByteArray := prog_1_method_7_code
def y_N_pend : MethodName := ⟨"NestedCore", "pend", "(IZ)V"⟩
abbrev b_N_area : ByteArray := prog_1_method_8_code
def y_N_area : MethodName := ⟨"NestedCore", "area", "(IIIIZ)V"⟩
abbrev b_N_run : ByteArray := prog_1_method_9_code
def y_N_run : MethodName := ⟨"NestedCore", "run", "(I)I"⟩
abbrev b_N_state : ByteArray := prog_1_method_10_code
def y_N_state : MethodName := ⟨"NestedCore", "state", "(I)I"⟩
abbrev b_N_even : ByteArray := prog_1_method_11_code
def y_N_even : MethodName := ⟨"NestedCore", "even", "(I)I"⟩
abbrev b_N_step : ByteArray := prog_1_method_12_code
def y_N_step : MethodName := ⟨"NestedCore", "step", "()V"⟩
abbrev b_N_take : ByteArray := prog_1_method_13_code
def y_N_take : MethodName := ⟨"NestedCore", "take", "(I)V"⟩
abbrev b_N_enter : ByteArray := prog_1_method_14_code
def y_N_enter : MethodName := ⟨"NestedCore", "enter", "(I)V"⟩
abbrev b_N_raise : ByteArray := prog_1_method_15_code
def y_N_raise : MethodName := ⟨"NestedCore", "raise", "(I)V"⟩
abbrev b_N_land : ByteArray := prog_1_method_16_code
def y_N_land : MethodName := ⟨"NestedCore", "land", "()I"⟩
abbrev b_N_comeBack : ByteArray := prog_1_method_17_code
def y_N_comeBack : MethodName := ⟨"NestedCore", "comeBack", "(I)I"⟩
abbrev b_N_unstack : ByteArray := prog_1_method_18_code
def y_N_unstack : MethodName := ⟨"NestedCore", "unstack", "(II)V"⟩
abbrev b_N_fetchFault : ByteArray := prog_1_method_19_code
def y_N_fetchFault : MethodName := ⟨"NestedCore", "fetchFault", "()I"⟩
abbrev b_N_fetch : ByteArray := prog_1_method_20_code
def y_N_fetch : MethodName := ⟨"NestedCore", "fetch", "()I"⟩
abbrev b_N_execute : ByteArray := prog_1_method_21_code
def y_N_execute : MethodName := ⟨"NestedCore", "execute", "(I)I"⟩
abbrev b_N_shift : ByteArray := prog_1_method_22_code
def y_N_shift : MethodName := ⟨"NestedCore", "shift", "(I)I"⟩
abbrev b_N_addThree : ByteArray := prog_1_method_23_code
def y_N_addThree : MethodName := ⟨"NestedCore", "addThree", "(I)I"⟩
abbrev b_N_withNumber : ByteArray := prog_1_method_24_code
def y_N_withNumber : MethodName := ⟨"NestedCore", "withNumber", "(I)I"⟩
abbrev b_N_combine : ByteArray := prog_1_method_25_code
def y_N_combine : MethodName := ⟨"NestedCore", "combine", "(I)I"⟩
abbrev b_N_bits : ByteArray := prog_1_method_26_code
def y_N_bits : MethodName := ⟨"NestedCore", "bits", "(II)I"⟩
abbrev b_N_copyOrBranch : ByteArray := prog_1_method_27_code
def y_N_copyOrBranch : MethodName := ⟨"NestedCore", "copyOrBranch", "(I)I"⟩
abbrev b_N_copyAny : ByteArray := prog_1_method_28_code
def y_N_copyAny : MethodName := ⟨"NestedCore", "copyAny", "(I)I"⟩
abbrev b_N_branchTo : ByteArray := prog_1_method_29_code
def y_N_branchTo : MethodName := ⟨"NestedCore", "branchTo", "(I)I"⟩
abbrev b_N_move : ByteArray := prog_1_method_30_code
def y_N_move : MethodName := ⟨"NestedCore", "move", "(III)I"⟩
abbrev b_N_stackOrSwitch : ByteArray := prog_1_method_31_code
def y_N_stackOrSwitch : MethodName := ⟨"NestedCore", "stackOrSwitch", "(I)I"⟩
abbrev b_N_push : ByteArray := prog_1_method_32_code
def y_N_push : MethodName := ⟨"NestedCore", "push", "(I)I"⟩
abbrev b_N_pop : ByteArray := prog_1_method_33_code
def y_N_pop : MethodName := ⟨"NestedCore", "pop", "(I)I"⟩
abbrev b_N_faultAlong : ByteArray := prog_1_method_34_code
def y_N_faultAlong : MethodName := ⟨"NestedCore", "faultAlong", "(III)I"⟩
abbrev b_N_switchOrNothing : ByteArray := prog_1_method_35_code
def y_N_switchOrNothing : MethodName := ⟨"NestedCore", "switchOrNothing", "(I)I"⟩
abbrev b_N_branchIf : ByteArray := prog_1_method_36_code
def y_N_branchIf : MethodName := ⟨"NestedCore", "branchIf", "(I)I"⟩
abbrev b_N_callOut : ByteArray := prog_1_method_37_code
def y_N_callOut : MethodName := ⟨"NestedCore", "callOut", "()I"⟩
abbrev b_N_branch : ByteArray := prog_1_method_38_code
def y_N_branch : MethodName := ⟨"NestedCore", "branch", "(I)I"⟩
abbrev b_Me_init : ByteArray := prog_5_method_1_code
def y_Me_init : MethodName := ⟨"NestedCore$Memory", "<init>", "()V"⟩
abbrev b_Me_holdsWord : ByteArray := prog_5_method_2_code
def y_Me_holdsWord : MethodName := ⟨"NestedCore$Memory", "holdsWord", "(I)Z"⟩
abbrev b_Me_holdsHalf : ByteArray := prog_5_method_3_code
def y_Me_holdsHalf : MethodName := ⟨"NestedCore$Memory", "holdsHalf", "(I)Z"⟩
abbrev b_Me_holdsFrame : ByteArray := prog_5_method_4_code
def y_Me_holdsFrame : MethodName := ⟨"NestedCore$Memory", "holdsFrame", "(I)Z"⟩
abbrev b_Me_load : ByteArray := prog_5_method_5_code
def y_Me_load : MethodName := ⟨"NestedCore$Memory", "load", "(I)I"⟩
abbrev b_Me_store : ByteArray := prog_5_method_6_code
def y_Me_store : MethodName := ⟨"NestedCore$Memory", "store", "(II)V"⟩
abbrev b_Me_half : ByteArray := prog_5_method_7_code
def y_Me_half : MethodName := ⟨"NestedCore$Memory", "half", "(I)I"⟩
abbrev b_Ar_init : ByteArray := prog_2_method_1_code
def y_Ar_init : MethodName := ⟨"NestedCore$Areas", "<init>", "()V"⟩
abbrev b_Ar_lay : ByteArray := prog_2_method_2_code
def y_Ar_lay : MethodName := ⟨"NestedCore$Areas", "lay", "(IIIIZ)V"⟩
abbrev b_Ar_bars : ByteArray := prog_2_method_3_code
def y_Ar_bars : MethodName := ⟨"NestedCore$Areas", "bars", "(IIZ)Z"⟩
abbrev b_Ex_init : ByteArray := prog_3_method_1_code
def y_Ex_init : MethodName := ⟨"NestedCore$Exceptions", "<init>", "()V"⟩
abbrev b_Ex_order : ByteArray := prog_3_method_2_code
def y_Ex_order : MethodName := ⟨"NestedCore$Exceptions", "order", "(IIZ)V"⟩
abbrev b_Ex_group : ByteArray := prog_3_method_3_code
def y_Ex_group : MethodName := ⟨"NestedCore$Exceptions", "group", "(I)I"⟩
abbrev b_Ex_level : ByteArray := prog_3_method_4_code
def y_Ex_level : MethodName := ⟨"NestedCore$Exceptions", "level", "()I"⟩
abbrev b_Ex_due : ByteArray := prog_3_method_5_code
def y_Ex_due : MethodName := ⟨"NestedCore$Exceptions", "due", "()I"⟩
abbrev b_Ex_leave : ByteArray := prog_3_method_6_code
def y_Ex_leave : MethodName := ⟨"NestedCore$Exceptions", "leave", "(I)V"⟩
abbrev b_Ex_packed : ByteArray := prog_3_method_7_code
def y_Ex_packed : MethodName := ⟨"NestedCore$Exceptions", "packed", "(I)I"⟩
abbrev b_Fl_init : ByteArray := prog_4_method_1_code
def y_Fl_init : MethodName := ⟨"NestedCore$Flags", "<init>", "()V"⟩
abbrev b_Fl_ofResult : ByteArray := prog_4_method_2_code
def y_Fl_ofResult : MethodName := ⟨"NestedCore$Flags", "ofResult", "(I)V"⟩
abbrev b_Fl_carry : ByteArray := prog_4_method_3_code
def y_Fl_carry : MethodName := ⟨"NestedCore$Flags", "carry", "()I"⟩
abbrev b_Fl_sum : ByteArray := prog_4_method_4_code
def y_Fl_sum : MethodName := ⟨"NestedCore$Flags", "sum", "(III)I"⟩
abbrev b_Fl_difference : ByteArray := prog_4_method_5_code
def y_Fl_difference : MethodName := ⟨"NestedCore$Flags", "difference", "(II)I"⟩
abbrev b_Fl_meet : ByteArray := prog_4_method_6_code
def y_Fl_meet : MethodName := ⟨"NestedCore$Flags", "meet", "(I)Z"⟩
abbrev b_Fl_packed : ByteArray := prog_4_method_7_code
def y_Fl_packed : MethodName := ⟨"NestedCore$Flags", "packed", "()I"⟩
abbrev b_Fl_unpack : ByteArray := prog_4_method_8_code
def y_Fl_unpack : MethodName := ⟨"NestedCore$Flags", "unpack", "(I)V"⟩
abbrev b_Ti_init : ByteArray := prog_6_method_1_code
def y_Ti_init : MethodName := ⟨"NestedCore$Ticker", "<init>", "()V"⟩
abbrev b_Ti_start : ByteArray := prog_6_method_2_code
def y_Ti_start : MethodName := ⟨"NestedCore$Ticker", "start", "(I)V"⟩
abbrev b_Ti_fires : ByteArray := prog_6_method_3_code
def y_Ti_fires : MethodName := ⟨"NestedCore$Ticker", "fires", "()Z"⟩
abbrev b_Mo_init : ByteArray := prog_8_method_1_code
def y_Mo_init : MethodName := ⟨"NestedCoreModel", "<init>", "()V"⟩
abbrev b_Mo_thrown : ByteArray := prog_8_method_2_code
def y_Mo_thrown : MethodName := ⟨"NestedCoreModel", "thrown", "()I"⟩
abbrev b_Mo_fails : ByteArray := prog_8_method_3_code
def y_Mo_fails : MethodName := ⟨"NestedCoreModel", "fails", "(Z)Z"⟩
abbrev b_Mo_isWord : ByteArray := prog_8_method_4_code
def y_Mo_isWord : MethodName := ⟨"NestedCoreModel", "isWord", "(I)Z"⟩
abbrev b_Mo_load : ByteArray := prog_8_method_5_code
def y_Mo_load : MethodName := ⟨"NestedCoreModel", "load", "(I)I"⟩
abbrev b_Mo_store : ByteArray := prog_8_method_6_code
def y_Mo_store : MethodName := ⟨"NestedCoreModel", "store", "(II)V"⟩
abbrev b_Mo_barred : ByteArray := prog_8_method_7_code
def y_Mo_barred : MethodName := ⟨"NestedCoreModel", "barred", "(II)Z"⟩
abbrev b_Mo_faultOf : ByteArray := prog_8_method_8_code
def y_Mo_faultOf : MethodName := ⟨"NestedCoreModel", "faultOf", "(III)I"⟩
abbrev b_Mo_group : ByteArray := prog_8_method_9_code
def y_Mo_group : MethodName := ⟨"NestedCoreModel", "group", "(I)I"⟩
abbrev b_Mo_level : ByteArray := prog_8_method_10_code
def y_Mo_level : MethodName := ⟨"NestedCoreModel", "level", "()I"⟩
abbrev b_Mo_due : ByteArray := prog_8_method_11_code
def y_Mo_due : MethodName := ⟨"NestedCoreModel", "due", "()I"⟩
abbrev b_Mo_enter : ByteArray := prog_8_method_12_code
def y_Mo_enter : MethodName := ⟨"NestedCoreModel", "enter", "(I)V"⟩
abbrev b_Mo_status : ByteArray := prog_8_method_13_code
def y_Mo_status : MethodName := ⟨"NestedCoreModel", "status", "(Z)I"⟩
abbrev b_Mo_isFrame : ByteArray := prog_8_method_14_code
def y_Mo_isFrame : MethodName := ⟨"NestedCoreModel", "isFrame", "(I)Z"⟩
abbrev b_Mo_take : ByteArray := prog_8_method_15_code
def y_Mo_take : MethodName := ⟨"NestedCoreModel", "take", "(I)V"⟩
abbrev b_Mo_isBack : ByteArray := prog_8_method_16_code
def y_Mo_isBack : MethodName := ⟨"NestedCoreModel", "isBack", "(II)Z"⟩
abbrev b_Mo_flags : ByteArray := prog_8_method_17_code
def y_Mo_flags : MethodName := ⟨"NestedCoreModel", "flags", "(I)V"⟩
abbrev b_Mo_comeBack : ByteArray := prog_8_method_18_code
def y_Mo_comeBack : MethodName := ⟨"NestedCoreModel", "comeBack", "(I)V"⟩
abbrev b_Mo_isReturn : ByteArray := prog_8_method_19_code
def y_Mo_isReturn : MethodName := ⟨"NestedCoreModel", "isReturn", "(I)Z"⟩
abbrev b_Mo_fault : ByteArray := prog_8_method_20_code
def y_Mo_fault : MethodName := ⟨"NestedCoreModel", "fault", "(I)V"⟩
abbrev b_Mo_test : ByteArray := prog_8_method_21_code
def y_Mo_test : MethodName := ⟨"NestedCoreModel", "test", "(I)V"⟩
abbrev b_Mo_sum : ByteArray := prog_8_method_22_code
def y_Mo_sum : MethodName := ⟨"NestedCoreModel", "sum", "(III)I"⟩
abbrev b_Mo_shift : ByteArray := prog_8_method_23_code
def y_Mo_shift : MethodName := ⟨"NestedCoreModel", "shift", "(I)I"⟩
abbrev b_Mo_immediate : ByteArray := prog_8_method_24_code
def y_Mo_immediate : MethodName := ⟨"NestedCoreModel", "immediate", "(I)I"⟩
abbrev b_Mo_logic : ByteArray := prog_8_method_25_code
def y_Mo_logic : MethodName := ⟨"NestedCoreModel", "logic", "(I)I"⟩
abbrev b_Mo_moveHigh : ByteArray := prog_8_method_26_code
def y_Mo_moveHigh : MethodName := ⟨"NestedCoreModel", "moveHigh", "(I)I"⟩
abbrev b_Mo_jump : ByteArray := prog_8_method_27_code
def y_Mo_jump : MethodName := ⟨"NestedCoreModel", "jump", "(II)I"⟩
abbrev b_Mo_exchange : ByteArray := prog_8_method_28_code
def y_Mo_exchange : MethodName := ⟨"NestedCoreModel", "exchange", "(I)I"⟩
abbrev b_Mo_move : ByteArray := prog_8_method_29_code
def y_Mo_move : MethodName := ⟨"NestedCoreModel", "move", "(IIZ)I"⟩
abbrev b_Mo_ones : ByteArray := prog_8_method_30_code
def y_Mo_ones : MethodName := ⟨"NestedCoreModel", "ones", "(I)I"⟩
abbrev b_Mo_push : ByteArray := prog_8_method_31_code
def y_Mo_push : MethodName := ⟨"NestedCoreModel", "push", "(I)I"⟩
abbrev b_Mo_pop : ByteArray := prog_8_method_32_code
def y_Mo_pop : MethodName := ⟨"NestedCoreModel", "pop", "(I)I"⟩
abbrev b_Mo_holds : ByteArray := prog_8_method_33_code
def y_Mo_holds : MethodName := ⟨"NestedCoreModel", "holds", "(I)Z"⟩
abbrev b_Mo_conditional : ByteArray := prog_8_method_34_code
def y_Mo_conditional : MethodName := ⟨"NestedCoreModel", "conditional", "(I)I"⟩
abbrev b_Mo_special : ByteArray := prog_8_method_35_code
def y_Mo_special : MethodName := ⟨"NestedCoreModel", "special", "(I)I"⟩
abbrev b_Mo_plain : ByteArray := prog_8_method_36_code
def y_Mo_plain : MethodName := ⟨"NestedCoreModel", "plain", "(I)I"⟩
abbrev b_Mo_does : ByteArray := prog_8_method_37_code
def y_Mo_does : MethodName := ⟨"NestedCoreModel", "does", "(I)I"⟩
abbrev b_Mo_fetched : ByteArray := prog_8_method_38_code
def y_Mo_fetched : MethodName := ⟨"NestedCoreModel", "fetched", "()I"⟩
abbrev b_Mo_step : ByteArray := prog_8_method_39_code
def y_Mo_step : MethodName := ⟨"NestedCoreModel", "step", "()V"⟩
abbrev b_Mo_set : ByteArray := prog_8_method_40_code
def y_Mo_set : MethodName := ⟨"NestedCoreModel", "set", "(II)V"⟩
abbrev b_Mo_word : ByteArray := prog_8_method_41_code
def y_Mo_word : MethodName := ⟨"NestedCoreModel", "word", "(I)I"⟩
abbrev b_Mo_put : ByteArray := prog_8_method_42_code
def y_Mo_put : MethodName := ⟨"NestedCoreModel", "put", "(II)V"⟩
abbrev b_Mo_register : ByteArray := prog_8_method_43_code
def y_Mo_register : MethodName := ⟨"NestedCoreModel", "register", "(I)I"⟩
abbrev b_Mo_rank : ByteArray := prog_8_method_44_code
def y_Mo_rank : MethodName := ⟨"NestedCoreModel", "rank", "(IIZ)V"⟩
abbrev b_Mo_pend : ByteArray := prog_8_method_45_code
def y_Mo_pend : MethodName := ⟨"NestedCoreModel", "pend", "(IZ)V"⟩
abbrev b_Mo_area : ByteArray := prog_8_method_46_code
def y_Mo_area : MethodName := ⟨"NestedCoreModel", "area", "(IIIIZ)V"⟩
abbrev b_Mo_run : ByteArray := prog_8_method_47_code
def y_Mo_run : MethodName := ⟨"NestedCoreModel", "run", "(I)I"⟩
abbrev b_Mo_state : ByteArray := prog_8_method_48_code
def y_Mo_state : MethodName := ⟨"NestedCoreModel", "state", "(I)I"⟩
abbrev b_In_bitCount : ByteArray := prog_11_method_49_code
def y_In_bitCount : MethodName := ⟨"java/lang/Integer", "bitCount", "(I)I"⟩
end
section
-- the words of the walks: a state is a function of row and place; a method's meaning is a function of states
abbrev nS : Type := Nat → Nat → Int32
def up2 (f : nS) (k j : Nat) (v : Int32) : nS := fun x => if x = k then upd (f x) j v else f x
def upC (f : nS) (r0 r1 : Nat) : nS := fun x => if x = r1 then va_cpy (f r0) (f x) 0 0 16 else f x
def bI (b : Bool) : Int32 := cond b 1 0
def ush (x y : Int32) : Int32 := (x.toUInt32 >>> (y.toUInt32 &&& Int32.toUInt32 31)).toInt32
def lush (x : Int64) (y : Int32) : Int64 := (x.toUInt64 >>> (y.toInt64.toUInt64 &&& Int64.toUInt64 63)).toInt64
def ap1 {β : Type} {γ : Sort _} (F : β) (k : β → γ) : γ := k F
def ap2 {α β : Type} {γ : Sort _} (F : α × β) (k : α → β → γ) : γ := k F.1 F.2
theorem ap1_eq {β γ : Type} {F u : β} {k : β → γ} (e : F = u) : ap1 F k = k u := by rw [e]; rfl
theorem ap2_eq {α β γ : Type} {F : α × β} {r : α} {u : β} {k : α → β → γ} (e : F = (r, u)) : ap2 F k = k r u := by rw [e]; rfl
theorem ok_ap1 {β : Type} {F u : β} {k : β → Prop} (e : F = u) (h : ap1 F k) : k u := by subst e; exact h
theorem ok_ap2 {α β : Type} {F : α × β} {r : α} {u : β} {k : α → β → Prop} (e : F = (r, u)) (h : ap2 F k) : k r u := by subst e; exact h
theorem ok_pos {c a b : Prop} [Decidable c] (h : c) (o : if c then a else b) : a := by rw [if_pos h] at o; exact o
theorem ok_neg {c a b : Prop} [Decidable c] (h : ¬ c) (o : if c then a else b) : b := by rw [if_neg h] at o; exact o
theorem bI_nar (b : Bool) : vp_nar .boolean (bI b) = bI b := by cases b <;> decide
theorem bI_narrow (b : Bool) : narrow .boolean (.int (bI b)) = .int (bI b) := by cases b <;> decide
theorem bI_fits (b : Bool) : fits .boolean (.int (bI b)) = true := by cases b <;> decide
theorem bI_0 (b : Bool) : bI b = 0 ↔ ¬ b = true := by cases b <;> decide
theorem vin_dec {i : Int32} {n : Nat} (h : (!(decide (i < 0)) && decide (i.toNatClampNeg < n)) = true) : vp_in i n := by
  simp only [Bool.and_eq_true, Bool.not_eq_true', decide_eq_false_iff_not, decide_eq_true_eq] at h
  intro q
  rcases q with q | q
  · exact h.1 q
  · omega
theorem vin_mono {i : Int32} {n k : Nat} (h : vp_in i n) (hk : n ≤ k) : vp_in i k := fun q => h (q.imp id (fun z => Nat.le_trans hk z))
theorem vin_and7_16 (x : Int32) : vp_in (x &&& 7) 16 := vin_mono (pk_andIn x 3 (by decide) (by omega)) (by decide)
theorem vin_and15_16 (x : Int32) : vp_in (x &&& 15) 16 := vin_mono (pk_andIn x 4 (by decide) (by omega)) (by decide)
theorem vin_and255_256 (x : Int32) : vp_in (x &&& 255) 256 := vin_mono (pk_andIn x 8 (by decide) (by omega)) (by decide)
-- the tables' words that every method of ours asks: the good ones of the claim's
def WS : List Jvm.Cond := lw_tbl.filter goodWord
theorem ws_good {w : Jvm.Cond} (h : w ∈ WS) : (w.onTables && w.keeps) = true ∨ ∃ ty, w = .arrayClass ty := good_of_word (List.mem_filter.mp h).2
theorem ws_sel {w : Jvm.Cond} (h : w ∈ k2_sels lw_privs) (hg : goodWord w = true) : w ∈ WS := List.mem_filter.mpr ⟨List.mem_append_left _ h, hg⟩
theorem ws_tab {w : Jvm.Cond} (h : w ∈ tables_1) (hg : goodWord w = true) : w ∈ WS := List.mem_filter.mpr ⟨List.mem_append_right _ h, hg⟩
/-- what a static fact that is carried along must bear -/
def ExOK (Ex : (Nat → Prop) → State → Heap → Prop) : Prop :=
  (∀ (A : Nat → Prop) (u U : State) (H : Heap), u.vm.Alike U.vm → Ex A u H → Ex A U H) ∧ (∀ (A : Nat → Prop) (U : State) (H H1 : Heap), Ex A U H → (∀ a : Nat, a < H.size → ¬ A a → H1[a]? = H[a]?) → Ex A U H1) ∧ (∀ (A B : Nat → Prop) (U : State) (H : Heap), Ex A U H → (∀ q, B q → A q) → Ex B U H)
def exM : (Nat → Prop) → State → Heap → Prop := fun _ _ _ => True
theorem exM_ok : ExOK exM := ⟨fun _ _ _ _ _ _ => trivial, fun _ _ _ _ _ _ => trivial, fun _ _ _ _ _ _ => trivial⟩
def frI (j : Nat) : Int32 := match j with
  | 0 => 0
  | 1 => 1
  | 2 => 2
  | 3 => 3
  | 4 => 12
  | 5 => 14
  | _ => 15
def exC (t : Nat) : (Nat → Prop) → State → Heap → Prop := fun A U H => va_Z "NestedCore" "FRAME" "[I" (.ref t) A U H ∧ va_T .int t 7 (fun j => .int (frI j)) A U H
theorem exC_ok (t : Nat) : ExOK (exC t) := ⟨fun _ _ _ _ hv h => ⟨va_Z.moved hv h.1, va_T.moved hv h.2⟩, fun _ _ _ _ h hq => ⟨h.1.kept hq, h.2.kept hq⟩, fun _ _ _ _ h hq => ⟨h.1.narrow hq, h.2.narrow hq⟩⟩
abbrev tyS (cI cZ : ClassId) : List (ClassId × FieldType) := [(cI, .int), (cZ, .boolean)]
def Fx (p : Program) (s : State) (m : MethodId) (args : Array Value) (meth : Method) (c : Code) (cc : ByteArray) (nL : Nat) (own : String) (D : va_G) (cI cZ : ClassId) (A : Nat → Prop) (Ex : (Nat → Prop) → State → Heap → Prop) : Prop :=
  p.tables.exec = Jvm.exec ∧ c.code = cc ∧ c.maxLocals = nL ∧ s.vm.findClass own = some m.cls ∧ (∀ w ∈ WS, w.before args s = true) ∧ va_K D clS (tyS cI cZ) s ∧ (∀ q, s.heap.size ≤ q → A q) ∧ Ex A s s.heap ∧ meth.locks = false ∧ ExOK Ex
def St (D : va_G) (w : nS → va_W) (A : Nat → Prop) (s : State) (σ : nS) (H : Heap) (locs : List Loc) : Prop := va_P D clS (w σ) H ∧ va_D A (w σ) ∧ va_S A s.heap H locs
def Pre (D : va_G) (cI cZ : ClassId) (w : nS → va_W) (Ex : (Nat → Prop) → State → Heap → Prop) (σ : nS) (sz : Nat) : State → Prop := fun U => U.heap.size = sz ∧ va_P D clS (w σ) U.heap ∧ va_K D clS (tyS cI cZ) U ∧ va_D (fun _ => True) (w σ) ∧ Ex (va_A (w σ) sz) U U.heap
def Pst (D : va_G) (cI cZ : ClassId) (w : nS → va_W) (A : Nat → Prop) (σ : nS) (t : State) : Prop := va_P D clS (w σ) t.heap ∧ va_K D clS (tyS cI cZ) t ∧ va_D A (w σ)
abbrev cdw (y : MethodName) (b : ByteArray) (n : Nat) (ret : Option FieldType) : List Jvm.Cond := Jvm.Cond.code y b n ret :: WS
def CtI (l : Launch) (D : va_G) (cI cZ : ClassId) (w : nS → va_W) (Ex : (Nat → Prop) → State → Heap → Prop) (y : MethodName) (b : ByteArray) (n : Nat) (rm : Room) (avs : List Value) (σ : nS) (F : Int32 × nS) : Prop :=
  ∀ sz : Nat, Met l y (cdw y b n (some .int)) rm (va_Pc avs (Pre D cI cZ w Ex σ sz)) (va_Qi (fun r u => F = (r, u)) (Pst D cI cZ w (va_A (w σ) sz)) (va_A (w σ) sz)) 0 0 (va_A (w σ) sz)
def CtZ (l : Launch) (D : va_G) (cI cZ : ClassId) (w : nS → va_W) (Ex : (Nat → Prop) → State → Heap → Prop) (y : MethodName) (b : ByteArray) (n : Nat) (rm : Room) (avs : List Value) (σ : nS) (F : Bool × nS) : Prop :=
  ∀ sz : Nat, Met l y (cdw y b n (some .boolean)) rm (va_Pc avs (Pre D cI cZ w Ex σ sz)) (va_Qi (fun r u => ∃ x : Bool, r = bI x ∧ F = (x, u)) (Pst D cI cZ w (va_A (w σ) sz)) (va_A (w σ) sz)) 0 0 (va_A (w σ) sz)
def CtV (l : Launch) (D : va_G) (cI cZ : ClassId) (w : nS → va_W) (Ex : (Nat → Prop) → State → Heap → Prop) (y : MethodName) (b : ByteArray) (n : Nat) (rm : Room) (avs : List Value) (σ : nS) (F : nS) : Prop :=
  ∀ sz : Nat, Met l y (cdw y b n none) rm (va_Pc avs (Pre D cI cZ w Ex σ sz)) (va_Qv (fun u => F = u) (Pst D cI cZ w (va_A (w σ) sz)) (va_A (w σ) sz)) 0 0 (va_A (w σ) sz)
section MET
variable {l : Launch} {D : va_G} {cI cZ : ClassId} {w : nS → va_W} {Ex : (Nat → Prop) → State → Heap → Prop} {y : MethodName} {b : ByteArray} {n : Nat} {rm : Room} {avs : List Value} {σ : nS}
theorem metI {F : Int32 × nS} (hEo : ExOK Ex) (hy : plainName y.cls = true) (hlen : (lg_sl avs).length ≤ n)
    (body : ∀ (p : Program) (e : Env) (s : State) (m : MethodId) (args : Array Value) (below : List Frame) (meth : Method) (c : Code) (A : Nat → Prop) (Q : State → Prop) (ls : Array Slot), Fx p s m args meth c b n y.cls D cI cZ A Ex → St D w A s σ s.heap [] → lv_has ls n (lv_args 0 avs) →
      (∀ (H : Heap) (locs : List Loc) (ls : Array Slot) (pc : Nat) (r : Int32) (σ' : nS), St D w A s σ' H locs → F = (r, σ') → decode b pc = .ok (.ireturn, 1) → W p l e rm s m args below meth c H locs 0 0 Q (F0 m pc ls [.int r])) →
      W p l e rm s m args below meth c s.heap [] 0 0 Q (F0 m 0 ls [])) : CtI l D cI cZ w Ex y b n rm avs σ F := by
  intro sz
  refine Met.ofW (cc := b) (maxL := n) (ret := some .int) hy rfl ?_
  intro p e s m args below meth c s₁ B hml hv
  obtain ⟨rfl, hsz, hP, hK, hD0, hE⟩ := hv
  subst hsz
  have hl := lv_entry avs (n := n) hlen
  rw [lg_entry_eq]
  generalize (lg_sl avs ++ List.replicate (n - (lg_sl avs).length) Slot.unset).toArray = ls at hl ⊢
  have hlk : meth.locks = false := B.notSynchronized
  refine body p e s m _ below meth c (va_A (w σ) s.heap.size) _ ls ⟨B.exec, B.bytes, hml, findClass_of_methodNamed B.named, fun z hz => atoms_spec (ws := cdw y b n (some .int)) B.pre z (List.mem_cons_of_mem _ hz), hK, fun q h => Or.inr h, hE, hlk, hEo⟩ ⟨hP, hD0.self, va_S.rf⟩ hl ?_
  intro H locs ls pc r σ' S hq hd
  exact W.iret B.exec B.bytes B.returns (fun t ht hW => ⟨⟨r, σ', rfl, hq, by rw [ht]; exact S.1, va_K.moved hW.alike hK, S.2.1⟩, S.2.2.F ht⟩) S.2.2.2.2 hd
theorem metIp {F : Int32} (hEo : ExOK Ex) (hy : plainName y.cls = true) (hlen : (lg_sl avs).length ≤ n)
    (body : ∀ (p : Program) (e : Env) (s : State) (m : MethodId) (args : Array Value) (below : List Frame) (meth : Method) (c : Code) (A : Nat → Prop) (Q : State → Prop) (ls : Array Slot), Fx p s m args meth c b n y.cls D cI cZ A Ex → St D w A s σ s.heap [] → lv_has ls n (lv_args 0 avs) →
      (∀ (H : Heap) (locs : List Loc) (ls : Array Slot) (pc : Nat) (r : Int32), St D w A s σ H locs → F = r → decode b pc = .ok (.ireturn, 1) → W p l e rm s m args below meth c H locs 0 0 Q (F0 m pc ls [.int r])) →
      W p l e rm s m args below meth c s.heap [] 0 0 Q (F0 m 0 ls [])) : CtI l D cI cZ w Ex y b n rm avs σ (F, σ) := by
  refine metI hEo hy hlen (fun p e s m args below meth c A Q ls X S hl ret => body p e s m args below meth c A Q ls X S hl (fun H locs ls pc r S' hq hd => ret H locs ls pc r σ S' (by rw [hq]) hd))
theorem metZ {F : Bool × nS} (hEo : ExOK Ex) (hy : plainName y.cls = true) (hlen : (lg_sl avs).length ≤ n)
    (body : ∀ (p : Program) (e : Env) (s : State) (m : MethodId) (args : Array Value) (below : List Frame) (meth : Method) (c : Code) (A : Nat → Prop) (Q : State → Prop) (ls : Array Slot), Fx p s m args meth c b n y.cls D cI cZ A Ex → St D w A s σ s.heap [] → lv_has ls n (lv_args 0 avs) →
      (∀ (H : Heap) (locs : List Loc) (ls : Array Slot) (pc : Nat) (r : Bool) (σ' : nS), St D w A s σ' H locs → F = (r, σ') → decode b pc = .ok (.ireturn, 1) → W p l e rm s m args below meth c H locs 0 0 Q (F0 m pc ls [.int (bI r)])) →
      W p l e rm s m args below meth c s.heap [] 0 0 Q (F0 m 0 ls [])) : CtZ l D cI cZ w Ex y b n rm avs σ F := by
  intro sz
  refine Met.ofW (cc := b) (maxL := n) (ret := some .boolean) hy rfl ?_
  intro p e s m args below meth c s₁ B hml hv
  obtain ⟨rfl, hsz, hP, hK, hD0, hE⟩ := hv
  subst hsz
  have hl := lv_entry avs (n := n) hlen
  rw [lg_entry_eq]
  generalize (lg_sl avs ++ List.replicate (n - (lg_sl avs).length) Slot.unset).toArray = ls at hl ⊢
  have hlk : meth.locks = false := B.notSynchronized
  refine body p e s m _ below meth c (va_A (w σ) s.heap.size) _ ls ⟨B.exec, B.bytes, hml, findClass_of_methodNamed B.named, fun z hz => atoms_spec (ws := cdw y b n (some .boolean)) B.pre z (List.mem_cons_of_mem _ hz), hK, fun q h => Or.inr h, hE, hlk, hEo⟩ ⟨hP, hD0.self, va_S.rf⟩ hl ?_
  intro H locs ls pc r σ' S hq hd
  exact W.zret B.exec B.bytes B.returns (bI_narrow r) (fun t ht hW => ⟨⟨bI r, σ', rfl, ⟨r, rfl, hq⟩, by rw [ht]; exact S.1, va_K.moved hW.alike hK, S.2.1⟩, S.2.2.F ht⟩) S.2.2.2.2 hd
theorem metZp {F : Bool} (hEo : ExOK Ex) (hy : plainName y.cls = true) (hlen : (lg_sl avs).length ≤ n)
    (body : ∀ (p : Program) (e : Env) (s : State) (m : MethodId) (args : Array Value) (below : List Frame) (meth : Method) (c : Code) (A : Nat → Prop) (Q : State → Prop) (ls : Array Slot), Fx p s m args meth c b n y.cls D cI cZ A Ex → St D w A s σ s.heap [] → lv_has ls n (lv_args 0 avs) →
      (∀ (H : Heap) (locs : List Loc) (ls : Array Slot) (pc : Nat) (r : Bool), St D w A s σ H locs → F = r → decode b pc = .ok (.ireturn, 1) → W p l e rm s m args below meth c H locs 0 0 Q (F0 m pc ls [.int (bI r)])) →
      W p l e rm s m args below meth c s.heap [] 0 0 Q (F0 m 0 ls [])) : CtZ l D cI cZ w Ex y b n rm avs σ (F, σ) := by
  refine metZ hEo hy hlen (fun p e s m args below meth c A Q ls X S hl ret => body p e s m args below meth c A Q ls X S hl (fun H locs ls pc r S' hq hd => ret H locs ls pc r σ S' (by rw [hq]) hd))
theorem metV {F : nS} (hEo : ExOK Ex) (hy : plainName y.cls = true) (hlen : (lg_sl avs).length ≤ n)
    (body : ∀ (p : Program) (e : Env) (s : State) (m : MethodId) (args : Array Value) (below : List Frame) (meth : Method) (c : Code) (A : Nat → Prop) (Q : State → Prop) (ls : Array Slot), Fx p s m args meth c b n y.cls D cI cZ A Ex → St D w A s σ s.heap [] → lv_has ls n (lv_args 0 avs) →
      (∀ (H : Heap) (locs : List Loc) (ls : Array Slot) (pc : Nat) (σ' : nS), St D w A s σ' H locs → F = σ' → decode b pc = .ok (.return_, 1) → W p l e rm s m args below meth c H locs 0 0 Q (F0 m pc ls [])) →
      W p l e rm s m args below meth c s.heap [] 0 0 Q (F0 m 0 ls [])) : CtV l D cI cZ w Ex y b n rm avs σ F := by
  intro sz
  refine Met.ofW (cc := b) (maxL := n) (ret := none) hy rfl ?_
  intro p e s m args below meth c s₁ B hml hv
  obtain ⟨rfl, hsz, hP, hK, hD0, hE⟩ := hv
  subst hsz
  have hl := lv_entry avs (n := n) hlen
  rw [lg_entry_eq]
  generalize (lg_sl avs ++ List.replicate (n - (lg_sl avs).length) Slot.unset).toArray = ls at hl ⊢
  have hlk : meth.locks = false := B.notSynchronized
  refine body p e s m _ below meth c (va_A (w σ) s.heap.size) _ ls ⟨B.exec, B.bytes, hml, findClass_of_methodNamed B.named, fun z hz => atoms_spec (ws := cdw y b n none) B.pre z (List.mem_cons_of_mem _ hz), hK, fun q h => Or.inr h, hE, hlk, hEo⟩ ⟨hP, hD0.self, va_S.rf⟩ hl ?_
  intro H locs ls pc σ' S hq hd
  exact W.vret B.exec B.bytes B.returns (fun t ht hW => ⟨⟨σ', rfl, hq, by rw [ht]; exact S.1, va_K.moved hW.alike hK, S.2.1⟩, S.2.2.F ht⟩) S.2.2.2.2 hd
end MET
-- calls
/-- what a call of an own method asks of the tables -/
def VK (own : String) (idx : Nat) (y : MethodName) (b : ByteArray) (n : Nat) (ret : Option FieldType) (na : Nat) : Prop :=
  Jvm.Cond.methodLink own idx y ∈ WS ∧ Jvm.Cond.instanceMethod y ∈ WS ∧ Jvm.Cond.selects y.cls y y ∈ WS ∧ Jvm.Cond.initialized y.cls ∈ WS ∧ Jvm.Cond.code y b n ret ∈ WS ∧ (y.cls ≠ "java/lang/invoke/MethodHandle" ∧ y.cls ≠ "java/lang/invoke/VarHandle" ∧ (parseMethodDescriptor y.desc).map (fun d => d.parameters.length) = some na)
def SK (own : String) (idx : Nat) (y : MethodName) (b : ByteArray) (n : Nat) (ret : Option FieldType) (na : Nat) : Prop :=
  Jvm.Cond.methodLink own idx y ∈ WS ∧ Jvm.Cond.static y ∈ WS ∧ Jvm.Cond.initialized y.cls ∈ WS ∧ Jvm.Cond.code y b n ret ∈ WS ∧ (y.cls ≠ "java/lang/invoke/MethodHandle" ∧ y.cls ≠ "java/lang/invoke/VarHandle" ∧ (parseMethodDescriptor y.desc).map (fun d => d.parameters.length) = some na)
def RK (rm : Room) (n : Nat) (R : Room) : Prop := rm.cells = 0 ∧ rm.slots = 0 ∧ rm.frames + 1 ≤ R.frames ∧ 8 + (n + 11) + rm.locals ≤ R.locals
theorem rk_dec {rm : Room} {n : Nat} {R : Room} (h : (rm.cells == 0 && rm.slots == 0 && decide (rm.frames + 1 ≤ R.frames) && decide (8 + (n + 11) + rm.locals ≤ R.locals)) = true) : RK rm n R := by
  simp only [Bool.and_eq_true, beq_iff_eq, decide_eq_true_eq] at h
  exact ⟨h.1.1.1, h.1.1.2, h.1.2, h.2⟩
theorem vk_good {own : String} {idx na n : Nat} {y : MethodName} {b : ByteArray} {ret : Option FieldType} (V : VK own idx y b n ret na) : GoodIn WS (wsV own idx y.cls y (cdw y b n ret)) := by
  have h : ∀ z ∈ wsV own idx y.cls y (cdw y b n ret), z ∈ WS := by
    intro z hz
    simp only [wsV, cdw, List.mem_append, List.mem_cons, List.not_mem_nil, or_false] at hz
    rcases hz with (rfl | rfl | rfl | rfl) | (rfl | hz)
    · exact V.1
    · exact V.2.1
    · exact V.2.2.1
    · exact V.2.2.2.1
    · exact V.2.2.2.2.1
    · exact hz
  exact fun z hz => ⟨h z hz, ws_good (h z hz)⟩
theorem sk_good {own : String} {idx na n : Nat} {y : MethodName} {b : ByteArray} {ret : Option FieldType} (V : SK own idx y b n ret na) : GoodIn WS (va_wsS own idx y (cdw y b n ret)) := by
  have h : ∀ z ∈ va_wsS own idx y (cdw y b n ret), z ∈ WS := by
    intro z hz
    simp only [va_wsS, cdw, List.mem_append, List.mem_cons, List.not_mem_nil, or_false] at hz
    rcases hz with (rfl | rfl | rfl) | (rfl | hz)
    · exact V.1
    · exact V.2.1
    · exact V.2.2.1
    · exact V.2.2.2.1
    · exact hz
  exact fun z hz => ⟨h z hz, ws_good (h z hz)⟩
section CALLS
variable {p : Program} {l : Launch} {e : Env} {R : Room} {s : State} {m : MethodId} {args : Array Value} {below : List Frame} {meth : Method} {c : Code} {H : Heap} {locs : List Loc} {Q : State → Prop}
variable {cc : ByteArray} {pc nL : Nat} {ls : Array Slot} {lv : List (Nat × Value)} {rest st0 : List Value} {D : va_G} {cI cZ : ClassId} {A : Nat → Prop} {w : nS → va_W} {σ : nS} {Ex : (Nat → Prop) → State → Heap → Prop} {own : String} {idx : Nat}
variable {y : MethodName} {b : ByteArray} {n na : Nat} {rm : Room} {o : Nat} {As : List Value} {fs : List Value} {T : u_T} {N : Nat}
theorem st_free (X : Fx p s m args meth c cc nL own D cI cZ A Ex) (S : St D w A s σ H locs) : ∀ q, va_A (w σ) H.size q → A q := by
  obtain ⟨hx, hb, hml, hown, hts, hK, hA, hE, hlk, hEo⟩ := X
  obtain ⟨hP, hD, hS⟩ := S
  intro q h
  rcases h with ⟨k, e9, h⟩ | h
  · exact hD.2 k _ h
  · exact hA q (Nat.le_trans hS.1 h)
theorem st_pre (X : Fx p s m args meth c cc nL own D cI cZ A Ex) (S : St D w A s σ H locs) (avs : List Value) : FrameBlind (va_Pc avs (Pre D cI cZ w Ex σ H.size)) ∧ ∀ U : State, U.heap = H → s.WarmedH U.vm → va_Pc avs (Pre D cI cZ w Ex σ H.size) avs.toArray U := by
  have hF := st_free X S
  obtain ⟨hx, hb, hml, hown, hts, hK, hA, hE, hlk, hEo⟩ := X
  obtain ⟨hP, hD, hS⟩ := S
  refine ⟨fun a U g mk q => ?_, fun U hU hW => ?_⟩
  · obtain ⟨q0, q1, qP, qK, qD, qE⟩ := q
    exact ⟨q0, q1, qP, va_K.moved (u := U) (U := U.calling g mk a) (Vm.Alike.refl U.vm) qK, qD, hEo.1 _ U (U.calling g mk a) _ (Vm.Alike.refl U.vm) qE⟩
  · refine ⟨rfl, by rw [hU], by rw [hU]; exact hP, va_K.moved hW.alike hK, hD.weaken (fun _ _ _ _ => trivial), ?_⟩
    rw [hU]
    exact hEo.2.2 _ _ _ _ (hEo.1 _ s U _ hW.alike (hEo.2.1 _ _ _ _ hE hS.2.1)) hF
theorem callVI {F : Int32 × nS} (X : Fx p s m args meth c cc nL own D cI cZ A Ex) (S : St D w A s σ H locs) (hl : lv_has ls nL lv) (hM : CtI l D cI cZ w Ex y b n rm (.ref o :: As) σ F) (V : VK own idx y b n (some .int) na) (q0 ci : Nat) (hr : (w σ)[q0]? = some (o, .inr (ci, fs)) ∧ clS[ci]? = some (y.cls, T, N)) (hR : RK rm n R) (hn : As.length = na) (hst : st0 = As.reverse ++ .ref o :: rest) (hcat : (rest.map fun v => v.category).sum ≤ 8) (hd : decode cc pc = .ok (.invokevirtual idx, 3))
    (kk : ∀ (r : Int32) (σ' : nS) (H : Heap) (locs : List Loc), F = (r, σ') → St D w A s σ' H locs → W p l e R s m args below meth c H locs 0 0 Q (F0 m (pc + 3) ls (.int r :: rest))) : W p l e R s m args below meth c H locs 0 0 Q (F0 m pc ls st0) := by
  have hF := st_free X S
  have hp := st_pre X S (.ref o :: As)
  obtain ⟨hx, hb, hml, hown, hts, hK, hA, hE, hlk, hEo⟩ := X
  obtain ⟨hP, hD, hS⟩ := S
  refine va_calli (va_runV (As := As) (rest := rest) ⟨hx, hb, hml, hown, hts⟩ (hM H.size) (cwV na hts (vk_good V) rfl hR.1 hR.2.1 ⟨rfl, V.2.2.2.2.2⟩ hR.2.2) ⟨hp.1, va_recv hK hP hr.2 hr.1, hp.2⟩ rfl hn hl.1 hst (lv_room hcat) hd ⟨Nat.zero_le _, Nat.zero_le _⟩) hS (fun q _ h => hF q h) hF (fun r u t H1 locs1 ht hvm h9 hB hz1 hk1 hS1 => ?_)
  obtain ⟨hP1, hK1, hD1⟩ := hB
  rw [ht] at hP1
  exact kk r u H1 locs1 h9 ⟨hP1, hD1.weaken (fun k q hk h => hF _ h), hS1⟩
theorem callVIp {F : Int32} (X : Fx p s m args meth c cc nL own D cI cZ A Ex) (S : St D w A s σ H locs) (hl : lv_has ls nL lv) (hM : CtI l D cI cZ w Ex y b n rm (.ref o :: As) σ (F, σ)) (V : VK own idx y b n (some .int) na) (q0 ci : Nat) (hr : (w σ)[q0]? = some (o, .inr (ci, fs)) ∧ clS[ci]? = some (y.cls, T, N)) (hR : RK rm n R) (hn : As.length = na) (hst : st0 = As.reverse ++ .ref o :: rest) (hcat : (rest.map fun v => v.category).sum ≤ 8) (hd : decode cc pc = .ok (.invokevirtual idx, 3))
    (kk : ∀ (H : Heap) (locs : List Loc), St D w A s σ H locs → W p l e R s m args below meth c H locs 0 0 Q (F0 m (pc + 3) ls (.int F :: rest))) : W p l e R s m args below meth c H locs 0 0 Q (F0 m pc ls st0) :=
  callVI X S hl hM V q0 ci hr hR hn hst hcat hd (fun r σ' H locs h S => by cases h; exact kk H locs S)
theorem callVZ {F : Bool × nS} (X : Fx p s m args meth c cc nL own D cI cZ A Ex) (S : St D w A s σ H locs) (hl : lv_has ls nL lv) (hM : CtZ l D cI cZ w Ex y b n rm (.ref o :: As) σ F) (V : VK own idx y b n (some .boolean) na) (q0 ci : Nat) (hr : (w σ)[q0]? = some (o, .inr (ci, fs)) ∧ clS[ci]? = some (y.cls, T, N)) (hR : RK rm n R) (hn : As.length = na) (hst : st0 = As.reverse ++ .ref o :: rest) (hcat : (rest.map fun v => v.category).sum ≤ 8) (hd : decode cc pc = .ok (.invokevirtual idx, 3))
    (kk : ∀ (r : Bool) (σ' : nS) (H : Heap) (locs : List Loc), F = (r, σ') → St D w A s σ' H locs → W p l e R s m args below meth c H locs 0 0 Q (F0 m (pc + 3) ls (.int (bI r) :: rest))) : W p l e R s m args below meth c H locs 0 0 Q (F0 m pc ls st0) := by
  have hF := st_free X S
  have hp := st_pre X S (.ref o :: As)
  obtain ⟨hx, hb, hml, hown, hts, hK, hA, hE, hlk, hEo⟩ := X
  obtain ⟨hP, hD, hS⟩ := S
  refine va_calli (va_runV (As := As) (rest := rest) ⟨hx, hb, hml, hown, hts⟩ (hM H.size) (cwV na hts (vk_good V) rfl hR.1 hR.2.1 ⟨rfl, V.2.2.2.2.2⟩ hR.2.2) ⟨hp.1, va_recv hK hP hr.2 hr.1, hp.2⟩ rfl hn hl.1 hst (lv_room hcat) hd ⟨Nat.zero_le _, Nat.zero_le _⟩) hS (fun q _ h => hF q h) hF (fun r u t H1 locs1 ht hvm h9 hB hz1 hk1 hS1 => ?_)
  obtain ⟨hP1, hK1, hD1⟩ := hB
  obtain ⟨x, rfl, h9⟩ := h9
  rw [ht] at hP1
  exact kk x u H1 locs1 h9 ⟨hP1, hD1.weaken (fun k q hk h => hF _ h), hS1⟩
theorem callVZp {F : Bool} (X : Fx p s m args meth c cc nL own D cI cZ A Ex) (S : St D w A s σ H locs) (hl : lv_has ls nL lv) (hM : CtZ l D cI cZ w Ex y b n rm (.ref o :: As) σ (F, σ)) (V : VK own idx y b n (some .boolean) na) (q0 ci : Nat) (hr : (w σ)[q0]? = some (o, .inr (ci, fs)) ∧ clS[ci]? = some (y.cls, T, N)) (hR : RK rm n R) (hn : As.length = na) (hst : st0 = As.reverse ++ .ref o :: rest) (hcat : (rest.map fun v => v.category).sum ≤ 8) (hd : decode cc pc = .ok (.invokevirtual idx, 3))
    (kk : ∀ (H : Heap) (locs : List Loc), St D w A s σ H locs → W p l e R s m args below meth c H locs 0 0 Q (F0 m (pc + 3) ls (.int (bI F) :: rest))) : W p l e R s m args below meth c H locs 0 0 Q (F0 m pc ls st0) :=
  callVZ X S hl hM V q0 ci hr hR hn hst hcat hd (fun r σ' H locs h S => by cases h; exact kk H locs S)
theorem callVV {F : nS} (X : Fx p s m args meth c cc nL own D cI cZ A Ex) (S : St D w A s σ H locs) (hl : lv_has ls nL lv) (hM : CtV l D cI cZ w Ex y b n rm (.ref o :: As) σ F) (V : VK own idx y b n none na) (q0 ci : Nat) (hr : (w σ)[q0]? = some (o, .inr (ci, fs)) ∧ clS[ci]? = some (y.cls, T, N)) (hR : RK rm n R) (hn : As.length = na) (hst : st0 = As.reverse ++ .ref o :: rest) (hcat : (rest.map fun v => v.category).sum ≤ 8) (hd : decode cc pc = .ok (.invokevirtual idx, 3))
    (kk : ∀ (σ' : nS) (H : Heap) (locs : List Loc), F = σ' → St D w A s σ' H locs → W p l e R s m args below meth c H locs 0 0 Q (F0 m (pc + 3) ls rest)) : W p l e R s m args below meth c H locs 0 0 Q (F0 m pc ls st0) := by
  have hF := st_free X S
  have hp := st_pre X S (.ref o :: As)
  obtain ⟨hx, hb, hml, hown, hts, hK, hA, hE, hlk, hEo⟩ := X
  obtain ⟨hP, hD, hS⟩ := S
  refine va_callv (va_runV (As := As) (rest := rest) ⟨hx, hb, hml, hown, hts⟩ (hM H.size) (cwV na hts (vk_good V) rfl hR.1 hR.2.1 ⟨rfl, V.2.2.2.2.2⟩ hR.2.2) ⟨hp.1, va_recv hK hP hr.2 hr.1, hp.2⟩ rfl hn hl.1 hst (lv_room hcat) hd ⟨Nat.zero_le _, Nat.zero_le _⟩) hS (fun q _ h => hF q h) hF (fun u t H1 locs1 ht hvm h9 hB hz1 hk1 hS1 => ?_)
  obtain ⟨hP1, hK1, hD1⟩ := hB
  rw [ht] at hP1
  exact kk u H1 locs1 h9 ⟨hP1, hD1.weaken (fun k q hk h => hF _ h), hS1⟩
theorem callSIp {F : Int32} (X : Fx p s m args meth c cc nL own D cI cZ A Ex) (S : St D w A s σ H locs) (hl : lv_has ls nL lv) (hM : CtI l D cI cZ w Ex y b n rm As σ (F, σ)) (V : SK own idx y b n (some .int) na) (hR : RK rm n R) (hn : As.length = na) (hst : st0 = As.reverse ++ rest) (hcat : (rest.map fun v => v.category).sum ≤ 8) (hd : decode cc pc = .ok (.invokestatic idx, 3))
    (kk : ∀ (H : Heap) (locs : List Loc), St D w A s σ H locs → W p l e R s m args below meth c H locs 0 0 Q (F0 m (pc + 3) ls (.int F :: rest))) : W p l e R s m args below meth c H locs 0 0 Q (F0 m pc ls st0) := by
  have hF := st_free X S
  have hp := st_pre X S As
  obtain ⟨hx, hb, hml, hown, hts, hK, hA, hE, hlk, hEo⟩ := X
  obtain ⟨hP, hD, hS⟩ := S
  refine va_calli (va_runS (As := As) (rest := rest) ⟨hx, hb, hml, hown, hts⟩ (hM H.size) (va_cwS na hts (sk_good V) rfl hR.1 hR.2.1 V.2.2.2.2 hR.2.2) hp rfl hn hl.1 hst (lv_room hcat) hd ⟨Nat.zero_le _, Nat.zero_le _⟩) hS (fun q _ h => hF q h) hF (fun r u t H1 locs1 ht hvm h9 hB hz1 hk1 hS1 => ?_)
  obtain ⟨hP1, hK1, hD1⟩ := hB
  cases h9
  rw [ht] at hP1
  exact kk H1 locs1 ⟨hP1, hD1.weaken (fun k q hk h => hF _ h), hS1⟩
theorem callSZp {F : Bool} (X : Fx p s m args meth c cc nL own D cI cZ A Ex) (S : St D w A s σ H locs) (hl : lv_has ls nL lv) (hM : CtZ l D cI cZ w Ex y b n rm As σ (F, σ)) (V : SK own idx y b n (some .boolean) na) (hR : RK rm n R) (hn : As.length = na) (hst : st0 = As.reverse ++ rest) (hcat : (rest.map fun v => v.category).sum ≤ 8) (hd : decode cc pc = .ok (.invokestatic idx, 3))
    (kk : ∀ (H : Heap) (locs : List Loc), St D w A s σ H locs → W p l e R s m args below meth c H locs 0 0 Q (F0 m (pc + 3) ls (.int (bI F) :: rest))) : W p l e R s m args below meth c H locs 0 0 Q (F0 m pc ls st0) := by
  have hF := st_free X S
  have hp := st_pre X S As
  obtain ⟨hx, hb, hml, hown, hts, hK, hA, hE, hlk, hEo⟩ := X
  obtain ⟨hP, hD, hS⟩ := S
  refine va_calli (va_runS (As := As) (rest := rest) ⟨hx, hb, hml, hown, hts⟩ (hM H.size) (va_cwS na hts (sk_good V) rfl hR.1 hR.2.1 V.2.2.2.2 hR.2.2) hp rfl hn hl.1 hst (lv_room hcat) hd ⟨Nat.zero_le _, Nat.zero_le _⟩) hS (fun q _ h => hF q h) hF (fun r u t H1 locs1 ht hvm h9 hB hz1 hk1 hS1 => ?_)
  obtain ⟨hP1, hK1, hD1⟩ := hB
  obtain ⟨x, rfl, h9⟩ := h9
  cases h9
  rw [ht] at hP1
  exact kk H1 locs1 ⟨hP1, hD1.weaken (fun k q hk h => hF _ h), hS1⟩
end CALLS
section SMALL
variable {p : Program} {l : Launch} {e : Env} {R : Room} {s : State} {m : MethodId} {args : Array Value} {below : List Frame} {meth : Method} {c : Code} {H : Heap} {locs : List Loc} {cells slots : Nat} {Q : State → Prop}
variable {cc : ByteArray} {pc : Nat} {ls : Array Slot} {rest : List Value}
theorem r_ci {x v : Int32} (h : x = v) (k : W p l e R s m args below meth c H locs cells slots Q (F0 m pc ls (.int v :: rest))) : W p l e R s m args below meth c H locs cells slots Q (F0 m pc ls (.int x :: rest)) := by subst h; exact k
theorem r_iushr (hx : p.tables.exec = Jvm.exec) (hb : c.code = cc) {x y : Int32} (hd : decode cc pc = .ok (.iushr, 1)) (k : W p l e R s m args below meth c H locs cells slots Q (F0 m (pc + 1) ls (.int (ush x y) :: rest))) : W p l e R s m args below meth c H locs cells slots Q (F0 m pc ls (.int y :: .int x :: rest)) := lv_iushr hx hb hd rfl k
theorem r_lushr (hx : p.tables.exec = Jvm.exec) (hb : c.code = cc) {x : Int64} {y : Int32} (hd : decode cc pc = .ok (.lushr, 1)) (k : W p l e R s m args below meth c H locs cells slots Q (F0 m (pc + 1) ls (.long (lush x y) :: rest))) : W p l e R s m args below meth c H locs cells slots Q (F0 m pc ls (.int y :: .long x :: rest)) := lv_lushr hx hb hd rfl k
theorem r_ifeqZ (hx : p.tables.exec = Jvm.exec) (hb : c.code = cc) {b : Bool} {off : Int} {tgt : Nat} (hd : decode cc pc = .ok (.ifCond .eq off, 3)) (ht : (pc : Int) + off = (tgt : Int)) (kt : ¬ b = true → W p l e R s m args below meth c H locs cells slots Q (F0 m tgt ls rest)) (kf : b = true → W p l e R s m args below meth c H locs cells slots Q (F0 m (pc + 3) ls rest)) : W p l e R s m args below meth c H locs cells slots Q (F0 m pc ls (.int (bI b) :: rest)) :=
  lv_if_eq hx hb hd ht (fun h => kt ((bI_0 b).mp h)) (fun h => kf (Classical.byContradiction fun h2 => h ((bI_0 b).mpr h2)))
theorem r_ifneZ (hx : p.tables.exec = Jvm.exec) (hb : c.code = cc) {b : Bool} {off : Int} {tgt : Nat} (hd : decode cc pc = .ok (.ifCond .ne off, 3)) (ht : (pc : Int) + off = (tgt : Int)) (kt : b = true → W p l e R s m args below meth c H locs cells slots Q (F0 m tgt ls rest)) (kf : ¬ b = true → W p l e R s m args below meth c H locs cells slots Q (F0 m (pc + 3) ls rest)) : W p l e R s m args below meth c H locs cells slots Q (F0 m pc ls (.int (bI b) :: rest)) :=
  lv_if_ne hx hb hd ht (fun h => kt (Classical.byContradiction fun h2 => h ((bI_0 b).mpr h2))) (fun h => kf ((bI_0 b).mp h))
end SMALL
end
section
def wC (cI cZ : ClassId) (a : Nat → Nat) (σ : nS) : va_W := [(a 0, .inr (0, [.ref (a 1), .ref (a 2), .ref (a 3), .ref (a 5), .ref (a 10), .ref (a 15), .ref (a 16), .int (σ 8 10), .int (σ 8 11), .int (σ 8 12), .int (σ 8 13), .int (σ 8 14)])), (a 1, .inl (cI, 16, .inl (σ 0))), (a 2, .inl (cI, 16, .inl (σ 11))), (a 3, .inr (1, [.ref (a 4)])), (a 4, .inl (cI, 256, .inl (σ 9))), (a 5, .inr (2, [.ref (a 6), .ref (a 7), .ref (a 8), .ref (a 9)])), (a 6, .inl (cI, 4, .inl (σ 5))), (a 7, .inl (cI, 4, .inl (σ 10))), (a 8, .inl (cI, 4, .inl (σ 6))), (a 9, .inl (cZ, 4, .inl (σ 7))), (a 10, .inr (3, [.ref (a 11), .ref (a 12), .ref (a 13), .ref (a 14), .int (σ 8 0), .int (σ 8 1), .int (σ 8 2), .int (σ 8 3)])), (a 11, .inl (cZ, 16, .inl (σ 1))), (a 12, .inl (cZ, 16, .inl (σ 2))), (a 13, .inl (cZ, 16, .inl (σ 3))), (a 14, .inl (cI, 16, .inl (σ 4))), (a 15, .inr (4, [.int (σ 8 4), .int (σ 8 5), .int (σ 8 6), .int (σ 8 7)])), (a 16, .inr (5, [.int (σ 8 8), .int (σ 8 9)]))]
def wM (cI cZ : ClassId) (a : Nat → Nat) (σ : nS) : va_W := [(a 0, .inr (6, [.int (σ 8 15), .ref (a 1), .ref (a 2), .int (σ 8 4), .int (σ 8 5), .int (σ 8 6), .int (σ 8 7), .ref (a 3), .ref (a 4), .ref (a 5), .ref (a 6), .int (σ 8 0), .int (σ 8 1), .int (σ 8 2), .int (σ 8 3), .int (σ 8 8), .int (σ 8 9), .int (σ 8 10), .int (σ 8 11), .int (σ 8 12), .int (σ 8 13), .int (σ 8 14), .ref (a 7), .ref (a 8), .ref (a 9), .ref (a 10)])), (a 1, .inl (cI, 1024, .inl (σ 9))), (a 2, .inl (cI, 16, .inl (σ 0))), (a 3, .inl (cI, 16, .inl (σ 4))), (a 4, .inl (cZ, 16, .inl (σ 1))), (a 5, .inl (cZ, 16, .inl (σ 2))), (a 6, .inl (cZ, 16, .inl (σ 3))), (a 7, .inl (cI, 4, .inl (σ 5))), (a 8, .inl (cI, 4, .inl (σ 10))), (a 9, .inl (cI, 4, .inl (σ 6))), (a 10, .inl (cZ, 4, .inl (σ 7)))]
theorem in_of {l : List Jvm.Cond} (h : l.all (fun w => decide (w ∈ tables_1) && goodWord w) = true) : ∀ w ∈ l, w ∈ WS := fun w hw => by
  have h1 := List.all_eq_true.mp h w hw
  simp only [Bool.and_eq_true, decide_eq_true_eq] at h1
  exact ws_tab h1.1 h1.2
theorem k_0 : Jvm.Cond.constant "java/lang/Integer" 265 1431655765 ∈ WS := ws_tab (List.mem_of_getElem? (i := 460) (by decide +kernel)) (by decide +kernel)
theorem k_1 : Jvm.Cond.constant "java/lang/Integer" 266 858993459 ∈ WS := ws_tab (List.mem_of_getElem? (i := 461) (by decide +kernel)) (by decide +kernel)
theorem k_2 : Jvm.Cond.constant "java/lang/Integer" 267 252645135 ∈ WS := ws_tab (List.mem_of_getElem? (i := 462) (by decide +kernel)) (by decide +kernel)
theorem k_3 : Jvm.Cond.methodLink "NestedCore$Exceptions" 33 ⟨"java/lang/Math", "min", "(II)I"⟩ ∈ WS := ws_tab (List.mem_of_getElem? (i := 340) (by decide +kernel)) (by decide +kernel)
theorem k_4 : Jvm.Cond.fieldLink "NestedCore" 184 "NestedCore" "FRAME" "[I" ∈ WS := ws_tab (List.mem_of_getElem? (i := 351) (by decide +kernel)) (by decide +kernel)
theorem k_5 : Jvm.Cond.constant "NestedCore$Memory" 19 65535 ∈ WS := ws_tab (List.mem_of_getElem? (i := 385) (by decide +kernel)) (by decide +kernel)
theorem k_6 : Jvm.Cond.constantLong "NestedCore$Flags" 19 4294967295 ∈ WS := ws_tab (List.mem_of_getElem? (i := 406) (by decide +kernel)) (by decide +kernel)
theorem k_7 : Jvm.Cond.methodLink "NestedCore" 160 ⟨"java/lang/System", "arraycopy", "(Ljava/lang/Object;ILjava/lang/Object;II)V"⟩ ∈ WS := ws_tab (List.mem_of_getElem? (i := 361) (by decide +kernel)) (by decide +kernel)
theorem k_8 : Jvm.Cond.constant "NestedCoreModel" 95 268435456 ∈ WS := ws_tab (List.mem_of_getElem? (i := 691) (by decide +kernel)) (by decide +kernel)
theorem k_9 : Jvm.Cond.constant "NestedCoreModel" 91 536870912 ∈ WS := ws_tab (List.mem_of_getElem? (i := 690) (by decide +kernel)) (by decide +kernel)
theorem k_10 : Jvm.Cond.constant "NestedCoreModel" 87 1073741824 ∈ WS := ws_tab (List.mem_of_getElem? (i := 689) (by decide +kernel)) (by decide +kernel)
theorem k_11 : Jvm.Cond.constant "NestedCoreModel" 83 (-2147483648) ∈ WS := ws_tab (List.mem_of_getElem? (i := 688) (by decide +kernel)) (by decide +kernel)
theorem k_12 : Jvm.Cond.constantLong "NestedCoreModel" 123 4294967295 ∈ WS := ws_tab (List.mem_of_getElem? (i := 768) (by decide +kernel)) (by decide +kernel)
theorem k_13 : Jvm.Cond.constant "NestedCoreModel" 161 46706 ∈ WS := ws_tab (List.mem_of_getElem? (i := 790) (by decide +kernel)) (by decide +kernel)
theorem k_14 : Jvm.Cond.constant "NestedCoreModel" 160 46690 ∈ WS := ws_tab (List.mem_of_getElem? (i := 789) (by decide +kernel)) (by decide +kernel)
theorem k_15 : Jvm.Cond.constant "NestedCoreModel" 162 46689 ∈ WS := ws_tab (List.mem_of_getElem? (i := 791) (by decide +kernel)) (by decide +kernel)
theorem k_16 : Jvm.Cond.constant "NestedCoreModel" 163 46705 ∈ WS := ws_tab (List.mem_of_getElem? (i := 792) (by decide +kernel)) (by decide +kernel)
theorem k_17 : Jvm.Cond.constant "NestedCoreModel" 167 48896 ∈ WS := ws_tab (List.mem_of_getElem? (i := 797) (by decide +kernel)) (by decide +kernel)
theorem k_18 : Jvm.Cond.constant "NestedCoreModel" 187 65415 ∈ WS := ws_tab (List.mem_of_getElem? (i := 708) (by decide +kernel)) (by decide +kernel)
theorem k_19 : Jvm.Cond.fieldLink "NestedCore$Areas" 15 "NestedCore$Areas" "sizes" "[I" ∈ WS := ws_tab (List.mem_of_getElem? (i := 41) (by decide +kernel)) (by decide +kernel)
theorem k_20 : Jvm.Cond.fieldLink "NestedCore$Areas" 18 "NestedCore$Areas" "rights" "[I" ∈ WS := ws_tab (List.mem_of_getElem? (i := 42) (by decide +kernel)) (by decide +kernel)
theorem k_21 : Jvm.Cond.fieldLink "NestedCore$Areas" 21 "NestedCore$Areas" "nevers" "[Z" ∈ WS := ws_tab (List.mem_of_getElem? (i := 43) (by decide +kernel)) (by decide +kernel)
theorem k_22 : Jvm.Cond.fieldLink "NestedCore$Areas" 9 "NestedCore$Areas" "starts" "[I" ∈ WS := ws_tab (List.mem_of_getElem? (i := 40) (by decide +kernel)) (by decide +kernel)
theorem k_23 : Jvm.Cond.fieldLink "NestedCore$Exceptions" 15 "NestedCore$Exceptions" "pending" "[Z" ∈ WS := ws_tab (List.mem_of_getElem? (i := 62) (by decide +kernel)) (by decide +kernel)
theorem k_24 : Jvm.Cond.fieldLink "NestedCore$Exceptions" 18 "NestedCore$Exceptions" "active" "[Z" ∈ WS := ws_tab (List.mem_of_getElem? (i := 64) (by decide +kernel)) (by decide +kernel)
theorem k_25 : Jvm.Cond.fieldLink "NestedCore$Exceptions" 21 "NestedCore$Exceptions" "priorities" "[I" ∈ WS := ws_tab (List.mem_of_getElem? (i := 66) (by decide +kernel)) (by decide +kernel)
theorem k_26 : Jvm.Cond.fieldLink "NestedCore$Exceptions" 25 "NestedCore$Exceptions" "split" "I" ∈ WS := ws_tab (List.mem_of_getElem? (i := 67) (by decide +kernel)) (by decide +kernel)
theorem k_27 : Jvm.Cond.fieldLink "NestedCore$Exceptions" 39 "NestedCore$Exceptions" "floor" "I" ∈ WS := ws_tab (List.mem_of_getElem? (i := 69) (by decide +kernel)) (by decide +kernel)
theorem k_28 : Jvm.Cond.fieldLink "NestedCore$Exceptions" 42 "NestedCore$Exceptions" "mask" "Z" ∈ WS := ws_tab (List.mem_of_getElem? (i := 71) (by decide +kernel)) (by decide +kernel)
theorem k_29 : Jvm.Cond.fieldLink "NestedCore$Exceptions" 46 "NestedCore$Exceptions" "faults" "Z" ∈ WS := ws_tab (List.mem_of_getElem? (i := 73) (by decide +kernel)) (by decide +kernel)
theorem k_30 : Jvm.Cond.fieldLink "NestedCore$Exceptions" 9 "NestedCore$Exceptions" "enabled" "[Z" ∈ WS := ws_tab (List.mem_of_getElem? (i := 60) (by decide +kernel)) (by decide +kernel)
theorem k_31 : Jvm.Cond.fieldLink "NestedCore$Flags" 13 "NestedCore$Flags" "z" "Z" ∈ WS := ws_tab (List.mem_of_getElem? (i := 99) (by decide +kernel)) (by decide +kernel)
theorem k_32 : Jvm.Cond.fieldLink "NestedCore$Flags" 16 "NestedCore$Flags" "c" "Z" ∈ WS := ws_tab (List.mem_of_getElem? (i := 100) (by decide +kernel)) (by decide +kernel)
theorem k_33 : Jvm.Cond.fieldLink "NestedCore$Flags" 21 "NestedCore$Flags" "v" "Z" ∈ WS := ws_tab (List.mem_of_getElem? (i := 102) (by decide +kernel)) (by decide +kernel)
theorem k_34 : Jvm.Cond.fieldLink "NestedCore$Flags" 7 "NestedCore$Flags" "n" "Z" ∈ WS := ws_tab (List.mem_of_getElem? (i := 98) (by decide +kernel)) (by decide +kernel)
theorem k_35 : Jvm.Cond.fieldLink "NestedCore$Memory" 9 "NestedCore$Memory" "words" "[I" ∈ WS := ws_tab (List.mem_of_getElem? (i := 29) (by decide +kernel)) (by decide +kernel)
theorem k_36 : Jvm.Cond.fieldLink "NestedCore$Ticker" 13 "NestedCore$Ticker" "counter" "I" ∈ WS := ws_tab (List.mem_of_getElem? (i := 120) (by decide +kernel)) (by decide +kernel)
theorem k_37 : Jvm.Cond.fieldLink "NestedCore$Ticker" 7 "NestedCore$Ticker" "reload" "I" ∈ WS := ws_tab (List.mem_of_getElem? (i := 118) (by decide +kernel)) (by decide +kernel)
theorem k_38 : Jvm.Cond.fieldLink "NestedCore" 104 "NestedCore$Exceptions" "pending" "[Z" ∈ WS := ws_tab (List.mem_of_getElem? (i := 63) (by decide +kernel)) (by decide +kernel)
theorem k_39 : Jvm.Cond.fieldLink "NestedCore" 118 "NestedCore" "halted" "I" ∈ WS := ws_tab (List.mem_of_getElem? (i := 135) (by decide +kernel)) (by decide +kernel)
theorem k_40 : Jvm.Cond.fieldLink "NestedCore" 128 "NestedCore" "number" "I" ∈ WS := ws_tab (List.mem_of_getElem? (i := 134) (by decide +kernel)) (by decide +kernel)
theorem k_41 : Jvm.Cond.fieldLink "NestedCore" 13 "NestedCore" "before" "[I" ∈ WS := ws_tab (List.mem_of_getElem? (i := 128) (by decide +kernel)) (by decide +kernel)
theorem k_42 : Jvm.Cond.fieldLink "NestedCore" 137 "NestedCore" "taken" "I" ∈ WS := ws_tab (List.mem_of_getElem? (i := 136) (by decide +kernel)) (by decide +kernel)
theorem k_43 : Jvm.Cond.fieldLink "NestedCore" 140 "NestedCore" "chained" "I" ∈ WS := ws_tab (List.mem_of_getElem? (i := 137) (by decide +kernel)) (by decide +kernel)
theorem k_44 : Jvm.Cond.fieldLink "NestedCore" 143 "NestedCore" "faulted" "I" ∈ WS := ws_tab (List.mem_of_getElem? (i := 138) (by decide +kernel)) (by decide +kernel)
theorem k_45 : Jvm.Cond.fieldLink "NestedCore" 146 "NestedCore$Ticker" "counter" "I" ∈ WS := ws_tab (List.mem_of_getElem? (i := 121) (by decide +kernel)) (by decide +kernel)
theorem k_46 : Jvm.Cond.fieldLink "NestedCore" 19 "NestedCore" "memory" "LNestedCore$Memory;" ∈ WS := ws_tab (List.mem_of_getElem? (i := 129) (by decide +kernel)) (by decide +kernel)
theorem k_47 : Jvm.Cond.fieldLink "NestedCore" 190 "NestedCore$Exceptions" "active" "[Z" ∈ WS := ws_tab (List.mem_of_getElem? (i := 65) (by decide +kernel)) (by decide +kernel)
theorem k_48 : Jvm.Cond.fieldLink "NestedCore" 193 "NestedCore$Exceptions" "enabled" "[Z" ∈ WS := ws_tab (List.mem_of_getElem? (i := 61) (by decide +kernel)) (by decide +kernel)
theorem k_49 : Jvm.Cond.fieldLink "NestedCore" 26 "NestedCore" "areas" "LNestedCore$Areas;" ∈ WS := ws_tab (List.mem_of_getElem? (i := 130) (by decide +kernel)) (by decide +kernel)
theorem k_50 : Jvm.Cond.fieldLink "NestedCore" 33 "NestedCore" "exceptions" "LNestedCore$Exceptions;" ∈ WS := ws_tab (List.mem_of_getElem? (i := 131) (by decide +kernel)) (by decide +kernel)
theorem k_51 : Jvm.Cond.fieldLink "NestedCore" 40 "NestedCore" "flags" "LNestedCore$Flags;" ∈ WS := ws_tab (List.mem_of_getElem? (i := 132) (by decide +kernel)) (by decide +kernel)
theorem k_52 : Jvm.Cond.fieldLink "NestedCore" 47 "NestedCore" "ticker" "LNestedCore$Ticker;" ∈ WS := ws_tab (List.mem_of_getElem? (i := 133) (by decide +kernel)) (by decide +kernel)
theorem k_53 : Jvm.Cond.fieldLink "NestedCore" 75 "NestedCore$Exceptions" "mask" "Z" ∈ WS := ws_tab (List.mem_of_getElem? (i := 72) (by decide +kernel)) (by decide +kernel)
theorem k_54 : Jvm.Cond.fieldLink "NestedCore" 79 "NestedCore$Exceptions" "faults" "Z" ∈ WS := ws_tab (List.mem_of_getElem? (i := 74) (by decide +kernel)) (by decide +kernel)
theorem k_55 : Jvm.Cond.fieldLink "NestedCore" 82 "NestedCore$Exceptions" "floor" "I" ∈ WS := ws_tab (List.mem_of_getElem? (i := 70) (by decide +kernel)) (by decide +kernel)
theorem k_56 : Jvm.Cond.fieldLink "NestedCore" 86 "NestedCore$Exceptions" "split" "I" ∈ WS := ws_tab (List.mem_of_getElem? (i := 68) (by decide +kernel)) (by decide +kernel)
theorem k_57 : Jvm.Cond.fieldLink "NestedCore" 9 "NestedCore" "registers" "[I" ∈ WS := ws_tab (List.mem_of_getElem? (i := 127) (by decide +kernel)) (by decide +kernel)
theorem k_58 : Jvm.Cond.fieldLink "NestedCore" 93 "NestedCore$Ticker" "reload" "I" ∈ WS := ws_tab (List.mem_of_getElem? (i := 119) (by decide +kernel)) (by decide +kernel)
theorem k_59 : Jvm.Cond.fieldLink "NestedCoreModel" 114 "NestedCoreModel" "taken" "I" ∈ WS := ws_tab (List.mem_of_getElem? (i := 550) (by decide +kernel)) (by decide +kernel)
theorem k_60 : Jvm.Cond.fieldLink "NestedCoreModel" 120 "NestedCoreModel" "faults" "I" ∈ WS := ws_tab (List.mem_of_getElem? (i := 552) (by decide +kernel)) (by decide +kernel)
theorem k_61 : Jvm.Cond.fieldLink "NestedCoreModel" 13 "NestedCoreModel" "\x72" "[I" ∈ WS := ws_tab (List.mem_of_getElem? (i := 533) (by decide +kernel)) (by decide +kernel)
theorem k_62 : Jvm.Cond.fieldLink "NestedCoreModel" 141 "NestedCoreModel" "chained" "I" ∈ WS := ws_tab (List.mem_of_getElem? (i := 551) (by decide +kernel)) (by decide +kernel)
theorem k_63 : Jvm.Cond.fieldLink "NestedCoreModel" 16 "NestedCoreModel" "ranks" "[I" ∈ WS := ws_tab (List.mem_of_getElem? (i := 538) (by decide +kernel)) (by decide +kernel)
theorem k_64 : Jvm.Cond.fieldLink "NestedCoreModel" 19 "NestedCoreModel" "enabled" "[Z" ∈ WS := ws_tab (List.mem_of_getElem? (i := 539) (by decide +kernel)) (by decide +kernel)
theorem k_65 : Jvm.Cond.fieldLink "NestedCoreModel" 203 "NestedCoreModel" "reload" "I" ∈ WS := ws_tab (List.mem_of_getElem? (i := 546) (by decide +kernel)) (by decide +kernel)
theorem k_66 : Jvm.Cond.fieldLink "NestedCoreModel" 206 "NestedCoreModel" "counter" "I" ∈ WS := ws_tab (List.mem_of_getElem? (i := 547) (by decide +kernel)) (by decide +kernel)
theorem k_67 : Jvm.Cond.fieldLink "NestedCoreModel" 23 "NestedCoreModel" "pending" "[Z" ∈ WS := ws_tab (List.mem_of_getElem? (i := 540) (by decide +kernel)) (by decide +kernel)
theorem k_68 : Jvm.Cond.fieldLink "NestedCoreModel" 26 "NestedCoreModel" "active" "[Z" ∈ WS := ws_tab (List.mem_of_getElem? (i := 541) (by decide +kernel)) (by decide +kernel)
theorem k_69 : Jvm.Cond.fieldLink "NestedCoreModel" 29 "NestedCoreModel" "from" "[I" ∈ WS := ws_tab (List.mem_of_getElem? (i := 553) (by decide +kernel)) (by decide +kernel)
theorem k_70 : Jvm.Cond.fieldLink "NestedCoreModel" 32 "NestedCoreModel" "to" "[I" ∈ WS := ws_tab (List.mem_of_getElem? (i := 554) (by decide +kernel)) (by decide +kernel)
theorem k_71 : Jvm.Cond.fieldLink "NestedCoreModel" 35 "NestedCoreModel" "rights" "[I" ∈ WS := ws_tab (List.mem_of_getElem? (i := 555) (by decide +kernel)) (by decide +kernel)
theorem k_72 : Jvm.Cond.fieldLink "NestedCoreModel" 38 "NestedCoreModel" "never" "[Z" ∈ WS := ws_tab (List.mem_of_getElem? (i := 556) (by decide +kernel)) (by decide +kernel)
theorem k_73 : Jvm.Cond.fieldLink "NestedCoreModel" 41 "NestedCoreModel" "thrown" "I" ∈ WS := ws_tab (List.mem_of_getElem? (i := 531) (by decide +kernel)) (by decide +kernel)
theorem k_74 : Jvm.Cond.fieldLink "NestedCoreModel" 53 "NestedCoreModel" "split" "I" ∈ WS := ws_tab (List.mem_of_getElem? (i := 542) (by decide +kernel)) (by decide +kernel)
theorem k_75 : Jvm.Cond.fieldLink "NestedCoreModel" 60 "NestedCoreModel" "floor" "I" ∈ WS := ws_tab (List.mem_of_getElem? (i := 543) (by decide +kernel)) (by decide +kernel)
theorem k_76 : Jvm.Cond.fieldLink "NestedCoreModel" 63 "NestedCoreModel" "mask" "Z" ∈ WS := ws_tab (List.mem_of_getElem? (i := 544) (by decide +kernel)) (by decide +kernel)
theorem k_77 : Jvm.Cond.fieldLink "NestedCoreModel" 67 "NestedCoreModel" "faultsOn" "Z" ∈ WS := ws_tab (List.mem_of_getElem? (i := 545) (by decide +kernel)) (by decide +kernel)
theorem k_78 : Jvm.Cond.fieldLink "NestedCoreModel" 7 "NestedCoreModel" "bytes" "[I" ∈ WS := ws_tab (List.mem_of_getElem? (i := 532) (by decide +kernel)) (by decide +kernel)
theorem k_79 : Jvm.Cond.fieldLink "NestedCoreModel" 74 "NestedCoreModel" "number" "I" ∈ WS := ws_tab (List.mem_of_getElem? (i := 548) (by decide +kernel)) (by decide +kernel)
theorem k_80 : Jvm.Cond.fieldLink "NestedCoreModel" 80 "NestedCoreModel" "n" "Z" ∈ WS := ws_tab (List.mem_of_getElem? (i := 534) (by decide +kernel)) (by decide +kernel)
theorem k_81 : Jvm.Cond.fieldLink "NestedCoreModel" 84 "NestedCoreModel" "z" "Z" ∈ WS := ws_tab (List.mem_of_getElem? (i := 535) (by decide +kernel)) (by decide +kernel)
theorem k_82 : Jvm.Cond.fieldLink "NestedCoreModel" 88 "NestedCoreModel" "c" "Z" ∈ WS := ws_tab (List.mem_of_getElem? (i := 536) (by decide +kernel)) (by decide +kernel)
theorem k_83 : Jvm.Cond.fieldLink "NestedCoreModel" 92 "NestedCoreModel" "v" "Z" ∈ WS := ws_tab (List.mem_of_getElem? (i := 537) (by decide +kernel)) (by decide +kernel)
theorem k_84 : Jvm.Cond.fieldLink "NestedCoreModel" 99 "NestedCoreModel" "halted" "I" ∈ WS := ws_tab (List.mem_of_getElem? (i := 549) (by decide +kernel)) (by decide +kernel)
theorem k_85 : Jvm.Cond.fieldLink "NestedCore" 252 "NestedCore$Flags" "c" "Z" ∈ WS := ws_tab (List.mem_of_getElem? (i := 101) (by decide +kernel)) (by decide +kernel)
theorem k_86 : Jvm.Cond.methodLink "NestedCore" 289 y_In_bitCount ∈ WS := ws_tab (List.mem_of_getElem? (i := 457) (by decide +kernel)) (by decide +kernel)
theorem k_87 : Jvm.Cond.static y_In_bitCount ∈ WS := ws_tab (List.mem_of_getElem? (i := 458) (by decide +kernel)) (by decide +kernel)
theorem k_88 : Jvm.Cond.initialized "java/lang/Integer" ∈ WS := ws_tab (List.mem_of_getElem? (i := 14) (by decide +kernel)) (by decide +kernel)
set_option maxRecDepth 100000 in
theorem k_89 : Jvm.Cond.code y_In_bitCount b_In_bitCount 1 (some .int) ∈ WS := ws_tab (List.mem_of_getElem? (i := 459) rfl) rfl
theorem k_90 : Jvm.Cond.methodLink "NestedCore" 72 y_N_even ∈ WS := ws_tab (List.mem_of_getElem? (i := 265) (by decide +kernel)) (by decide +kernel)
theorem k_91 : Jvm.Cond.static y_N_even ∈ WS := ws_tab (List.mem_of_getElem? (i := 266) (by decide +kernel)) (by decide +kernel)
theorem k_92 : Jvm.Cond.initialized "NestedCore" ∈ WS := ws_tab (List.mem_of_getElem? (i := 1) (by decide +kernel)) (by decide +kernel)
set_option maxRecDepth 100000 in
theorem k_93 : Jvm.Cond.code y_N_even b_N_even 1 (some .int) ∈ WS := ws_tab (List.mem_of_getElem? (i := 267) rfl) rfl
theorem k_94 : Jvm.Cond.methodLink "NestedCoreModel" 154 y_Mo_ones ∈ WS := ws_tab (List.mem_of_getElem? (i := 737) (by decide +kernel)) (by decide +kernel)
theorem k_95 : Jvm.Cond.static y_Mo_ones ∈ WS := ws_tab (List.mem_of_getElem? (i := 738) (by decide +kernel)) (by decide +kernel)
theorem k_96 : Jvm.Cond.initialized "NestedCoreModel" ∈ WS := ws_tab (List.mem_of_getElem? (i := 7) (by decide +kernel)) (by decide +kernel)
set_option maxRecDepth 100000 in
theorem k_97 : Jvm.Cond.code y_Mo_ones b_Mo_ones 3 (some .int) ∈ WS := ws_tab (List.mem_of_getElem? (i := 739) rfl) rfl
theorem k_98 : Jvm.Cond.methodLink "NestedCoreModel" 45 y_Mo_isWord ∈ WS := ws_tab (List.mem_of_getElem? (i := 618) (by decide +kernel)) (by decide +kernel)
theorem k_99 : Jvm.Cond.static y_Mo_isWord ∈ WS := ws_tab (List.mem_of_getElem? (i := 619) (by decide +kernel)) (by decide +kernel)
set_option maxRecDepth 100000 in
theorem k_100 : Jvm.Cond.code y_Mo_isWord b_Mo_isWord 1 (some .boolean) ∈ WS := ws_tab (List.mem_of_getElem? (i := 620) rfl) rfl
theorem k_101 : Jvm.Cond.methodLink "NestedCoreModel" 96 y_Mo_isFrame ∈ WS := ws_tab (List.mem_of_getElem? (i := 681) (by decide +kernel)) (by decide +kernel)
theorem k_102 : Jvm.Cond.static y_Mo_isFrame ∈ WS := ws_tab (List.mem_of_getElem? (i := 682) (by decide +kernel)) (by decide +kernel)
set_option maxRecDepth 100000 in
theorem k_103 : Jvm.Cond.code y_Mo_isFrame b_Mo_isFrame 1 (some .boolean) ∈ WS := ws_tab (List.mem_of_getElem? (i := 683) rfl) rfl
theorem k_104 : Jvm.Cond.methodLink "NestedCore$Exceptions" 29 y_Ex_group ∈ WS := ws_tab (List.mem_of_getElem? (i := 332) (by decide +kernel)) (by decide +kernel)
theorem k_105 : Jvm.Cond.instanceMethod y_Ex_group ∈ WS := ws_tab (List.mem_of_getElem? (i := 333) (by decide +kernel)) (by decide +kernel)
theorem k_106 : Jvm.Cond.selects "NestedCore$Exceptions" y_Ex_group y_Ex_group ∈ WS := ws_tab (List.mem_of_getElem? (i := 334) (by decide +kernel)) (by decide +kernel)
theorem k_107 : Jvm.Cond.initialized "NestedCore$Exceptions" ∈ WS := ws_tab (List.mem_of_getElem? (i := 4) (by decide +kernel)) (by decide +kernel)
set_option maxRecDepth 100000 in
theorem k_108 : Jvm.Cond.code y_Ex_group b_Ex_group 2 (some .int) ∈ WS := ws_tab (List.mem_of_getElem? (i := 335) rfl) rfl
theorem k_109 : Jvm.Cond.methodLink "NestedCore$Exceptions" 49 y_Ex_level ∈ WS := ws_tab (List.mem_of_getElem? (i := 336) (by decide +kernel)) (by decide +kernel)
theorem k_110 : Jvm.Cond.instanceMethod y_Ex_level ∈ WS := ws_tab (List.mem_of_getElem? (i := 337) (by decide +kernel)) (by decide +kernel)
theorem k_111 : Jvm.Cond.selects "NestedCore$Exceptions" y_Ex_level y_Ex_level ∈ WS := ws_tab (List.mem_of_getElem? (i := 338) (by decide +kernel)) (by decide +kernel)
set_option maxRecDepth 100000 in
theorem k_112 : Jvm.Cond.code y_Ex_level b_Ex_level 3 (some .int) ∈ WS := ws_tab (List.mem_of_getElem? (i := 339) rfl) rfl
theorem k_113 : Jvm.Cond.methodLink "NestedCore$Flags" 24 y_Fl_ofResult ∈ WS := ws_tab (List.mem_of_getElem? (i := 407) (by decide +kernel)) (by decide +kernel)
theorem k_114 : Jvm.Cond.instanceMethod y_Fl_ofResult ∈ WS := ws_tab (List.mem_of_getElem? (i := 395) (by decide +kernel)) (by decide +kernel)
theorem k_115 : Jvm.Cond.selects "NestedCore$Flags" y_Fl_ofResult y_Fl_ofResult ∈ WS := ws_tab (List.mem_of_getElem? (i := 396) (by decide +kernel)) (by decide +kernel)
theorem k_116 : Jvm.Cond.initialized "NestedCore$Flags" ∈ WS := ws_tab (List.mem_of_getElem? (i := 5) (by decide +kernel)) (by decide +kernel)
set_option maxRecDepth 100000 in
theorem k_117 : Jvm.Cond.code y_Fl_ofResult b_Fl_ofResult 2 none ∈ WS := ws_tab (List.mem_of_getElem? (i := 397) rfl) rfl
theorem k_118 : Jvm.Cond.methodLink "NestedCore$Flags" 28 y_Fl_sum ∈ WS := ws_tab (List.mem_of_getElem? (i := 412) (by decide +kernel)) (by decide +kernel)
theorem k_119 : Jvm.Cond.instanceMethod y_Fl_sum ∈ WS := ws_tab (List.mem_of_getElem? (i := 403) (by decide +kernel)) (by decide +kernel)
theorem k_120 : Jvm.Cond.selects "NestedCore$Flags" y_Fl_sum y_Fl_sum ∈ WS := ws_tab (List.mem_of_getElem? (i := 404) (by decide +kernel)) (by decide +kernel)
set_option maxRecDepth 100000 in
theorem k_121 : Jvm.Cond.code y_Fl_sum b_Fl_sum 9 (some .int) ∈ WS := ws_tab (List.mem_of_getElem? (i := 405) rfl) rfl
theorem k_122 : Jvm.Cond.methodLink "NestedCore$Memory" 15 y_Me_load ∈ WS := ws_tab (List.mem_of_getElem? (i := 384) (by decide +kernel)) (by decide +kernel)
theorem k_123 : Jvm.Cond.instanceMethod y_Me_load ∈ WS := ws_tab (List.mem_of_getElem? (i := 254) (by decide +kernel)) (by decide +kernel)
theorem k_124 : Jvm.Cond.selects "NestedCore$Memory" y_Me_load y_Me_load ∈ WS := ws_tab (List.mem_of_getElem? (i := 255) (by decide +kernel)) (by decide +kernel)
theorem k_125 : Jvm.Cond.initialized "NestedCore$Memory" ∈ WS := ws_tab (List.mem_of_getElem? (i := 2) (by decide +kernel)) (by decide +kernel)
set_option maxRecDepth 100000 in
theorem k_126 : Jvm.Cond.code y_Me_load b_Me_load 2 (some .int) ∈ WS := ws_tab (List.mem_of_getElem? (i := 256) rfl) rfl
theorem k_127 : Jvm.Cond.methodLink "NestedCore" 112 y_Ar_lay ∈ WS := ws_tab (List.mem_of_getElem? (i := 308) (by decide +kernel)) (by decide +kernel)
theorem k_128 : Jvm.Cond.instanceMethod y_Ar_lay ∈ WS := ws_tab (List.mem_of_getElem? (i := 309) (by decide +kernel)) (by decide +kernel)
theorem k_129 : Jvm.Cond.selects "NestedCore$Areas" y_Ar_lay y_Ar_lay ∈ WS := ws_tab (List.mem_of_getElem? (i := 310) (by decide +kernel)) (by decide +kernel)
theorem k_130 : Jvm.Cond.initialized "NestedCore$Areas" ∈ WS := ws_tab (List.mem_of_getElem? (i := 3) (by decide +kernel)) (by decide +kernel)
set_option maxRecDepth 100000 in
theorem k_131 : Jvm.Cond.code y_Ar_lay b_Ar_lay 6 none ∈ WS := ws_tab (List.mem_of_getElem? (i := 311) rfl) rfl
theorem k_132 : Jvm.Cond.methodLink "NestedCore" 121 y_N_step ∈ WS := ws_tab (List.mem_of_getElem? (i := 320) (by decide +kernel)) (by decide +kernel)
theorem k_133 : Jvm.Cond.instanceMethod y_N_step ∈ WS := ws_tab (List.mem_of_getElem? (i := 322) (by decide +kernel)) (by decide +kernel)
theorem k_134 : Jvm.Cond.selects "NestedCore" y_N_step y_N_step ∈ WS := ws_sel (List.mem_of_getElem? (i := 1) (by decide +kernel)) (by decide +kernel)
set_option maxRecDepth 100000 in
theorem k_135 : Jvm.Cond.code y_N_step b_N_step 3 none ∈ WS := ws_tab (List.mem_of_getElem? (i := 323) rfl) rfl
theorem k_136 : Jvm.Cond.methodLink "NestedCore" 124 y_Fl_packed ∈ WS := ws_tab (List.mem_of_getElem? (i := 353) (by decide +kernel)) (by decide +kernel)
theorem k_137 : Jvm.Cond.instanceMethod y_Fl_packed ∈ WS := ws_tab (List.mem_of_getElem? (i := 354) (by decide +kernel)) (by decide +kernel)
theorem k_138 : Jvm.Cond.selects "NestedCore$Flags" y_Fl_packed y_Fl_packed ∈ WS := ws_tab (List.mem_of_getElem? (i := 355) (by decide +kernel)) (by decide +kernel)
set_option maxRecDepth 100000 in
theorem k_139 : Jvm.Cond.code y_Fl_packed b_Fl_packed 1 (some .int) ∈ WS := ws_tab (List.mem_of_getElem? (i := 356) rfl) rfl
theorem k_140 : Jvm.Cond.methodLink "NestedCore" 131 y_Ex_level ∈ WS := ws_tab (List.mem_of_getElem? (i := 471) (by decide +kernel)) (by decide +kernel)
theorem k_141 : Jvm.Cond.methodLink "NestedCore" 134 y_Ex_due ∈ WS := ws_tab (List.mem_of_getElem? (i := 328) (by decide +kernel)) (by decide +kernel)
theorem k_142 : Jvm.Cond.instanceMethod y_Ex_due ∈ WS := ws_tab (List.mem_of_getElem? (i := 329) (by decide +kernel)) (by decide +kernel)
theorem k_143 : Jvm.Cond.selects "NestedCore$Exceptions" y_Ex_due y_Ex_due ∈ WS := ws_tab (List.mem_of_getElem? (i := 330) (by decide +kernel)) (by decide +kernel)
set_option maxRecDepth 100000 in
theorem k_144 : Jvm.Cond.code y_Ex_due b_Ex_due 3 (some .int) ∈ WS := ws_tab (List.mem_of_getElem? (i := 331) rfl) rfl
theorem k_145 : Jvm.Cond.methodLink "NestedCore" 151 y_Ex_packed ∈ WS := ws_tab (List.mem_of_getElem? (i := 521) (by decide +kernel)) (by decide +kernel)
theorem k_146 : Jvm.Cond.instanceMethod y_Ex_packed ∈ WS := ws_tab (List.mem_of_getElem? (i := 522) (by decide +kernel)) (by decide +kernel)
theorem k_147 : Jvm.Cond.selects "NestedCore$Exceptions" y_Ex_packed y_Ex_packed ∈ WS := ws_tab (List.mem_of_getElem? (i := 523) (by decide +kernel)) (by decide +kernel)
set_option maxRecDepth 100000 in
theorem k_148 : Jvm.Cond.code y_Ex_packed b_Ex_packed 2 (some .int) ∈ WS := ws_tab (List.mem_of_getElem? (i := 524) rfl) rfl
theorem k_149 : Jvm.Cond.methodLink "NestedCore" 153 y_Ti_fires ∈ WS := ws_tab (List.mem_of_getElem? (i := 324) (by decide +kernel)) (by decide +kernel)
theorem k_150 : Jvm.Cond.instanceMethod y_Ti_fires ∈ WS := ws_tab (List.mem_of_getElem? (i := 325) (by decide +kernel)) (by decide +kernel)
theorem k_151 : Jvm.Cond.selects "NestedCore$Ticker" y_Ti_fires y_Ti_fires ∈ WS := ws_tab (List.mem_of_getElem? (i := 326) (by decide +kernel)) (by decide +kernel)
theorem k_152 : Jvm.Cond.initialized "NestedCore$Ticker" ∈ WS := ws_tab (List.mem_of_getElem? (i := 6) (by decide +kernel)) (by decide +kernel)
set_option maxRecDepth 100000 in
theorem k_153 : Jvm.Cond.code y_Ti_fires b_Ti_fires 1 (some .boolean) ∈ WS := ws_tab (List.mem_of_getElem? (i := 327) rfl) rfl
theorem k_154 : Jvm.Cond.methodLink "NestedCore" 157 y_N_take ∈ WS := ws_tab (List.mem_of_getElem? (i := 343) (by decide +kernel)) (by decide +kernel)
theorem k_155 : Jvm.Cond.instanceMethod y_N_take ∈ WS := ws_tab (List.mem_of_getElem? (i := 345) (by decide +kernel)) (by decide +kernel)
theorem k_156 : Jvm.Cond.selects "NestedCore" y_N_take y_N_take ∈ WS := ws_sel (List.mem_of_getElem? (i := 2) (by decide +kernel)) (by decide +kernel)
set_option maxRecDepth 100000 in
theorem k_157 : Jvm.Cond.code y_N_take b_N_take 5 none ∈ WS := ws_tab (List.mem_of_getElem? (i := 346) rfl) rfl
theorem k_158 : Jvm.Cond.methodLink "NestedCore" 166 y_N_fetchFault ∈ WS := ws_tab (List.mem_of_getElem? (i := 364) (by decide +kernel)) (by decide +kernel)
theorem k_159 : Jvm.Cond.instanceMethod y_N_fetchFault ∈ WS := ws_tab (List.mem_of_getElem? (i := 366) (by decide +kernel)) (by decide +kernel)
theorem k_160 : Jvm.Cond.selects "NestedCore" y_N_fetchFault y_N_fetchFault ∈ WS := ws_sel (List.mem_of_getElem? (i := 4) (by decide +kernel)) (by decide +kernel)
set_option maxRecDepth 100000 in
theorem k_161 : Jvm.Cond.code y_N_fetchFault b_N_fetchFault 1 (some .int) ∈ WS := ws_tab (List.mem_of_getElem? (i := 367) rfl) rfl
theorem k_162 : Jvm.Cond.methodLink "NestedCore" 169 y_N_fetch ∈ WS := ws_tab (List.mem_of_getElem? (i := 376) (by decide +kernel)) (by decide +kernel)
theorem k_163 : Jvm.Cond.instanceMethod y_N_fetch ∈ WS := ws_tab (List.mem_of_getElem? (i := 378) (by decide +kernel)) (by decide +kernel)
theorem k_164 : Jvm.Cond.selects "NestedCore" y_N_fetch y_N_fetch ∈ WS := ws_sel (List.mem_of_getElem? (i := 5) (by decide +kernel)) (by decide +kernel)
set_option maxRecDepth 100000 in
theorem k_165 : Jvm.Cond.code y_N_fetch b_N_fetch 2 (some .int) ∈ WS := ws_tab (List.mem_of_getElem? (i := 379) rfl) rfl
theorem k_166 : Jvm.Cond.methodLink "NestedCore" 172 y_N_execute ∈ WS := ws_tab (List.mem_of_getElem? (i := 386) (by decide +kernel)) (by decide +kernel)
theorem k_167 : Jvm.Cond.instanceMethod y_N_execute ∈ WS := ws_tab (List.mem_of_getElem? (i := 388) (by decide +kernel)) (by decide +kernel)
theorem k_168 : Jvm.Cond.selects "NestedCore" y_N_execute y_N_execute ∈ WS := ws_sel (List.mem_of_getElem? (i := 6) (by decide +kernel)) (by decide +kernel)
set_option maxRecDepth 100000 in
theorem k_169 : Jvm.Cond.code y_N_execute b_N_execute 2 (some .int) ∈ WS := ws_tab (List.mem_of_getElem? (i := 389) rfl) rfl
theorem k_170 : Jvm.Cond.methodLink "NestedCore" 175 y_N_land ∈ WS := ws_tab (List.mem_of_getElem? (i := 489) (by decide +kernel)) (by decide +kernel)
theorem k_171 : Jvm.Cond.instanceMethod y_N_land ∈ WS := ws_tab (List.mem_of_getElem? (i := 491) (by decide +kernel)) (by decide +kernel)
theorem k_172 : Jvm.Cond.selects "NestedCore" y_N_land y_N_land ∈ WS := ws_sel (List.mem_of_getElem? (i := 24) (by decide +kernel)) (by decide +kernel)
set_option maxRecDepth 100000 in
theorem k_173 : Jvm.Cond.code y_N_land b_N_land 2 (some .int) ∈ WS := ws_tab (List.mem_of_getElem? (i := 492) rfl) rfl
theorem k_174 : Jvm.Cond.methodLink "NestedCore" 178 y_N_raise ∈ WS := ws_tab (List.mem_of_getElem? (i := 509) (by decide +kernel)) (by decide +kernel)
theorem k_175 : Jvm.Cond.instanceMethod y_N_raise ∈ WS := ws_tab (List.mem_of_getElem? (i := 511) (by decide +kernel)) (by decide +kernel)
theorem k_176 : Jvm.Cond.selects "NestedCore" y_N_raise y_N_raise ∈ WS := ws_sel (List.mem_of_getElem? (i := 27) (by decide +kernel)) (by decide +kernel)
set_option maxRecDepth 100000 in
theorem k_177 : Jvm.Cond.code y_N_raise b_N_raise 3 none ∈ WS := ws_tab (List.mem_of_getElem? (i := 512) rfl) rfl
theorem k_178 : Jvm.Cond.methodLink "NestedCore" 181 y_Me_holdsFrame ∈ WS := ws_tab (List.mem_of_getElem? (i := 347) (by decide +kernel)) (by decide +kernel)
theorem k_179 : Jvm.Cond.instanceMethod y_Me_holdsFrame ∈ WS := ws_tab (List.mem_of_getElem? (i := 348) (by decide +kernel)) (by decide +kernel)
theorem k_180 : Jvm.Cond.selects "NestedCore$Memory" y_Me_holdsFrame y_Me_holdsFrame ∈ WS := ws_tab (List.mem_of_getElem? (i := 349) (by decide +kernel)) (by decide +kernel)
set_option maxRecDepth 100000 in
theorem k_181 : Jvm.Cond.code y_Me_holdsFrame b_Me_holdsFrame 2 (some .boolean) ∈ WS := ws_tab (List.mem_of_getElem? (i := 350) rfl) rfl
theorem k_182 : Jvm.Cond.methodLink "NestedCore" 187 y_N_enter ∈ WS := ws_tab (List.mem_of_getElem? (i := 357) (by decide +kernel)) (by decide +kernel)
theorem k_183 : Jvm.Cond.instanceMethod y_N_enter ∈ WS := ws_tab (List.mem_of_getElem? (i := 359) (by decide +kernel)) (by decide +kernel)
theorem k_184 : Jvm.Cond.selects "NestedCore" y_N_enter y_N_enter ∈ WS := ws_sel (List.mem_of_getElem? (i := 3) (by decide +kernel)) (by decide +kernel)
set_option maxRecDepth 100000 in
theorem k_185 : Jvm.Cond.code y_N_enter b_N_enter 2 none ∈ WS := ws_tab (List.mem_of_getElem? (i := 360) rfl) rfl
theorem k_186 : Jvm.Cond.methodLink "NestedCore" 196 y_Ex_group ∈ WS := ws_tab (List.mem_of_getElem? (i := 476) (by decide +kernel)) (by decide +kernel)
theorem k_187 : Jvm.Cond.methodLink "NestedCore" 199 y_N_comeBack ∈ WS := ws_tab (List.mem_of_getElem? (i := 493) (by decide +kernel)) (by decide +kernel)
theorem k_188 : Jvm.Cond.instanceMethod y_N_comeBack ∈ WS := ws_tab (List.mem_of_getElem? (i := 495) (by decide +kernel)) (by decide +kernel)
theorem k_189 : Jvm.Cond.selects "NestedCore" y_N_comeBack y_N_comeBack ∈ WS := ws_sel (List.mem_of_getElem? (i := 25) (by decide +kernel)) (by decide +kernel)
set_option maxRecDepth 100000 in
theorem k_190 : Jvm.Cond.code y_N_comeBack b_N_comeBack 6 (some .int) ∈ WS := ws_tab (List.mem_of_getElem? (i := 496) rfl) rfl
theorem k_191 : Jvm.Cond.methodLink "NestedCore" 202 y_Ex_leave ∈ WS := ws_tab (List.mem_of_getElem? (i := 497) (by decide +kernel)) (by decide +kernel)
theorem k_192 : Jvm.Cond.instanceMethod y_Ex_leave ∈ WS := ws_tab (List.mem_of_getElem? (i := 498) (by decide +kernel)) (by decide +kernel)
theorem k_193 : Jvm.Cond.selects "NestedCore$Exceptions" y_Ex_leave y_Ex_leave ∈ WS := ws_tab (List.mem_of_getElem? (i := 499) (by decide +kernel)) (by decide +kernel)
set_option maxRecDepth 100000 in
theorem k_194 : Jvm.Cond.code y_Ex_leave b_Ex_leave 2 none ∈ WS := ws_tab (List.mem_of_getElem? (i := 500) rfl) rfl
theorem k_195 : Jvm.Cond.methodLink "NestedCore" 205 y_N_unstack ∈ WS := ws_tab (List.mem_of_getElem? (i := 501) (by decide +kernel)) (by decide +kernel)
theorem k_196 : Jvm.Cond.instanceMethod y_N_unstack ∈ WS := ws_tab (List.mem_of_getElem? (i := 503) (by decide +kernel)) (by decide +kernel)
theorem k_197 : Jvm.Cond.selects "NestedCore" y_N_unstack y_N_unstack ∈ WS := ws_sel (List.mem_of_getElem? (i := 26) (by decide +kernel)) (by decide +kernel)
set_option maxRecDepth 100000 in
theorem k_198 : Jvm.Cond.code y_N_unstack b_N_unstack 4 none ∈ WS := ws_tab (List.mem_of_getElem? (i := 504) rfl) rfl
theorem k_199 : Jvm.Cond.methodLink "NestedCore" 208 y_Fl_unpack ∈ WS := ws_tab (List.mem_of_getElem? (i := 505) (by decide +kernel)) (by decide +kernel)
theorem k_200 : Jvm.Cond.instanceMethod y_Fl_unpack ∈ WS := ws_tab (List.mem_of_getElem? (i := 506) (by decide +kernel)) (by decide +kernel)
theorem k_201 : Jvm.Cond.selects "NestedCore$Flags" y_Fl_unpack y_Fl_unpack ∈ WS := ws_tab (List.mem_of_getElem? (i := 507) (by decide +kernel)) (by decide +kernel)
set_option maxRecDepth 100000 in
theorem k_202 : Jvm.Cond.code y_Fl_unpack b_Fl_unpack 2 none ∈ WS := ws_tab (List.mem_of_getElem? (i := 508) rfl) rfl
theorem k_203 : Jvm.Cond.methodLink "NestedCore" 211 y_Me_holdsHalf ∈ WS := ws_tab (List.mem_of_getElem? (i := 368) (by decide +kernel)) (by decide +kernel)
theorem k_204 : Jvm.Cond.instanceMethod y_Me_holdsHalf ∈ WS := ws_tab (List.mem_of_getElem? (i := 369) (by decide +kernel)) (by decide +kernel)
theorem k_205 : Jvm.Cond.selects "NestedCore$Memory" y_Me_holdsHalf y_Me_holdsHalf ∈ WS := ws_tab (List.mem_of_getElem? (i := 370) (by decide +kernel)) (by decide +kernel)
set_option maxRecDepth 100000 in
theorem k_206 : Jvm.Cond.code y_Me_holdsHalf b_Me_holdsHalf 2 (some .boolean) ∈ WS := ws_tab (List.mem_of_getElem? (i := 371) rfl) rfl
theorem k_207 : Jvm.Cond.methodLink "NestedCore" 214 y_Ar_bars ∈ WS := ws_tab (List.mem_of_getElem? (i := 372) (by decide +kernel)) (by decide +kernel)
theorem k_208 : Jvm.Cond.instanceMethod y_Ar_bars ∈ WS := ws_tab (List.mem_of_getElem? (i := 373) (by decide +kernel)) (by decide +kernel)
theorem k_209 : Jvm.Cond.selects "NestedCore$Areas" y_Ar_bars y_Ar_bars ∈ WS := ws_tab (List.mem_of_getElem? (i := 374) (by decide +kernel)) (by decide +kernel)
set_option maxRecDepth 100000 in
theorem k_210 : Jvm.Cond.code y_Ar_bars b_Ar_bars 5 (some .boolean) ∈ WS := ws_tab (List.mem_of_getElem? (i := 375) rfl) rfl
theorem k_211 : Jvm.Cond.methodLink "NestedCore" 218 y_Me_half ∈ WS := ws_tab (List.mem_of_getElem? (i := 380) (by decide +kernel)) (by decide +kernel)
theorem k_212 : Jvm.Cond.instanceMethod y_Me_half ∈ WS := ws_tab (List.mem_of_getElem? (i := 381) (by decide +kernel)) (by decide +kernel)
theorem k_213 : Jvm.Cond.selects "NestedCore$Memory" y_Me_half y_Me_half ∈ WS := ws_tab (List.mem_of_getElem? (i := 382) (by decide +kernel)) (by decide +kernel)
set_option maxRecDepth 100000 in
theorem k_214 : Jvm.Cond.code y_Me_half b_Me_half 2 (some .int) ∈ WS := ws_tab (List.mem_of_getElem? (i := 383) rfl) rfl
theorem k_215 : Jvm.Cond.methodLink "NestedCore" 221 y_N_shift ∈ WS := ws_tab (List.mem_of_getElem? (i := 390) (by decide +kernel)) (by decide +kernel)
theorem k_216 : Jvm.Cond.instanceMethod y_N_shift ∈ WS := ws_tab (List.mem_of_getElem? (i := 392) (by decide +kernel)) (by decide +kernel)
theorem k_217 : Jvm.Cond.selects "NestedCore" y_N_shift y_N_shift ∈ WS := ws_sel (List.mem_of_getElem? (i := 7) (by decide +kernel)) (by decide +kernel)
set_option maxRecDepth 100000 in
theorem k_218 : Jvm.Cond.code y_N_shift b_N_shift 6 (some .int) ∈ WS := ws_tab (List.mem_of_getElem? (i := 393) rfl) rfl
theorem k_219 : Jvm.Cond.methodLink "NestedCore" 224 y_N_addThree ∈ WS := ws_tab (List.mem_of_getElem? (i := 398) (by decide +kernel)) (by decide +kernel)
theorem k_220 : Jvm.Cond.instanceMethod y_N_addThree ∈ WS := ws_tab (List.mem_of_getElem? (i := 400) (by decide +kernel)) (by decide +kernel)
theorem k_221 : Jvm.Cond.selects "NestedCore" y_N_addThree y_N_addThree ∈ WS := ws_sel (List.mem_of_getElem? (i := 8) (by decide +kernel)) (by decide +kernel)
set_option maxRecDepth 100000 in
theorem k_222 : Jvm.Cond.code y_N_addThree b_N_addThree 5 (some .int) ∈ WS := ws_tab (List.mem_of_getElem? (i := 401) rfl) rfl
theorem k_223 : Jvm.Cond.methodLink "NestedCore" 227 y_N_withNumber ∈ WS := ws_tab (List.mem_of_getElem? (i := 413) (by decide +kernel)) (by decide +kernel)
theorem k_224 : Jvm.Cond.instanceMethod y_N_withNumber ∈ WS := ws_tab (List.mem_of_getElem? (i := 415) (by decide +kernel)) (by decide +kernel)
theorem k_225 : Jvm.Cond.selects "NestedCore" y_N_withNumber y_N_withNumber ∈ WS := ws_sel (List.mem_of_getElem? (i := 9) (by decide +kernel)) (by decide +kernel)
set_option maxRecDepth 100000 in
theorem k_226 : Jvm.Cond.code y_N_withNumber b_N_withNumber 4 (some .int) ∈ WS := ws_tab (List.mem_of_getElem? (i := 416) rfl) rfl
theorem k_227 : Jvm.Cond.methodLink "NestedCore" 230 y_N_combine ∈ WS := ws_tab (List.mem_of_getElem? (i := 417) (by decide +kernel)) (by decide +kernel)
theorem k_228 : Jvm.Cond.instanceMethod y_N_combine ∈ WS := ws_tab (List.mem_of_getElem? (i := 419) (by decide +kernel)) (by decide +kernel)
theorem k_229 : Jvm.Cond.selects "NestedCore" y_N_combine y_N_combine ∈ WS := ws_sel (List.mem_of_getElem? (i := 10) (by decide +kernel)) (by decide +kernel)
set_option maxRecDepth 100000 in
theorem k_230 : Jvm.Cond.code y_N_combine b_N_combine 5 (some .int) ∈ WS := ws_tab (List.mem_of_getElem? (i := 420) rfl) rfl
theorem k_231 : Jvm.Cond.methodLink "NestedCore" 233 y_N_copyOrBranch ∈ WS := ws_tab (List.mem_of_getElem? (i := 429) (by decide +kernel)) (by decide +kernel)
theorem k_232 : Jvm.Cond.instanceMethod y_N_copyOrBranch ∈ WS := ws_tab (List.mem_of_getElem? (i := 431) (by decide +kernel)) (by decide +kernel)
theorem k_233 : Jvm.Cond.selects "NestedCore" y_N_copyOrBranch y_N_copyOrBranch ∈ WS := ws_sel (List.mem_of_getElem? (i := 12) (by decide +kernel)) (by decide +kernel)
set_option maxRecDepth 100000 in
theorem k_234 : Jvm.Cond.code y_N_copyOrBranch b_N_copyOrBranch 2 (some .int) ∈ WS := ws_tab (List.mem_of_getElem? (i := 432) rfl) rfl
theorem k_235 : Jvm.Cond.methodLink "NestedCore" 236 y_N_move ∈ WS := ws_tab (List.mem_of_getElem? (i := 441) (by decide +kernel)) (by decide +kernel)
theorem k_236 : Jvm.Cond.instanceMethod y_N_move ∈ WS := ws_tab (List.mem_of_getElem? (i := 443) (by decide +kernel)) (by decide +kernel)
theorem k_237 : Jvm.Cond.selects "NestedCore" y_N_move y_N_move ∈ WS := ws_sel (List.mem_of_getElem? (i := 15) (by decide +kernel)) (by decide +kernel)
set_option maxRecDepth 100000 in
theorem k_238 : Jvm.Cond.code y_N_move b_N_move 6 (some .int) ∈ WS := ws_tab (List.mem_of_getElem? (i := 444) rfl) rfl
theorem k_239 : Jvm.Cond.methodLink "NestedCore" 240 y_N_stackOrSwitch ∈ WS := ws_tab (List.mem_of_getElem? (i := 449) (by decide +kernel)) (by decide +kernel)
theorem k_240 : Jvm.Cond.instanceMethod y_N_stackOrSwitch ∈ WS := ws_tab (List.mem_of_getElem? (i := 451) (by decide +kernel)) (by decide +kernel)
theorem k_241 : Jvm.Cond.selects "NestedCore" y_N_stackOrSwitch y_N_stackOrSwitch ∈ WS := ws_sel (List.mem_of_getElem? (i := 17) (by decide +kernel)) (by decide +kernel)
set_option maxRecDepth 100000 in
theorem k_242 : Jvm.Cond.code y_N_stackOrSwitch b_N_stackOrSwitch 3 (some .int) ∈ WS := ws_tab (List.mem_of_getElem? (i := 452) rfl) rfl
theorem k_243 : Jvm.Cond.methodLink "NestedCore" 243 y_N_callOut ∈ WS := ws_tab (List.mem_of_getElem? (i := 472) (by decide +kernel)) (by decide +kernel)
theorem k_244 : Jvm.Cond.instanceMethod y_N_callOut ∈ WS := ws_tab (List.mem_of_getElem? (i := 474) (by decide +kernel)) (by decide +kernel)
theorem k_245 : Jvm.Cond.selects "NestedCore" y_N_callOut y_N_callOut ∈ WS := ws_sel (List.mem_of_getElem? (i := 21) (by decide +kernel)) (by decide +kernel)
set_option maxRecDepth 100000 in
theorem k_246 : Jvm.Cond.code y_N_callOut b_N_callOut 1 (some .int) ∈ WS := ws_tab (List.mem_of_getElem? (i := 475) rfl) rfl
theorem k_247 : Jvm.Cond.methodLink "NestedCore" 246 y_N_branchIf ∈ WS := ws_tab (List.mem_of_getElem? (i := 477) (by decide +kernel)) (by decide +kernel)
theorem k_248 : Jvm.Cond.instanceMethod y_N_branchIf ∈ WS := ws_tab (List.mem_of_getElem? (i := 479) (by decide +kernel)) (by decide +kernel)
theorem k_249 : Jvm.Cond.selects "NestedCore" y_N_branchIf y_N_branchIf ∈ WS := ws_sel (List.mem_of_getElem? (i := 22) (by decide +kernel)) (by decide +kernel)
set_option maxRecDepth 100000 in
theorem k_250 : Jvm.Cond.code y_N_branchIf b_N_branchIf 3 (some .int) ∈ WS := ws_tab (List.mem_of_getElem? (i := 480) rfl) rfl
theorem k_251 : Jvm.Cond.methodLink "NestedCore" 249 y_N_branch ∈ WS := ws_tab (List.mem_of_getElem? (i := 485) (by decide +kernel)) (by decide +kernel)
theorem k_252 : Jvm.Cond.instanceMethod y_N_branch ∈ WS := ws_tab (List.mem_of_getElem? (i := 487) (by decide +kernel)) (by decide +kernel)
theorem k_253 : Jvm.Cond.selects "NestedCore" y_N_branch y_N_branch ∈ WS := ws_sel (List.mem_of_getElem? (i := 23) (by decide +kernel)) (by decide +kernel)
set_option maxRecDepth 100000 in
theorem k_254 : Jvm.Cond.code y_N_branch b_N_branch 2 (some .int) ∈ WS := ws_tab (List.mem_of_getElem? (i := 488) rfl) rfl
theorem k_255 : Jvm.Cond.methodLink "NestedCore" 255 y_Fl_ofResult ∈ WS := ws_tab (List.mem_of_getElem? (i := 394) (by decide +kernel)) (by decide +kernel)
theorem k_256 : Jvm.Cond.methodLink "NestedCore" 258 y_Fl_sum ∈ WS := ws_tab (List.mem_of_getElem? (i := 402) (by decide +kernel)) (by decide +kernel)
theorem k_257 : Jvm.Cond.methodLink "NestedCore" 261 y_Fl_difference ∈ WS := ws_tab (List.mem_of_getElem? (i := 408) (by decide +kernel)) (by decide +kernel)
theorem k_258 : Jvm.Cond.instanceMethod y_Fl_difference ∈ WS := ws_tab (List.mem_of_getElem? (i := 409) (by decide +kernel)) (by decide +kernel)
theorem k_259 : Jvm.Cond.selects "NestedCore$Flags" y_Fl_difference y_Fl_difference ∈ WS := ws_tab (List.mem_of_getElem? (i := 410) (by decide +kernel)) (by decide +kernel)
set_option maxRecDepth 100000 in
theorem k_260 : Jvm.Cond.code y_Fl_difference b_Fl_difference 3 (some .int) ∈ WS := ws_tab (List.mem_of_getElem? (i := 411) rfl) rfl
theorem k_261 : Jvm.Cond.methodLink "NestedCore" 265 y_N_bits ∈ WS := ws_tab (List.mem_of_getElem? (i := 421) (by decide +kernel)) (by decide +kernel)
theorem k_262 : Jvm.Cond.instanceMethod y_N_bits ∈ WS := ws_tab (List.mem_of_getElem? (i := 423) (by decide +kernel)) (by decide +kernel)
theorem k_263 : Jvm.Cond.selects "NestedCore" y_N_bits y_N_bits ∈ WS := ws_sel (List.mem_of_getElem? (i := 11) (by decide +kernel)) (by decide +kernel)
set_option maxRecDepth 100000 in
theorem k_264 : Jvm.Cond.code y_N_bits b_N_bits 3 (some .int) ∈ WS := ws_tab (List.mem_of_getElem? (i := 424) rfl) rfl
theorem k_265 : Jvm.Cond.methodLink "NestedCore" 268 y_Fl_carry ∈ WS := ws_tab (List.mem_of_getElem? (i := 425) (by decide +kernel)) (by decide +kernel)
theorem k_266 : Jvm.Cond.instanceMethod y_Fl_carry ∈ WS := ws_tab (List.mem_of_getElem? (i := 426) (by decide +kernel)) (by decide +kernel)
theorem k_267 : Jvm.Cond.selects "NestedCore$Flags" y_Fl_carry y_Fl_carry ∈ WS := ws_tab (List.mem_of_getElem? (i := 427) (by decide +kernel)) (by decide +kernel)
set_option maxRecDepth 100000 in
theorem k_268 : Jvm.Cond.code y_Fl_carry b_Fl_carry 1 (some .int) ∈ WS := ws_tab (List.mem_of_getElem? (i := 428) rfl) rfl
theorem k_269 : Jvm.Cond.methodLink "NestedCore" 271 y_N_copyAny ∈ WS := ws_tab (List.mem_of_getElem? (i := 433) (by decide +kernel)) (by decide +kernel)
theorem k_270 : Jvm.Cond.instanceMethod y_N_copyAny ∈ WS := ws_tab (List.mem_of_getElem? (i := 435) (by decide +kernel)) (by decide +kernel)
theorem k_271 : Jvm.Cond.selects "NestedCore" y_N_copyAny y_N_copyAny ∈ WS := ws_sel (List.mem_of_getElem? (i := 13) (by decide +kernel)) (by decide +kernel)
set_option maxRecDepth 100000 in
theorem k_272 : Jvm.Cond.code y_N_copyAny b_N_copyAny 4 (some .int) ∈ WS := ws_tab (List.mem_of_getElem? (i := 436) rfl) rfl
theorem k_273 : Jvm.Cond.methodLink "NestedCore" 274 y_N_branchTo ∈ WS := ws_tab (List.mem_of_getElem? (i := 437) (by decide +kernel)) (by decide +kernel)
theorem k_274 : Jvm.Cond.instanceMethod y_N_branchTo ∈ WS := ws_tab (List.mem_of_getElem? (i := 439) (by decide +kernel)) (by decide +kernel)
theorem k_275 : Jvm.Cond.selects "NestedCore" y_N_branchTo y_N_branchTo ∈ WS := ws_sel (List.mem_of_getElem? (i := 14) (by decide +kernel)) (by decide +kernel)
set_option maxRecDepth 100000 in
theorem k_276 : Jvm.Cond.code y_N_branchTo b_N_branchTo 3 (some .int) ∈ WS := ws_tab (List.mem_of_getElem? (i := 440) rfl) rfl
theorem k_277 : Jvm.Cond.methodLink "NestedCore" 277 y_N_faultAlong ∈ WS := ws_tab (List.mem_of_getElem? (i := 445) (by decide +kernel)) (by decide +kernel)
theorem k_278 : Jvm.Cond.instanceMethod y_N_faultAlong ∈ WS := ws_tab (List.mem_of_getElem? (i := 447) (by decide +kernel)) (by decide +kernel)
theorem k_279 : Jvm.Cond.selects "NestedCore" y_N_faultAlong y_N_faultAlong ∈ WS := ws_sel (List.mem_of_getElem? (i := 16) (by decide +kernel)) (by decide +kernel)
set_option maxRecDepth 100000 in
theorem k_280 : Jvm.Cond.code y_N_faultAlong b_N_faultAlong 5 (some .int) ∈ WS := ws_tab (List.mem_of_getElem? (i := 448) rfl) rfl
theorem k_281 : Jvm.Cond.methodLink "NestedCore" 280 y_N_push ∈ WS := ws_tab (List.mem_of_getElem? (i := 453) (by decide +kernel)) (by decide +kernel)
theorem k_282 : Jvm.Cond.instanceMethod y_N_push ∈ WS := ws_tab (List.mem_of_getElem? (i := 455) (by decide +kernel)) (by decide +kernel)
theorem k_283 : Jvm.Cond.selects "NestedCore" y_N_push y_N_push ∈ WS := ws_sel (List.mem_of_getElem? (i := 18) (by decide +kernel)) (by decide +kernel)
set_option maxRecDepth 100000 in
theorem k_284 : Jvm.Cond.code y_N_push b_N_push 7 (some .int) ∈ WS := ws_tab (List.mem_of_getElem? (i := 456) rfl) rfl
theorem k_285 : Jvm.Cond.methodLink "NestedCore" 283 y_N_pop ∈ WS := ws_tab (List.mem_of_getElem? (i := 463) (by decide +kernel)) (by decide +kernel)
theorem k_286 : Jvm.Cond.instanceMethod y_N_pop ∈ WS := ws_tab (List.mem_of_getElem? (i := 465) (by decide +kernel)) (by decide +kernel)
theorem k_287 : Jvm.Cond.selects "NestedCore" y_N_pop y_N_pop ∈ WS := ws_sel (List.mem_of_getElem? (i := 19) (by decide +kernel)) (by decide +kernel)
set_option maxRecDepth 100000 in
theorem k_288 : Jvm.Cond.code y_N_pop b_N_pop 6 (some .int) ∈ WS := ws_tab (List.mem_of_getElem? (i := 466) rfl) rfl
theorem k_289 : Jvm.Cond.methodLink "NestedCore" 286 y_N_switchOrNothing ∈ WS := ws_tab (List.mem_of_getElem? (i := 467) (by decide +kernel)) (by decide +kernel)
theorem k_290 : Jvm.Cond.instanceMethod y_N_switchOrNothing ∈ WS := ws_tab (List.mem_of_getElem? (i := 469) (by decide +kernel)) (by decide +kernel)
theorem k_291 : Jvm.Cond.selects "NestedCore" y_N_switchOrNothing y_N_switchOrNothing ∈ WS := ws_sel (List.mem_of_getElem? (i := 20) (by decide +kernel)) (by decide +kernel)
set_option maxRecDepth 100000 in
theorem k_292 : Jvm.Cond.code y_N_switchOrNothing b_N_switchOrNothing 2 (some .int) ∈ WS := ws_tab (List.mem_of_getElem? (i := 470) rfl) rfl
theorem k_293 : Jvm.Cond.methodLink "NestedCore" 294 y_Fl_meet ∈ WS := ws_tab (List.mem_of_getElem? (i := 481) (by decide +kernel)) (by decide +kernel)
theorem k_294 : Jvm.Cond.instanceMethod y_Fl_meet ∈ WS := ws_tab (List.mem_of_getElem? (i := 482) (by decide +kernel)) (by decide +kernel)
theorem k_295 : Jvm.Cond.selects "NestedCore$Flags" y_Fl_meet y_Fl_meet ∈ WS := ws_tab (List.mem_of_getElem? (i := 483) (by decide +kernel)) (by decide +kernel)
set_option maxRecDepth 100000 in
theorem k_296 : Jvm.Cond.code y_Fl_meet b_Fl_meet 3 (some .boolean) ∈ WS := ws_tab (List.mem_of_getElem? (i := 484) rfl) rfl
theorem k_297 : Jvm.Cond.methodLink "NestedCore" 51 y_Me_holdsWord ∈ WS := ws_tab (List.mem_of_getElem? (i := 172) (by decide +kernel)) (by decide +kernel)
theorem k_298 : Jvm.Cond.instanceMethod y_Me_holdsWord ∈ WS := ws_tab (List.mem_of_getElem? (i := 173) (by decide +kernel)) (by decide +kernel)
theorem k_299 : Jvm.Cond.selects "NestedCore$Memory" y_Me_holdsWord y_Me_holdsWord ∈ WS := ws_tab (List.mem_of_getElem? (i := 174) (by decide +kernel)) (by decide +kernel)
set_option maxRecDepth 100000 in
theorem k_300 : Jvm.Cond.code y_Me_holdsWord b_Me_holdsWord 2 (some .boolean) ∈ WS := ws_tab (List.mem_of_getElem? (i := 175) rfl) rfl
theorem k_301 : Jvm.Cond.methodLink "NestedCore" 62 y_Me_store ∈ WS := ws_tab (List.mem_of_getElem? (i := 242) (by decide +kernel)) (by decide +kernel)
theorem k_302 : Jvm.Cond.instanceMethod y_Me_store ∈ WS := ws_tab (List.mem_of_getElem? (i := 243) (by decide +kernel)) (by decide +kernel)
theorem k_303 : Jvm.Cond.selects "NestedCore$Memory" y_Me_store y_Me_store ∈ WS := ws_tab (List.mem_of_getElem? (i := 244) (by decide +kernel)) (by decide +kernel)
set_option maxRecDepth 100000 in
theorem k_304 : Jvm.Cond.code y_Me_store b_Me_store 3 none ∈ WS := ws_tab (List.mem_of_getElem? (i := 245) rfl) rfl
theorem k_305 : Jvm.Cond.methodLink "NestedCore" 66 y_Me_load ∈ WS := ws_tab (List.mem_of_getElem? (i := 253) (by decide +kernel)) (by decide +kernel)
theorem k_306 : Jvm.Cond.methodLink "NestedCore" 89 y_Ti_start ∈ WS := ws_tab (List.mem_of_getElem? (i := 268) (by decide +kernel)) (by decide +kernel)
theorem k_307 : Jvm.Cond.instanceMethod y_Ti_start ∈ WS := ws_tab (List.mem_of_getElem? (i := 269) (by decide +kernel)) (by decide +kernel)
theorem k_308 : Jvm.Cond.selects "NestedCore$Ticker" y_Ti_start y_Ti_start ∈ WS := ws_tab (List.mem_of_getElem? (i := 270) (by decide +kernel)) (by decide +kernel)
set_option maxRecDepth 100000 in
theorem k_309 : Jvm.Cond.code y_Ti_start b_Ti_start 2 none ∈ WS := ws_tab (List.mem_of_getElem? (i := 271) rfl) rfl
theorem k_310 : Jvm.Cond.methodLink "NestedCore" 98 y_Ex_order ∈ WS := ws_tab (List.mem_of_getElem? (i := 287) (by decide +kernel)) (by decide +kernel)
theorem k_311 : Jvm.Cond.instanceMethod y_Ex_order ∈ WS := ws_tab (List.mem_of_getElem? (i := 288) (by decide +kernel)) (by decide +kernel)
theorem k_312 : Jvm.Cond.selects "NestedCore$Exceptions" y_Ex_order y_Ex_order ∈ WS := ws_tab (List.mem_of_getElem? (i := 289) (by decide +kernel)) (by decide +kernel)
set_option maxRecDepth 100000 in
theorem k_313 : Jvm.Cond.code y_Ex_order b_Ex_order 4 none ∈ WS := ws_tab (List.mem_of_getElem? (i := 290) rfl) rfl
theorem k_314 : Jvm.Cond.methodLink "NestedCoreModel" 102 y_Mo_store ∈ WS := ws_tab (List.mem_of_getElem? (i := 625) (by decide +kernel)) (by decide +kernel)
theorem k_315 : Jvm.Cond.instanceMethod y_Mo_store ∈ WS := ws_tab (List.mem_of_getElem? (i := 627) (by decide +kernel)) (by decide +kernel)
theorem k_316 : Jvm.Cond.selects "NestedCoreModel" y_Mo_store y_Mo_store ∈ WS := ws_sel (List.mem_of_getElem? (i := 29) (by decide +kernel)) (by decide +kernel)
set_option maxRecDepth 100000 in
theorem k_317 : Jvm.Cond.code y_Mo_store b_Mo_store 4 none ∈ WS := ws_tab (List.mem_of_getElem? (i := 628) rfl) rfl
theorem k_318 : Jvm.Cond.methodLink "NestedCoreModel" 106 y_Mo_status ∈ WS := ws_tab (List.mem_of_getElem? (i := 684) (by decide +kernel)) (by decide +kernel)
theorem k_319 : Jvm.Cond.instanceMethod y_Mo_status ∈ WS := ws_tab (List.mem_of_getElem? (i := 686) (by decide +kernel)) (by decide +kernel)
theorem k_320 : Jvm.Cond.selects "NestedCoreModel" y_Mo_status y_Mo_status ∈ WS := ws_sel (List.mem_of_getElem? (i := 36) (by decide +kernel)) (by decide +kernel)
set_option maxRecDepth 100000 in
theorem k_321 : Jvm.Cond.code y_Mo_status b_Mo_status 2 (some .int) ∈ WS := ws_tab (List.mem_of_getElem? (i := 687) rfl) rfl
theorem k_322 : Jvm.Cond.methodLink "NestedCoreModel" 110 y_Mo_enter ∈ WS := ws_tab (List.mem_of_getElem? (i := 692) (by decide +kernel)) (by decide +kernel)
theorem k_323 : Jvm.Cond.instanceMethod y_Mo_enter ∈ WS := ws_tab (List.mem_of_getElem? (i := 694) (by decide +kernel)) (by decide +kernel)
theorem k_324 : Jvm.Cond.selects "NestedCoreModel" y_Mo_enter y_Mo_enter ∈ WS := ws_sel (List.mem_of_getElem? (i := 37) (by decide +kernel)) (by decide +kernel)
set_option maxRecDepth 100000 in
theorem k_325 : Jvm.Cond.code y_Mo_enter b_Mo_enter 2 none ∈ WS := ws_tab (List.mem_of_getElem? (i := 695) rfl) rfl
theorem k_326 : Jvm.Cond.methodLink "NestedCoreModel" 117 y_Mo_flags ∈ WS := ws_tab (List.mem_of_getElem? (i := 729) (by decide +kernel)) (by decide +kernel)
theorem k_327 : Jvm.Cond.instanceMethod y_Mo_flags ∈ WS := ws_tab (List.mem_of_getElem? (i := 731) (by decide +kernel)) (by decide +kernel)
theorem k_328 : Jvm.Cond.selects "NestedCoreModel" y_Mo_flags y_Mo_flags ∈ WS := ws_sel (List.mem_of_getElem? (i := 46) (by decide +kernel)) (by decide +kernel)
set_option maxRecDepth 100000 in
theorem k_329 : Jvm.Cond.code y_Mo_flags b_Mo_flags 2 none ∈ WS := ws_tab (List.mem_of_getElem? (i := 732) rfl) rfl
theorem k_330 : Jvm.Cond.methodLink "NestedCoreModel" 125 y_Mo_test ∈ WS := ws_tab (List.mem_of_getElem? (i := 760) (by decide +kernel)) (by decide +kernel)
theorem k_331 : Jvm.Cond.instanceMethod y_Mo_test ∈ WS := ws_tab (List.mem_of_getElem? (i := 762) (by decide +kernel)) (by decide +kernel)
theorem k_332 : Jvm.Cond.selects "NestedCoreModel" y_Mo_test y_Mo_test ∈ WS := ws_sel (List.mem_of_getElem? (i := 53) (by decide +kernel)) (by decide +kernel)
set_option maxRecDepth 100000 in
theorem k_333 : Jvm.Cond.code y_Mo_test b_Mo_test 2 none ∈ WS := ws_tab (List.mem_of_getElem? (i := 763) rfl) rfl
theorem k_334 : Jvm.Cond.methodLink "NestedCoreModel" 128 y_Mo_sum ∈ WS := ws_tab (List.mem_of_getElem? (i := 764) (by decide +kernel)) (by decide +kernel)
theorem k_335 : Jvm.Cond.instanceMethod y_Mo_sum ∈ WS := ws_tab (List.mem_of_getElem? (i := 766) (by decide +kernel)) (by decide +kernel)
theorem k_336 : Jvm.Cond.selects "NestedCoreModel" y_Mo_sum y_Mo_sum ∈ WS := ws_sel (List.mem_of_getElem? (i := 54) (by decide +kernel)) (by decide +kernel)
set_option maxRecDepth 100000 in
theorem k_337 : Jvm.Cond.code y_Mo_sum b_Mo_sum 9 (some .int) ∈ WS := ws_tab (List.mem_of_getElem? (i := 767) rfl) rfl
theorem k_338 : Jvm.Cond.methodLink "NestedCoreModel" 132 y_Mo_isReturn ∈ WS := ws_tab (List.mem_of_getElem? (i := 717) (by decide +kernel)) (by decide +kernel)
theorem k_339 : Jvm.Cond.instanceMethod y_Mo_isReturn ∈ WS := ws_tab (List.mem_of_getElem? (i := 719) (by decide +kernel)) (by decide +kernel)
theorem k_340 : Jvm.Cond.selects "NestedCoreModel" y_Mo_isReturn y_Mo_isReturn ∈ WS := ws_sel (List.mem_of_getElem? (i := 43) (by decide +kernel)) (by decide +kernel)
set_option maxRecDepth 100000 in
theorem k_341 : Jvm.Cond.code y_Mo_isReturn b_Mo_isReturn 2 (some .boolean) ∈ WS := ws_tab (List.mem_of_getElem? (i := 720) rfl) rfl
theorem k_342 : Jvm.Cond.methodLink "NestedCoreModel" 135 y_Mo_due ∈ WS := ws_tab (List.mem_of_getElem? (i := 665) (by decide +kernel)) (by decide +kernel)
theorem k_343 : Jvm.Cond.instanceMethod y_Mo_due ∈ WS := ws_tab (List.mem_of_getElem? (i := 667) (by decide +kernel)) (by decide +kernel)
theorem k_344 : Jvm.Cond.selects "NestedCoreModel" y_Mo_due y_Mo_due ∈ WS := ws_sel (List.mem_of_getElem? (i := 32) (by decide +kernel)) (by decide +kernel)
set_option maxRecDepth 100000 in
theorem k_345 : Jvm.Cond.code y_Mo_due b_Mo_due 3 (some .int) ∈ WS := ws_tab (List.mem_of_getElem? (i := 668) rfl) rfl
theorem k_346 : Jvm.Cond.methodLink "NestedCoreModel" 138 y_Mo_isBack ∈ WS := ws_tab (List.mem_of_getElem? (i := 721) (by decide +kernel)) (by decide +kernel)
theorem k_347 : Jvm.Cond.instanceMethod y_Mo_isBack ∈ WS := ws_tab (List.mem_of_getElem? (i := 723) (by decide +kernel)) (by decide +kernel)
theorem k_348 : Jvm.Cond.selects "NestedCoreModel" y_Mo_isBack y_Mo_isBack ∈ WS := ws_sel (List.mem_of_getElem? (i := 44) (by decide +kernel)) (by decide +kernel)
set_option maxRecDepth 100000 in
theorem k_349 : Jvm.Cond.code y_Mo_isBack b_Mo_isBack 4 (some .boolean) ∈ WS := ws_tab (List.mem_of_getElem? (i := 724) rfl) rfl
theorem k_350 : Jvm.Cond.methodLink "NestedCoreModel" 144 y_Mo_comeBack ∈ WS := ws_tab (List.mem_of_getElem? (i := 725) (by decide +kernel)) (by decide +kernel)
theorem k_351 : Jvm.Cond.instanceMethod y_Mo_comeBack ∈ WS := ws_tab (List.mem_of_getElem? (i := 727) (by decide +kernel)) (by decide +kernel)
theorem k_352 : Jvm.Cond.selects "NestedCoreModel" y_Mo_comeBack y_Mo_comeBack ∈ WS := ws_sel (List.mem_of_getElem? (i := 45) (by decide +kernel)) (by decide +kernel)
set_option maxRecDepth 100000 in
theorem k_353 : Jvm.Cond.code y_Mo_comeBack b_Mo_comeBack 4 none ∈ WS := ws_tab (List.mem_of_getElem? (i := 728) rfl) rfl
theorem k_354 : Jvm.Cond.methodLink "NestedCoreModel" 147 y_Mo_jump ∈ WS := ws_tab (List.mem_of_getElem? (i := 713) (by decide +kernel)) (by decide +kernel)
theorem k_355 : Jvm.Cond.instanceMethod y_Mo_jump ∈ WS := ws_tab (List.mem_of_getElem? (i := 715) (by decide +kernel)) (by decide +kernel)
theorem k_356 : Jvm.Cond.selects "NestedCoreModel" y_Mo_jump y_Mo_jump ∈ WS := ws_sel (List.mem_of_getElem? (i := 42) (by decide +kernel)) (by decide +kernel)
set_option maxRecDepth 100000 in
theorem k_357 : Jvm.Cond.code y_Mo_jump b_Mo_jump 4 (some .int) ∈ WS := ws_tab (List.mem_of_getElem? (i := 716) rfl) rfl
theorem k_358 : Jvm.Cond.methodLink "NestedCoreModel" 151 y_Mo_faultOf ∈ WS := ws_tab (List.mem_of_getElem? (i := 740) (by decide +kernel)) (by decide +kernel)
theorem k_359 : Jvm.Cond.instanceMethod y_Mo_faultOf ∈ WS := ws_tab (List.mem_of_getElem? (i := 742) (by decide +kernel)) (by decide +kernel)
theorem k_360 : Jvm.Cond.selects "NestedCoreModel" y_Mo_faultOf y_Mo_faultOf ∈ WS := ws_sel (List.mem_of_getElem? (i := 48) (by decide +kernel)) (by decide +kernel)
set_option maxRecDepth 100000 in
theorem k_361 : Jvm.Cond.code y_Mo_faultOf b_Mo_faultOf 5 (some .int) ∈ WS := ws_tab (List.mem_of_getElem? (i := 743) rfl) rfl
theorem k_362 : Jvm.Cond.methodLink "NestedCoreModel" 157 y_Mo_holds ∈ WS := ws_tab (List.mem_of_getElem? (i := 748) (by decide +kernel)) (by decide +kernel)
theorem k_363 : Jvm.Cond.instanceMethod y_Mo_holds ∈ WS := ws_tab (List.mem_of_getElem? (i := 750) (by decide +kernel)) (by decide +kernel)
theorem k_364 : Jvm.Cond.selects "NestedCoreModel" y_Mo_holds y_Mo_holds ∈ WS := ws_sel (List.mem_of_getElem? (i := 50) (by decide +kernel)) (by decide +kernel)
set_option maxRecDepth 100000 in
theorem k_365 : Jvm.Cond.code y_Mo_holds b_Mo_holds 2 (some .boolean) ∈ WS := ws_tab (List.mem_of_getElem? (i := 751) rfl) rfl
theorem k_366 : Jvm.Cond.methodLink "NestedCoreModel" 164 y_Mo_push ∈ WS := ws_tab (List.mem_of_getElem? (i := 793) (by decide +kernel)) (by decide +kernel)
theorem k_367 : Jvm.Cond.instanceMethod y_Mo_push ∈ WS := ws_tab (List.mem_of_getElem? (i := 795) (by decide +kernel)) (by decide +kernel)
theorem k_368 : Jvm.Cond.selects "NestedCoreModel" y_Mo_push y_Mo_push ∈ WS := ws_sel (List.mem_of_getElem? (i := 60) (by decide +kernel)) (by decide +kernel)
set_option maxRecDepth 100000 in
theorem k_369 : Jvm.Cond.code y_Mo_push b_Mo_push 6 (some .int) ∈ WS := ws_tab (List.mem_of_getElem? (i := 796) rfl) rfl
theorem k_370 : Jvm.Cond.methodLink "NestedCoreModel" 168 y_Mo_shift ∈ WS := ws_tab (List.mem_of_getElem? (i := 756) (by decide +kernel)) (by decide +kernel)
theorem k_371 : Jvm.Cond.instanceMethod y_Mo_shift ∈ WS := ws_tab (List.mem_of_getElem? (i := 758) (by decide +kernel)) (by decide +kernel)
theorem k_372 : Jvm.Cond.selects "NestedCoreModel" y_Mo_shift y_Mo_shift ∈ WS := ws_sel (List.mem_of_getElem? (i := 52) (by decide +kernel)) (by decide +kernel)
set_option maxRecDepth 100000 in
theorem k_373 : Jvm.Cond.code y_Mo_shift b_Mo_shift 6 (some .int) ∈ WS := ws_tab (List.mem_of_getElem? (i := 759) rfl) rfl
theorem k_374 : Jvm.Cond.methodLink "NestedCoreModel" 171 y_Mo_immediate ∈ WS := ws_tab (List.mem_of_getElem? (i := 769) (by decide +kernel)) (by decide +kernel)
theorem k_375 : Jvm.Cond.instanceMethod y_Mo_immediate ∈ WS := ws_tab (List.mem_of_getElem? (i := 771) (by decide +kernel)) (by decide +kernel)
theorem k_376 : Jvm.Cond.selects "NestedCoreModel" y_Mo_immediate y_Mo_immediate ∈ WS := ws_sel (List.mem_of_getElem? (i := 55) (by decide +kernel)) (by decide +kernel)
set_option maxRecDepth 100000 in
theorem k_377 : Jvm.Cond.code y_Mo_immediate b_Mo_immediate 6 (some .int) ∈ WS := ws_tab (List.mem_of_getElem? (i := 772) rfl) rfl
theorem k_378 : Jvm.Cond.methodLink "NestedCoreModel" 174 y_Mo_logic ∈ WS := ws_tab (List.mem_of_getElem? (i := 773) (by decide +kernel)) (by decide +kernel)
theorem k_379 : Jvm.Cond.instanceMethod y_Mo_logic ∈ WS := ws_tab (List.mem_of_getElem? (i := 775) (by decide +kernel)) (by decide +kernel)
theorem k_380 : Jvm.Cond.selects "NestedCoreModel" y_Mo_logic y_Mo_logic ∈ WS := ws_sel (List.mem_of_getElem? (i := 56) (by decide +kernel)) (by decide +kernel)
set_option maxRecDepth 100000 in
theorem k_381 : Jvm.Cond.code y_Mo_logic b_Mo_logic 7 (some .int) ∈ WS := ws_tab (List.mem_of_getElem? (i := 776) rfl) rfl
theorem k_382 : Jvm.Cond.methodLink "NestedCoreModel" 177 y_Mo_moveHigh ∈ WS := ws_tab (List.mem_of_getElem? (i := 777) (by decide +kernel)) (by decide +kernel)
theorem k_383 : Jvm.Cond.instanceMethod y_Mo_moveHigh ∈ WS := ws_tab (List.mem_of_getElem? (i := 779) (by decide +kernel)) (by decide +kernel)
theorem k_384 : Jvm.Cond.selects "NestedCoreModel" y_Mo_moveHigh y_Mo_moveHigh ∈ WS := ws_sel (List.mem_of_getElem? (i := 57) (by decide +kernel)) (by decide +kernel)
set_option maxRecDepth 100000 in
theorem k_385 : Jvm.Cond.code y_Mo_moveHigh b_Mo_moveHigh 4 (some .int) ∈ WS := ws_tab (List.mem_of_getElem? (i := 780) rfl) rfl
theorem k_386 : Jvm.Cond.methodLink "NestedCoreModel" 180 y_Mo_move ∈ WS := ws_tab (List.mem_of_getElem? (i := 781) (by decide +kernel)) (by decide +kernel)
theorem k_387 : Jvm.Cond.instanceMethod y_Mo_move ∈ WS := ws_tab (List.mem_of_getElem? (i := 783) (by decide +kernel)) (by decide +kernel)
theorem k_388 : Jvm.Cond.selects "NestedCoreModel" y_Mo_move y_Mo_move ∈ WS := ws_sel (List.mem_of_getElem? (i := 58) (by decide +kernel)) (by decide +kernel)
set_option maxRecDepth 100000 in
theorem k_389 : Jvm.Cond.code y_Mo_move b_Mo_move 5 (some .int) ∈ WS := ws_tab (List.mem_of_getElem? (i := 784) rfl) rfl
theorem k_390 : Jvm.Cond.methodLink "NestedCoreModel" 184 y_Mo_special ∈ WS := ws_tab (List.mem_of_getElem? (i := 785) (by decide +kernel)) (by decide +kernel)
theorem k_391 : Jvm.Cond.instanceMethod y_Mo_special ∈ WS := ws_tab (List.mem_of_getElem? (i := 787) (by decide +kernel)) (by decide +kernel)
theorem k_392 : Jvm.Cond.selects "NestedCoreModel" y_Mo_special y_Mo_special ∈ WS := ws_sel (List.mem_of_getElem? (i := 59) (by decide +kernel)) (by decide +kernel)
set_option maxRecDepth 100000 in
theorem k_393 : Jvm.Cond.code y_Mo_special b_Mo_special 2 (some .int) ∈ WS := ws_tab (List.mem_of_getElem? (i := 788) rfl) rfl
theorem k_394 : Jvm.Cond.methodLink "NestedCoreModel" 188 y_Mo_exchange ∈ WS := ws_tab (List.mem_of_getElem? (i := 709) (by decide +kernel)) (by decide +kernel)
theorem k_395 : Jvm.Cond.instanceMethod y_Mo_exchange ∈ WS := ws_tab (List.mem_of_getElem? (i := 711) (by decide +kernel)) (by decide +kernel)
theorem k_396 : Jvm.Cond.selects "NestedCoreModel" y_Mo_exchange y_Mo_exchange ∈ WS := ws_sel (List.mem_of_getElem? (i := 41) (by decide +kernel)) (by decide +kernel)
set_option maxRecDepth 100000 in
theorem k_397 : Jvm.Cond.code y_Mo_exchange b_Mo_exchange 3 (some .int) ∈ WS := ws_tab (List.mem_of_getElem? (i := 712) rfl) rfl
theorem k_398 : Jvm.Cond.methodLink "NestedCoreModel" 191 y_Mo_pop ∈ WS := ws_tab (List.mem_of_getElem? (i := 733) (by decide +kernel)) (by decide +kernel)
theorem k_399 : Jvm.Cond.instanceMethod y_Mo_pop ∈ WS := ws_tab (List.mem_of_getElem? (i := 735) (by decide +kernel)) (by decide +kernel)
theorem k_400 : Jvm.Cond.selects "NestedCoreModel" y_Mo_pop y_Mo_pop ∈ WS := ws_sel (List.mem_of_getElem? (i := 47) (by decide +kernel)) (by decide +kernel)
set_option maxRecDepth 100000 in
theorem k_401 : Jvm.Cond.code y_Mo_pop b_Mo_pop 10 (some .int) ∈ WS := ws_tab (List.mem_of_getElem? (i := 736) rfl) rfl
theorem k_402 : Jvm.Cond.methodLink "NestedCoreModel" 194 y_Mo_conditional ∈ WS := ws_tab (List.mem_of_getElem? (i := 744) (by decide +kernel)) (by decide +kernel)
theorem k_403 : Jvm.Cond.instanceMethod y_Mo_conditional ∈ WS := ws_tab (List.mem_of_getElem? (i := 746) (by decide +kernel)) (by decide +kernel)
theorem k_404 : Jvm.Cond.selects "NestedCoreModel" y_Mo_conditional y_Mo_conditional ∈ WS := ws_sel (List.mem_of_getElem? (i := 49) (by decide +kernel)) (by decide +kernel)
set_option maxRecDepth 100000 in
theorem k_405 : Jvm.Cond.code y_Mo_conditional b_Mo_conditional 4 (some .int) ∈ WS := ws_tab (List.mem_of_getElem? (i := 747) rfl) rfl
theorem k_406 : Jvm.Cond.methodLink "NestedCoreModel" 197 y_Mo_plain ∈ WS := ws_tab (List.mem_of_getElem? (i := 752) (by decide +kernel)) (by decide +kernel)
theorem k_407 : Jvm.Cond.instanceMethod y_Mo_plain ∈ WS := ws_tab (List.mem_of_getElem? (i := 754) (by decide +kernel)) (by decide +kernel)
theorem k_408 : Jvm.Cond.selects "NestedCoreModel" y_Mo_plain y_Mo_plain ∈ WS := ws_sel (List.mem_of_getElem? (i := 51) (by decide +kernel)) (by decide +kernel)
set_option maxRecDepth 100000 in
theorem k_409 : Jvm.Cond.code y_Mo_plain b_Mo_plain 5 (some .int) ∈ WS := ws_tab (List.mem_of_getElem? (i := 755) rfl) rfl
theorem k_410 : Jvm.Cond.methodLink "NestedCoreModel" 200 y_Mo_does ∈ WS := ws_tab (List.mem_of_getElem? (i := 704) (by decide +kernel)) (by decide +kernel)
theorem k_411 : Jvm.Cond.instanceMethod y_Mo_does ∈ WS := ws_tab (List.mem_of_getElem? (i := 706) (by decide +kernel)) (by decide +kernel)
theorem k_412 : Jvm.Cond.selects "NestedCoreModel" y_Mo_does y_Mo_does ∈ WS := ws_sel (List.mem_of_getElem? (i := 40) (by decide +kernel)) (by decide +kernel)
set_option maxRecDepth 100000 in
theorem k_413 : Jvm.Cond.code y_Mo_does b_Mo_does 3 (some .int) ∈ WS := ws_tab (List.mem_of_getElem? (i := 707) rfl) rfl
theorem k_414 : Jvm.Cond.methodLink "NestedCoreModel" 209 y_Mo_take ∈ WS := ws_tab (List.mem_of_getElem? (i := 677) (by decide +kernel)) (by decide +kernel)
theorem k_415 : Jvm.Cond.instanceMethod y_Mo_take ∈ WS := ws_tab (List.mem_of_getElem? (i := 679) (by decide +kernel)) (by decide +kernel)
theorem k_416 : Jvm.Cond.selects "NestedCoreModel" y_Mo_take y_Mo_take ∈ WS := ws_sel (List.mem_of_getElem? (i := 35) (by decide +kernel)) (by decide +kernel)
set_option maxRecDepth 100000 in
theorem k_417 : Jvm.Cond.code y_Mo_take b_Mo_take 5 none ∈ WS := ws_tab (List.mem_of_getElem? (i := 680) rfl) rfl
theorem k_418 : Jvm.Cond.methodLink "NestedCoreModel" 212 y_Mo_fetched ∈ WS := ws_tab (List.mem_of_getElem? (i := 696) (by decide +kernel)) (by decide +kernel)
theorem k_419 : Jvm.Cond.instanceMethod y_Mo_fetched ∈ WS := ws_tab (List.mem_of_getElem? (i := 698) (by decide +kernel)) (by decide +kernel)
theorem k_420 : Jvm.Cond.selects "NestedCoreModel" y_Mo_fetched y_Mo_fetched ∈ WS := ws_sel (List.mem_of_getElem? (i := 38) (by decide +kernel)) (by decide +kernel)
set_option maxRecDepth 100000 in
theorem k_421 : Jvm.Cond.code y_Mo_fetched b_Mo_fetched 2 (some .int) ∈ WS := ws_tab (List.mem_of_getElem? (i := 699) rfl) rfl
theorem k_422 : Jvm.Cond.methodLink "NestedCoreModel" 215 y_Mo_fault ∈ WS := ws_tab (List.mem_of_getElem? (i := 798) (by decide +kernel)) (by decide +kernel)
theorem k_423 : Jvm.Cond.instanceMethod y_Mo_fault ∈ WS := ws_tab (List.mem_of_getElem? (i := 800) (by decide +kernel)) (by decide +kernel)
theorem k_424 : Jvm.Cond.selects "NestedCoreModel" y_Mo_fault y_Mo_fault ∈ WS := ws_sel (List.mem_of_getElem? (i := 61) (by decide +kernel)) (by decide +kernel)
set_option maxRecDepth 100000 in
theorem k_425 : Jvm.Cond.code y_Mo_fault b_Mo_fault 3 none ∈ WS := ws_tab (List.mem_of_getElem? (i := 801) rfl) rfl
theorem k_426 : Jvm.Cond.methodLink "NestedCoreModel" 218 y_Mo_fails ∈ WS := ws_tab (List.mem_of_getElem? (i := 621) (by decide +kernel)) (by decide +kernel)
theorem k_427 : Jvm.Cond.instanceMethod y_Mo_fails ∈ WS := ws_tab (List.mem_of_getElem? (i := 623) (by decide +kernel)) (by decide +kernel)
theorem k_428 : Jvm.Cond.selects "NestedCoreModel" y_Mo_fails y_Mo_fails ∈ WS := ws_sel (List.mem_of_getElem? (i := 28) (by decide +kernel)) (by decide +kernel)
set_option maxRecDepth 100000 in
theorem k_429 : Jvm.Cond.code y_Mo_fails b_Mo_fails 2 (some .boolean) ∈ WS := ws_tab (List.mem_of_getElem? (i := 624) rfl) rfl
theorem k_430 : Jvm.Cond.methodLink "NestedCoreModel" 222 y_Mo_step ∈ WS := ws_tab (List.mem_of_getElem? (i := 661) (by decide +kernel)) (by decide +kernel)
theorem k_431 : Jvm.Cond.instanceMethod y_Mo_step ∈ WS := ws_tab (List.mem_of_getElem? (i := 663) (by decide +kernel)) (by decide +kernel)
theorem k_432 : Jvm.Cond.selects "NestedCoreModel" y_Mo_step y_Mo_step ∈ WS := ws_sel (List.mem_of_getElem? (i := 31) (by decide +kernel)) (by decide +kernel)
set_option maxRecDepth 100000 in
theorem k_433 : Jvm.Cond.code y_Mo_step b_Mo_step 3 none ∈ WS := ws_tab (List.mem_of_getElem? (i := 664) rfl) rfl
theorem k_434 : Jvm.Cond.methodLink "NestedCoreModel" 49 y_Mo_barred ∈ WS := ws_tab (List.mem_of_getElem? (i := 700) (by decide +kernel)) (by decide +kernel)
theorem k_435 : Jvm.Cond.instanceMethod y_Mo_barred ∈ WS := ws_tab (List.mem_of_getElem? (i := 702) (by decide +kernel)) (by decide +kernel)
theorem k_436 : Jvm.Cond.selects "NestedCoreModel" y_Mo_barred y_Mo_barred ∈ WS := ws_sel (List.mem_of_getElem? (i := 39) (by decide +kernel)) (by decide +kernel)
set_option maxRecDepth 100000 in
theorem k_437 : Jvm.Cond.code y_Mo_barred b_Mo_barred 5 (some .boolean) ∈ WS := ws_tab (List.mem_of_getElem? (i := 703) rfl) rfl
theorem k_438 : Jvm.Cond.methodLink "NestedCoreModel" 56 y_Mo_group ∈ WS := ws_tab (List.mem_of_getElem? (i := 669) (by decide +kernel)) (by decide +kernel)
theorem k_439 : Jvm.Cond.instanceMethod y_Mo_group ∈ WS := ws_tab (List.mem_of_getElem? (i := 671) (by decide +kernel)) (by decide +kernel)
theorem k_440 : Jvm.Cond.selects "NestedCoreModel" y_Mo_group y_Mo_group ∈ WS := ws_sel (List.mem_of_getElem? (i := 33) (by decide +kernel)) (by decide +kernel)
set_option maxRecDepth 100000 in
theorem k_441 : Jvm.Cond.code y_Mo_group b_Mo_group 2 (some .int) ∈ WS := ws_tab (List.mem_of_getElem? (i := 672) rfl) rfl
theorem k_442 : Jvm.Cond.methodLink "NestedCoreModel" 70 y_Mo_level ∈ WS := ws_tab (List.mem_of_getElem? (i := 673) (by decide +kernel)) (by decide +kernel)
theorem k_443 : Jvm.Cond.instanceMethod y_Mo_level ∈ WS := ws_tab (List.mem_of_getElem? (i := 675) (by decide +kernel)) (by decide +kernel)
theorem k_444 : Jvm.Cond.selects "NestedCoreModel" y_Mo_level y_Mo_level ∈ WS := ws_sel (List.mem_of_getElem? (i := 34) (by decide +kernel)) (by decide +kernel)
set_option maxRecDepth 100000 in
theorem k_445 : Jvm.Cond.code y_Mo_level b_Mo_level 3 (some .int) ∈ WS := ws_tab (List.mem_of_getElem? (i := 676) rfl) rfl
theorem k_446 : Jvm.Cond.methodLink "NestedCoreModel" 77 y_Mo_load ∈ WS := ws_tab (List.mem_of_getElem? (i := 633) (by decide +kernel)) (by decide +kernel)
theorem k_447 : Jvm.Cond.instanceMethod y_Mo_load ∈ WS := ws_tab (List.mem_of_getElem? (i := 635) (by decide +kernel)) (by decide +kernel)
theorem k_448 : Jvm.Cond.selects "NestedCoreModel" y_Mo_load y_Mo_load ∈ WS := ws_sel (List.mem_of_getElem? (i := 30) (by decide +kernel)) (by decide +kernel)
set_option maxRecDepth 100000 in
theorem k_449 : Jvm.Cond.code y_Mo_load b_Mo_load 2 (some .int) ∈ WS := ws_tab (List.mem_of_getElem? (i := 636) rfl) rfl
theorem k_450 : Jvm.Cond.static ⟨"java/lang/Math", "min", "(II)I"⟩ ∈ WS := ws_tab (List.mem_of_getElem? (i := 341) (by decide +kernel)) (by decide +kernel)
theorem k_451 : Jvm.Cond.initialized "java/lang/Math" ∈ WS := ws_tab (List.mem_of_getElem? (i := 12) (by decide +kernel)) (by decide +kernel)
theorem k_452 : Jvm.Cond.static ⟨"java/lang/System", "arraycopy", "(Ljava/lang/Object;ILjava/lang/Object;II)V"⟩ ∈ WS := ws_tab (List.mem_of_getElem? (i := 362) (by decide +kernel)) (by decide +kernel)
theorem k_453 : Jvm.Cond.initialized "java/lang/System" ∈ WS := ws_tab (List.mem_of_getElem? (i := 13) (by decide +kernel)) (by decide +kernel)
theorem in_N : ∀ w ∈ u_ws "NestedCore" F_N 12, w ∈ WS := in_of (by decide +kernel)
theorem in_Me : ∀ w ∈ u_ws "NestedCore$Memory" F_Me 1, w ∈ WS := in_of (by decide +kernel)
theorem in_Ar : ∀ w ∈ u_ws "NestedCore$Areas" F_Ar 4, w ∈ WS := in_of (by decide +kernel)
theorem in_Ex : ∀ w ∈ u_ws "NestedCore$Exceptions" F_Ex 8, w ∈ WS := in_of (by decide +kernel)
theorem in_Fl : ∀ w ∈ u_ws "NestedCore$Flags" F_Fl 4, w ∈ WS := in_of (by decide +kernel)
theorem in_Ti : ∀ w ∈ u_ws "NestedCore$Ticker" F_Ti 2, w ∈ WS := in_of (by decide +kernel)
theorem in_Mo : ∀ w ∈ u_ws "NestedCoreModel" F_Mo 26, w ∈ WS := in_of (by decide +kernel)
section ROWS
variable {p : Program} {l : Launch} {e : Env} {R : Room} {s : State} {m : MethodId} {args : Array Value} {below : List Frame} {meth : Method} {c : Code} {H : Heap} {locs : List Loc} {cells slots : Nat} {Q : State → Prop}
variable {cc : ByteArray} {pc nL : Nat} {ls : Array Slot} {rest : List Value} {D : va_G} {cI cZ : ClassId} {A : Nat → Prop} {a : Nat → Nat} {σ : nS}
theorem g_Ar_15 (hx : p.tables.exec = Jvm.exec) (hb : c.code = cc) (hts : ∀ w ∈ WS, w.before args s = true) (hown : s.vm.findClass "NestedCore$Areas" = some m.cls) (hK : va_K D clS (tyS cI cZ) s) (hP : va_P D clS (wC cI cZ a σ) H) (hd : decode cc pc = .ok (.getfield 15, 3)) (kk : W p l e R s m args below meth c H locs cells slots Q (F0 m (pc + 3) ls (.ref (a 7) :: rest))) : W p l e R s m args below meth c H locs cells slots Q (F0 m pc ls (.ref (a 5) :: rest)) :=
  va_get (D := D) (ci := 2) (v := .ref (a 7)) (C := "NestedCore$Areas") (T := F_Ar) (N := 4) hx hb hts in_Ar hown hK hP 5 rfl rfl 1 (by decide) (hts _ k_19) (fun _ h => h) rfl hd kk
theorem g_Ar_18 (hx : p.tables.exec = Jvm.exec) (hb : c.code = cc) (hts : ∀ w ∈ WS, w.before args s = true) (hown : s.vm.findClass "NestedCore$Areas" = some m.cls) (hK : va_K D clS (tyS cI cZ) s) (hP : va_P D clS (wC cI cZ a σ) H) (hd : decode cc pc = .ok (.getfield 18, 3)) (kk : W p l e R s m args below meth c H locs cells slots Q (F0 m (pc + 3) ls (.ref (a 8) :: rest))) : W p l e R s m args below meth c H locs cells slots Q (F0 m pc ls (.ref (a 5) :: rest)) :=
  va_get (D := D) (ci := 2) (v := .ref (a 8)) (C := "NestedCore$Areas") (T := F_Ar) (N := 4) hx hb hts in_Ar hown hK hP 5 rfl rfl 2 (by decide) (hts _ k_20) (fun _ h => h) rfl hd kk
theorem g_Ar_21 (hx : p.tables.exec = Jvm.exec) (hb : c.code = cc) (hts : ∀ w ∈ WS, w.before args s = true) (hown : s.vm.findClass "NestedCore$Areas" = some m.cls) (hK : va_K D clS (tyS cI cZ) s) (hP : va_P D clS (wC cI cZ a σ) H) (hd : decode cc pc = .ok (.getfield 21, 3)) (kk : W p l e R s m args below meth c H locs cells slots Q (F0 m (pc + 3) ls (.ref (a 9) :: rest))) : W p l e R s m args below meth c H locs cells slots Q (F0 m pc ls (.ref (a 5) :: rest)) :=
  va_get (D := D) (ci := 2) (v := .ref (a 9)) (C := "NestedCore$Areas") (T := F_Ar) (N := 4) hx hb hts in_Ar hown hK hP 5 rfl rfl 3 (by decide) (hts _ k_21) (fun _ h => h) rfl hd kk
theorem g_Ar_9 (hx : p.tables.exec = Jvm.exec) (hb : c.code = cc) (hts : ∀ w ∈ WS, w.before args s = true) (hown : s.vm.findClass "NestedCore$Areas" = some m.cls) (hK : va_K D clS (tyS cI cZ) s) (hP : va_P D clS (wC cI cZ a σ) H) (hd : decode cc pc = .ok (.getfield 9, 3)) (kk : W p l e R s m args below meth c H locs cells slots Q (F0 m (pc + 3) ls (.ref (a 6) :: rest))) : W p l e R s m args below meth c H locs cells slots Q (F0 m pc ls (.ref (a 5) :: rest)) :=
  va_get (D := D) (ci := 2) (v := .ref (a 6)) (C := "NestedCore$Areas") (T := F_Ar) (N := 4) hx hb hts in_Ar hown hK hP 5 rfl rfl 0 (by decide) (hts _ k_22) (fun _ h => h) rfl hd kk
theorem g_Ex_15 (hx : p.tables.exec = Jvm.exec) (hb : c.code = cc) (hts : ∀ w ∈ WS, w.before args s = true) (hown : s.vm.findClass "NestedCore$Exceptions" = some m.cls) (hK : va_K D clS (tyS cI cZ) s) (hP : va_P D clS (wC cI cZ a σ) H) (hd : decode cc pc = .ok (.getfield 15, 3)) (kk : W p l e R s m args below meth c H locs cells slots Q (F0 m (pc + 3) ls (.ref (a 12) :: rest))) : W p l e R s m args below meth c H locs cells slots Q (F0 m pc ls (.ref (a 10) :: rest)) :=
  va_get (D := D) (ci := 3) (v := .ref (a 12)) (C := "NestedCore$Exceptions") (T := F_Ex) (N := 8) hx hb hts in_Ex hown hK hP 10 rfl rfl 1 (by decide) (hts _ k_23) (fun _ h => h) rfl hd kk
theorem g_Ex_18 (hx : p.tables.exec = Jvm.exec) (hb : c.code = cc) (hts : ∀ w ∈ WS, w.before args s = true) (hown : s.vm.findClass "NestedCore$Exceptions" = some m.cls) (hK : va_K D clS (tyS cI cZ) s) (hP : va_P D clS (wC cI cZ a σ) H) (hd : decode cc pc = .ok (.getfield 18, 3)) (kk : W p l e R s m args below meth c H locs cells slots Q (F0 m (pc + 3) ls (.ref (a 13) :: rest))) : W p l e R s m args below meth c H locs cells slots Q (F0 m pc ls (.ref (a 10) :: rest)) :=
  va_get (D := D) (ci := 3) (v := .ref (a 13)) (C := "NestedCore$Exceptions") (T := F_Ex) (N := 8) hx hb hts in_Ex hown hK hP 10 rfl rfl 2 (by decide) (hts _ k_24) (fun _ h => h) rfl hd kk
theorem g_Ex_21 (hx : p.tables.exec = Jvm.exec) (hb : c.code = cc) (hts : ∀ w ∈ WS, w.before args s = true) (hown : s.vm.findClass "NestedCore$Exceptions" = some m.cls) (hK : va_K D clS (tyS cI cZ) s) (hP : va_P D clS (wC cI cZ a σ) H) (hd : decode cc pc = .ok (.getfield 21, 3)) (kk : W p l e R s m args below meth c H locs cells slots Q (F0 m (pc + 3) ls (.ref (a 14) :: rest))) : W p l e R s m args below meth c H locs cells slots Q (F0 m pc ls (.ref (a 10) :: rest)) :=
  va_get (D := D) (ci := 3) (v := .ref (a 14)) (C := "NestedCore$Exceptions") (T := F_Ex) (N := 8) hx hb hts in_Ex hown hK hP 10 rfl rfl 3 (by decide) (hts _ k_25) (fun _ h => h) rfl hd kk
theorem g_Ex_25 (hx : p.tables.exec = Jvm.exec) (hb : c.code = cc) (hts : ∀ w ∈ WS, w.before args s = true) (hown : s.vm.findClass "NestedCore$Exceptions" = some m.cls) (hK : va_K D clS (tyS cI cZ) s) (hP : va_P D clS (wC cI cZ a σ) H) (hd : decode cc pc = .ok (.getfield 25, 3)) (kk : W p l e R s m args below meth c H locs cells slots Q (F0 m (pc + 3) ls (.int (σ 8 0) :: rest))) : W p l e R s m args below meth c H locs cells slots Q (F0 m pc ls (.ref (a 10) :: rest)) :=
  va_get (D := D) (ci := 3) (v := .int (σ 8 0)) (C := "NestedCore$Exceptions") (T := F_Ex) (N := 8) hx hb hts in_Ex hown hK hP 10 rfl rfl 4 (by decide) (hts _ k_26) (fun _ h => h) rfl hd kk
theorem g_Ex_39 (hx : p.tables.exec = Jvm.exec) (hb : c.code = cc) (hts : ∀ w ∈ WS, w.before args s = true) (hown : s.vm.findClass "NestedCore$Exceptions" = some m.cls) (hK : va_K D clS (tyS cI cZ) s) (hP : va_P D clS (wC cI cZ a σ) H) (hd : decode cc pc = .ok (.getfield 39, 3)) (kk : W p l e R s m args below meth c H locs cells slots Q (F0 m (pc + 3) ls (.int (σ 8 1) :: rest))) : W p l e R s m args below meth c H locs cells slots Q (F0 m pc ls (.ref (a 10) :: rest)) :=
  va_get (D := D) (ci := 3) (v := .int (σ 8 1)) (C := "NestedCore$Exceptions") (T := F_Ex) (N := 8) hx hb hts in_Ex hown hK hP 10 rfl rfl 5 (by decide) (hts _ k_27) (fun _ h => h) rfl hd kk
theorem g_Ex_42 (hx : p.tables.exec = Jvm.exec) (hb : c.code = cc) (hts : ∀ w ∈ WS, w.before args s = true) (hown : s.vm.findClass "NestedCore$Exceptions" = some m.cls) (hK : va_K D clS (tyS cI cZ) s) (hP : va_P D clS (wC cI cZ a σ) H) (hd : decode cc pc = .ok (.getfield 42, 3)) (kk : W p l e R s m args below meth c H locs cells slots Q (F0 m (pc + 3) ls (.int (σ 8 2) :: rest))) : W p l e R s m args below meth c H locs cells slots Q (F0 m pc ls (.ref (a 10) :: rest)) :=
  va_get (D := D) (ci := 3) (v := .int (σ 8 2)) (C := "NestedCore$Exceptions") (T := F_Ex) (N := 8) hx hb hts in_Ex hown hK hP 10 rfl rfl 6 (by decide) (hts _ k_28) (fun _ h => h) rfl hd kk
theorem g_Ex_46 (hx : p.tables.exec = Jvm.exec) (hb : c.code = cc) (hts : ∀ w ∈ WS, w.before args s = true) (hown : s.vm.findClass "NestedCore$Exceptions" = some m.cls) (hK : va_K D clS (tyS cI cZ) s) (hP : va_P D clS (wC cI cZ a σ) H) (hd : decode cc pc = .ok (.getfield 46, 3)) (kk : W p l e R s m args below meth c H locs cells slots Q (F0 m (pc + 3) ls (.int (σ 8 3) :: rest))) : W p l e R s m args below meth c H locs cells slots Q (F0 m pc ls (.ref (a 10) :: rest)) :=
  va_get (D := D) (ci := 3) (v := .int (σ 8 3)) (C := "NestedCore$Exceptions") (T := F_Ex) (N := 8) hx hb hts in_Ex hown hK hP 10 rfl rfl 7 (by decide) (hts _ k_29) (fun _ h => h) rfl hd kk
theorem g_Ex_9 (hx : p.tables.exec = Jvm.exec) (hb : c.code = cc) (hts : ∀ w ∈ WS, w.before args s = true) (hown : s.vm.findClass "NestedCore$Exceptions" = some m.cls) (hK : va_K D clS (tyS cI cZ) s) (hP : va_P D clS (wC cI cZ a σ) H) (hd : decode cc pc = .ok (.getfield 9, 3)) (kk : W p l e R s m args below meth c H locs cells slots Q (F0 m (pc + 3) ls (.ref (a 11) :: rest))) : W p l e R s m args below meth c H locs cells slots Q (F0 m pc ls (.ref (a 10) :: rest)) :=
  va_get (D := D) (ci := 3) (v := .ref (a 11)) (C := "NestedCore$Exceptions") (T := F_Ex) (N := 8) hx hb hts in_Ex hown hK hP 10 rfl rfl 0 (by decide) (hts _ k_30) (fun _ h => h) rfl hd kk
theorem g_Fl_13 (hx : p.tables.exec = Jvm.exec) (hb : c.code = cc) (hts : ∀ w ∈ WS, w.before args s = true) (hown : s.vm.findClass "NestedCore$Flags" = some m.cls) (hK : va_K D clS (tyS cI cZ) s) (hP : va_P D clS (wC cI cZ a σ) H) (hd : decode cc pc = .ok (.getfield 13, 3)) (kk : W p l e R s m args below meth c H locs cells slots Q (F0 m (pc + 3) ls (.int (σ 8 5) :: rest))) : W p l e R s m args below meth c H locs cells slots Q (F0 m pc ls (.ref (a 15) :: rest)) :=
  va_get (D := D) (ci := 4) (v := .int (σ 8 5)) (C := "NestedCore$Flags") (T := F_Fl) (N := 4) hx hb hts in_Fl hown hK hP 15 rfl rfl 1 (by decide) (hts _ k_31) (fun _ h => h) rfl hd kk
theorem g_Fl_16 (hx : p.tables.exec = Jvm.exec) (hb : c.code = cc) (hts : ∀ w ∈ WS, w.before args s = true) (hown : s.vm.findClass "NestedCore$Flags" = some m.cls) (hK : va_K D clS (tyS cI cZ) s) (hP : va_P D clS (wC cI cZ a σ) H) (hd : decode cc pc = .ok (.getfield 16, 3)) (kk : W p l e R s m args below meth c H locs cells slots Q (F0 m (pc + 3) ls (.int (σ 8 6) :: rest))) : W p l e R s m args below meth c H locs cells slots Q (F0 m pc ls (.ref (a 15) :: rest)) :=
  va_get (D := D) (ci := 4) (v := .int (σ 8 6)) (C := "NestedCore$Flags") (T := F_Fl) (N := 4) hx hb hts in_Fl hown hK hP 15 rfl rfl 2 (by decide) (hts _ k_32) (fun _ h => h) rfl hd kk
theorem g_Fl_21 (hx : p.tables.exec = Jvm.exec) (hb : c.code = cc) (hts : ∀ w ∈ WS, w.before args s = true) (hown : s.vm.findClass "NestedCore$Flags" = some m.cls) (hK : va_K D clS (tyS cI cZ) s) (hP : va_P D clS (wC cI cZ a σ) H) (hd : decode cc pc = .ok (.getfield 21, 3)) (kk : W p l e R s m args below meth c H locs cells slots Q (F0 m (pc + 3) ls (.int (σ 8 7) :: rest))) : W p l e R s m args below meth c H locs cells slots Q (F0 m pc ls (.ref (a 15) :: rest)) :=
  va_get (D := D) (ci := 4) (v := .int (σ 8 7)) (C := "NestedCore$Flags") (T := F_Fl) (N := 4) hx hb hts in_Fl hown hK hP 15 rfl rfl 3 (by decide) (hts _ k_33) (fun _ h => h) rfl hd kk
theorem g_Fl_7 (hx : p.tables.exec = Jvm.exec) (hb : c.code = cc) (hts : ∀ w ∈ WS, w.before args s = true) (hown : s.vm.findClass "NestedCore$Flags" = some m.cls) (hK : va_K D clS (tyS cI cZ) s) (hP : va_P D clS (wC cI cZ a σ) H) (hd : decode cc pc = .ok (.getfield 7, 3)) (kk : W p l e R s m args below meth c H locs cells slots Q (F0 m (pc + 3) ls (.int (σ 8 4) :: rest))) : W p l e R s m args below meth c H locs cells slots Q (F0 m pc ls (.ref (a 15) :: rest)) :=
  va_get (D := D) (ci := 4) (v := .int (σ 8 4)) (C := "NestedCore$Flags") (T := F_Fl) (N := 4) hx hb hts in_Fl hown hK hP 15 rfl rfl 0 (by decide) (hts _ k_34) (fun _ h => h) rfl hd kk
theorem g_Me_9 (hx : p.tables.exec = Jvm.exec) (hb : c.code = cc) (hts : ∀ w ∈ WS, w.before args s = true) (hown : s.vm.findClass "NestedCore$Memory" = some m.cls) (hK : va_K D clS (tyS cI cZ) s) (hP : va_P D clS (wC cI cZ a σ) H) (hd : decode cc pc = .ok (.getfield 9, 3)) (kk : W p l e R s m args below meth c H locs cells slots Q (F0 m (pc + 3) ls (.ref (a 4) :: rest))) : W p l e R s m args below meth c H locs cells slots Q (F0 m pc ls (.ref (a 3) :: rest)) :=
  va_get (D := D) (ci := 1) (v := .ref (a 4)) (C := "NestedCore$Memory") (T := F_Me) (N := 1) hx hb hts in_Me hown hK hP 3 rfl rfl 0 (by decide) (hts _ k_35) (fun _ h => h) rfl hd kk
theorem g_Ti_13 (hx : p.tables.exec = Jvm.exec) (hb : c.code = cc) (hts : ∀ w ∈ WS, w.before args s = true) (hown : s.vm.findClass "NestedCore$Ticker" = some m.cls) (hK : va_K D clS (tyS cI cZ) s) (hP : va_P D clS (wC cI cZ a σ) H) (hd : decode cc pc = .ok (.getfield 13, 3)) (kk : W p l e R s m args below meth c H locs cells slots Q (F0 m (pc + 3) ls (.int (σ 8 9) :: rest))) : W p l e R s m args below meth c H locs cells slots Q (F0 m pc ls (.ref (a 16) :: rest)) :=
  va_get (D := D) (ci := 5) (v := .int (σ 8 9)) (C := "NestedCore$Ticker") (T := F_Ti) (N := 2) hx hb hts in_Ti hown hK hP 16 rfl rfl 1 (by decide) (hts _ k_36) (fun _ h => h) rfl hd kk
theorem g_Ti_7 (hx : p.tables.exec = Jvm.exec) (hb : c.code = cc) (hts : ∀ w ∈ WS, w.before args s = true) (hown : s.vm.findClass "NestedCore$Ticker" = some m.cls) (hK : va_K D clS (tyS cI cZ) s) (hP : va_P D clS (wC cI cZ a σ) H) (hd : decode cc pc = .ok (.getfield 7, 3)) (kk : W p l e R s m args below meth c H locs cells slots Q (F0 m (pc + 3) ls (.int (σ 8 8) :: rest))) : W p l e R s m args below meth c H locs cells slots Q (F0 m pc ls (.ref (a 16) :: rest)) :=
  va_get (D := D) (ci := 5) (v := .int (σ 8 8)) (C := "NestedCore$Ticker") (T := F_Ti) (N := 2) hx hb hts in_Ti hown hK hP 16 rfl rfl 0 (by decide) (hts _ k_37) (fun _ h => h) rfl hd kk
theorem g_N_104 (hx : p.tables.exec = Jvm.exec) (hb : c.code = cc) (hts : ∀ w ∈ WS, w.before args s = true) (hown : s.vm.findClass "NestedCore" = some m.cls) (hK : va_K D clS (tyS cI cZ) s) (hP : va_P D clS (wC cI cZ a σ) H) (hd : decode cc pc = .ok (.getfield 104, 3)) (kk : W p l e R s m args below meth c H locs cells slots Q (F0 m (pc + 3) ls (.ref (a 12) :: rest))) : W p l e R s m args below meth c H locs cells slots Q (F0 m pc ls (.ref (a 10) :: rest)) :=
  va_get (D := D) (ci := 3) (v := .ref (a 12)) (C := "NestedCore$Exceptions") (T := F_Ex) (N := 8) hx hb hts in_Ex hown hK hP 10 rfl rfl 1 (by decide) (hts _ k_38) (fun _ h => h) rfl hd kk
theorem g_N_118 (hx : p.tables.exec = Jvm.exec) (hb : c.code = cc) (hts : ∀ w ∈ WS, w.before args s = true) (hown : s.vm.findClass "NestedCore" = some m.cls) (hK : va_K D clS (tyS cI cZ) s) (hP : va_P D clS (wC cI cZ a σ) H) (hd : decode cc pc = .ok (.getfield 118, 3)) (kk : W p l e R s m args below meth c H locs cells slots Q (F0 m (pc + 3) ls (.int (σ 8 11) :: rest))) : W p l e R s m args below meth c H locs cells slots Q (F0 m pc ls (.ref (a 0) :: rest)) :=
  va_get (D := D) (ci := 0) (v := .int (σ 8 11)) (C := "NestedCore") (T := F_N) (N := 12) hx hb hts in_N hown hK hP 0 rfl rfl 8 (by decide) (hts _ k_39) (fun _ h => h) rfl hd kk
theorem g_N_128 (hx : p.tables.exec = Jvm.exec) (hb : c.code = cc) (hts : ∀ w ∈ WS, w.before args s = true) (hown : s.vm.findClass "NestedCore" = some m.cls) (hK : va_K D clS (tyS cI cZ) s) (hP : va_P D clS (wC cI cZ a σ) H) (hd : decode cc pc = .ok (.getfield 128, 3)) (kk : W p l e R s m args below meth c H locs cells slots Q (F0 m (pc + 3) ls (.int (σ 8 10) :: rest))) : W p l e R s m args below meth c H locs cells slots Q (F0 m pc ls (.ref (a 0) :: rest)) :=
  va_get (D := D) (ci := 0) (v := .int (σ 8 10)) (C := "NestedCore") (T := F_N) (N := 12) hx hb hts in_N hown hK hP 0 rfl rfl 7 (by decide) (hts _ k_40) (fun _ h => h) rfl hd kk
theorem g_N_13 (hx : p.tables.exec = Jvm.exec) (hb : c.code = cc) (hts : ∀ w ∈ WS, w.before args s = true) (hown : s.vm.findClass "NestedCore" = some m.cls) (hK : va_K D clS (tyS cI cZ) s) (hP : va_P D clS (wC cI cZ a σ) H) (hd : decode cc pc = .ok (.getfield 13, 3)) (kk : W p l e R s m args below meth c H locs cells slots Q (F0 m (pc + 3) ls (.ref (a 2) :: rest))) : W p l e R s m args below meth c H locs cells slots Q (F0 m pc ls (.ref (a 0) :: rest)) :=
  va_get (D := D) (ci := 0) (v := .ref (a 2)) (C := "NestedCore") (T := F_N) (N := 12) hx hb hts in_N hown hK hP 0 rfl rfl 1 (by decide) (hts _ k_41) (fun _ h => h) rfl hd kk
theorem g_N_137 (hx : p.tables.exec = Jvm.exec) (hb : c.code = cc) (hts : ∀ w ∈ WS, w.before args s = true) (hown : s.vm.findClass "NestedCore" = some m.cls) (hK : va_K D clS (tyS cI cZ) s) (hP : va_P D clS (wC cI cZ a σ) H) (hd : decode cc pc = .ok (.getfield 137, 3)) (kk : W p l e R s m args below meth c H locs cells slots Q (F0 m (pc + 3) ls (.int (σ 8 12) :: rest))) : W p l e R s m args below meth c H locs cells slots Q (F0 m pc ls (.ref (a 0) :: rest)) :=
  va_get (D := D) (ci := 0) (v := .int (σ 8 12)) (C := "NestedCore") (T := F_N) (N := 12) hx hb hts in_N hown hK hP 0 rfl rfl 9 (by decide) (hts _ k_42) (fun _ h => h) rfl hd kk
theorem g_N_140 (hx : p.tables.exec = Jvm.exec) (hb : c.code = cc) (hts : ∀ w ∈ WS, w.before args s = true) (hown : s.vm.findClass "NestedCore" = some m.cls) (hK : va_K D clS (tyS cI cZ) s) (hP : va_P D clS (wC cI cZ a σ) H) (hd : decode cc pc = .ok (.getfield 140, 3)) (kk : W p l e R s m args below meth c H locs cells slots Q (F0 m (pc + 3) ls (.int (σ 8 13) :: rest))) : W p l e R s m args below meth c H locs cells slots Q (F0 m pc ls (.ref (a 0) :: rest)) :=
  va_get (D := D) (ci := 0) (v := .int (σ 8 13)) (C := "NestedCore") (T := F_N) (N := 12) hx hb hts in_N hown hK hP 0 rfl rfl 10 (by decide) (hts _ k_43) (fun _ h => h) rfl hd kk
theorem g_N_143 (hx : p.tables.exec = Jvm.exec) (hb : c.code = cc) (hts : ∀ w ∈ WS, w.before args s = true) (hown : s.vm.findClass "NestedCore" = some m.cls) (hK : va_K D clS (tyS cI cZ) s) (hP : va_P D clS (wC cI cZ a σ) H) (hd : decode cc pc = .ok (.getfield 143, 3)) (kk : W p l e R s m args below meth c H locs cells slots Q (F0 m (pc + 3) ls (.int (σ 8 14) :: rest))) : W p l e R s m args below meth c H locs cells slots Q (F0 m pc ls (.ref (a 0) :: rest)) :=
  va_get (D := D) (ci := 0) (v := .int (σ 8 14)) (C := "NestedCore") (T := F_N) (N := 12) hx hb hts in_N hown hK hP 0 rfl rfl 11 (by decide) (hts _ k_44) (fun _ h => h) rfl hd kk
theorem g_N_146 (hx : p.tables.exec = Jvm.exec) (hb : c.code = cc) (hts : ∀ w ∈ WS, w.before args s = true) (hown : s.vm.findClass "NestedCore" = some m.cls) (hK : va_K D clS (tyS cI cZ) s) (hP : va_P D clS (wC cI cZ a σ) H) (hd : decode cc pc = .ok (.getfield 146, 3)) (kk : W p l e R s m args below meth c H locs cells slots Q (F0 m (pc + 3) ls (.int (σ 8 9) :: rest))) : W p l e R s m args below meth c H locs cells slots Q (F0 m pc ls (.ref (a 16) :: rest)) :=
  va_get (D := D) (ci := 5) (v := .int (σ 8 9)) (C := "NestedCore$Ticker") (T := F_Ti) (N := 2) hx hb hts in_Ti hown hK hP 16 rfl rfl 1 (by decide) (hts _ k_45) (fun _ h => h) rfl hd kk
theorem g_N_19 (hx : p.tables.exec = Jvm.exec) (hb : c.code = cc) (hts : ∀ w ∈ WS, w.before args s = true) (hown : s.vm.findClass "NestedCore" = some m.cls) (hK : va_K D clS (tyS cI cZ) s) (hP : va_P D clS (wC cI cZ a σ) H) (hd : decode cc pc = .ok (.getfield 19, 3)) (kk : W p l e R s m args below meth c H locs cells slots Q (F0 m (pc + 3) ls (.ref (a 3) :: rest))) : W p l e R s m args below meth c H locs cells slots Q (F0 m pc ls (.ref (a 0) :: rest)) :=
  va_get (D := D) (ci := 0) (v := .ref (a 3)) (C := "NestedCore") (T := F_N) (N := 12) hx hb hts in_N hown hK hP 0 rfl rfl 2 (by decide) (hts _ k_46) (fun _ h => h) rfl hd kk
theorem g_N_190 (hx : p.tables.exec = Jvm.exec) (hb : c.code = cc) (hts : ∀ w ∈ WS, w.before args s = true) (hown : s.vm.findClass "NestedCore" = some m.cls) (hK : va_K D clS (tyS cI cZ) s) (hP : va_P D clS (wC cI cZ a σ) H) (hd : decode cc pc = .ok (.getfield 190, 3)) (kk : W p l e R s m args below meth c H locs cells slots Q (F0 m (pc + 3) ls (.ref (a 13) :: rest))) : W p l e R s m args below meth c H locs cells slots Q (F0 m pc ls (.ref (a 10) :: rest)) :=
  va_get (D := D) (ci := 3) (v := .ref (a 13)) (C := "NestedCore$Exceptions") (T := F_Ex) (N := 8) hx hb hts in_Ex hown hK hP 10 rfl rfl 2 (by decide) (hts _ k_47) (fun _ h => h) rfl hd kk
theorem g_N_193 (hx : p.tables.exec = Jvm.exec) (hb : c.code = cc) (hts : ∀ w ∈ WS, w.before args s = true) (hown : s.vm.findClass "NestedCore" = some m.cls) (hK : va_K D clS (tyS cI cZ) s) (hP : va_P D clS (wC cI cZ a σ) H) (hd : decode cc pc = .ok (.getfield 193, 3)) (kk : W p l e R s m args below meth c H locs cells slots Q (F0 m (pc + 3) ls (.ref (a 11) :: rest))) : W p l e R s m args below meth c H locs cells slots Q (F0 m pc ls (.ref (a 10) :: rest)) :=
  va_get (D := D) (ci := 3) (v := .ref (a 11)) (C := "NestedCore$Exceptions") (T := F_Ex) (N := 8) hx hb hts in_Ex hown hK hP 10 rfl rfl 0 (by decide) (hts _ k_48) (fun _ h => h) rfl hd kk
theorem g_N_26 (hx : p.tables.exec = Jvm.exec) (hb : c.code = cc) (hts : ∀ w ∈ WS, w.before args s = true) (hown : s.vm.findClass "NestedCore" = some m.cls) (hK : va_K D clS (tyS cI cZ) s) (hP : va_P D clS (wC cI cZ a σ) H) (hd : decode cc pc = .ok (.getfield 26, 3)) (kk : W p l e R s m args below meth c H locs cells slots Q (F0 m (pc + 3) ls (.ref (a 5) :: rest))) : W p l e R s m args below meth c H locs cells slots Q (F0 m pc ls (.ref (a 0) :: rest)) :=
  va_get (D := D) (ci := 0) (v := .ref (a 5)) (C := "NestedCore") (T := F_N) (N := 12) hx hb hts in_N hown hK hP 0 rfl rfl 3 (by decide) (hts _ k_49) (fun _ h => h) rfl hd kk
theorem g_N_33 (hx : p.tables.exec = Jvm.exec) (hb : c.code = cc) (hts : ∀ w ∈ WS, w.before args s = true) (hown : s.vm.findClass "NestedCore" = some m.cls) (hK : va_K D clS (tyS cI cZ) s) (hP : va_P D clS (wC cI cZ a σ) H) (hd : decode cc pc = .ok (.getfield 33, 3)) (kk : W p l e R s m args below meth c H locs cells slots Q (F0 m (pc + 3) ls (.ref (a 10) :: rest))) : W p l e R s m args below meth c H locs cells slots Q (F0 m pc ls (.ref (a 0) :: rest)) :=
  va_get (D := D) (ci := 0) (v := .ref (a 10)) (C := "NestedCore") (T := F_N) (N := 12) hx hb hts in_N hown hK hP 0 rfl rfl 4 (by decide) (hts _ k_50) (fun _ h => h) rfl hd kk
theorem g_N_40 (hx : p.tables.exec = Jvm.exec) (hb : c.code = cc) (hts : ∀ w ∈ WS, w.before args s = true) (hown : s.vm.findClass "NestedCore" = some m.cls) (hK : va_K D clS (tyS cI cZ) s) (hP : va_P D clS (wC cI cZ a σ) H) (hd : decode cc pc = .ok (.getfield 40, 3)) (kk : W p l e R s m args below meth c H locs cells slots Q (F0 m (pc + 3) ls (.ref (a 15) :: rest))) : W p l e R s m args below meth c H locs cells slots Q (F0 m pc ls (.ref (a 0) :: rest)) :=
  va_get (D := D) (ci := 0) (v := .ref (a 15)) (C := "NestedCore") (T := F_N) (N := 12) hx hb hts in_N hown hK hP 0 rfl rfl 5 (by decide) (hts _ k_51) (fun _ h => h) rfl hd kk
theorem g_N_47 (hx : p.tables.exec = Jvm.exec) (hb : c.code = cc) (hts : ∀ w ∈ WS, w.before args s = true) (hown : s.vm.findClass "NestedCore" = some m.cls) (hK : va_K D clS (tyS cI cZ) s) (hP : va_P D clS (wC cI cZ a σ) H) (hd : decode cc pc = .ok (.getfield 47, 3)) (kk : W p l e R s m args below meth c H locs cells slots Q (F0 m (pc + 3) ls (.ref (a 16) :: rest))) : W p l e R s m args below meth c H locs cells slots Q (F0 m pc ls (.ref (a 0) :: rest)) :=
  va_get (D := D) (ci := 0) (v := .ref (a 16)) (C := "NestedCore") (T := F_N) (N := 12) hx hb hts in_N hown hK hP 0 rfl rfl 6 (by decide) (hts _ k_52) (fun _ h => h) rfl hd kk
theorem g_N_75 (hx : p.tables.exec = Jvm.exec) (hb : c.code = cc) (hts : ∀ w ∈ WS, w.before args s = true) (hown : s.vm.findClass "NestedCore" = some m.cls) (hK : va_K D clS (tyS cI cZ) s) (hP : va_P D clS (wC cI cZ a σ) H) (hd : decode cc pc = .ok (.getfield 75, 3)) (kk : W p l e R s m args below meth c H locs cells slots Q (F0 m (pc + 3) ls (.int (σ 8 2) :: rest))) : W p l e R s m args below meth c H locs cells slots Q (F0 m pc ls (.ref (a 10) :: rest)) :=
  va_get (D := D) (ci := 3) (v := .int (σ 8 2)) (C := "NestedCore$Exceptions") (T := F_Ex) (N := 8) hx hb hts in_Ex hown hK hP 10 rfl rfl 6 (by decide) (hts _ k_53) (fun _ h => h) rfl hd kk
theorem g_N_79 (hx : p.tables.exec = Jvm.exec) (hb : c.code = cc) (hts : ∀ w ∈ WS, w.before args s = true) (hown : s.vm.findClass "NestedCore" = some m.cls) (hK : va_K D clS (tyS cI cZ) s) (hP : va_P D clS (wC cI cZ a σ) H) (hd : decode cc pc = .ok (.getfield 79, 3)) (kk : W p l e R s m args below meth c H locs cells slots Q (F0 m (pc + 3) ls (.int (σ 8 3) :: rest))) : W p l e R s m args below meth c H locs cells slots Q (F0 m pc ls (.ref (a 10) :: rest)) :=
  va_get (D := D) (ci := 3) (v := .int (σ 8 3)) (C := "NestedCore$Exceptions") (T := F_Ex) (N := 8) hx hb hts in_Ex hown hK hP 10 rfl rfl 7 (by decide) (hts _ k_54) (fun _ h => h) rfl hd kk
theorem g_N_82 (hx : p.tables.exec = Jvm.exec) (hb : c.code = cc) (hts : ∀ w ∈ WS, w.before args s = true) (hown : s.vm.findClass "NestedCore" = some m.cls) (hK : va_K D clS (tyS cI cZ) s) (hP : va_P D clS (wC cI cZ a σ) H) (hd : decode cc pc = .ok (.getfield 82, 3)) (kk : W p l e R s m args below meth c H locs cells slots Q (F0 m (pc + 3) ls (.int (σ 8 1) :: rest))) : W p l e R s m args below meth c H locs cells slots Q (F0 m pc ls (.ref (a 10) :: rest)) :=
  va_get (D := D) (ci := 3) (v := .int (σ 8 1)) (C := "NestedCore$Exceptions") (T := F_Ex) (N := 8) hx hb hts in_Ex hown hK hP 10 rfl rfl 5 (by decide) (hts _ k_55) (fun _ h => h) rfl hd kk
theorem g_N_86 (hx : p.tables.exec = Jvm.exec) (hb : c.code = cc) (hts : ∀ w ∈ WS, w.before args s = true) (hown : s.vm.findClass "NestedCore" = some m.cls) (hK : va_K D clS (tyS cI cZ) s) (hP : va_P D clS (wC cI cZ a σ) H) (hd : decode cc pc = .ok (.getfield 86, 3)) (kk : W p l e R s m args below meth c H locs cells slots Q (F0 m (pc + 3) ls (.int (σ 8 0) :: rest))) : W p l e R s m args below meth c H locs cells slots Q (F0 m pc ls (.ref (a 10) :: rest)) :=
  va_get (D := D) (ci := 3) (v := .int (σ 8 0)) (C := "NestedCore$Exceptions") (T := F_Ex) (N := 8) hx hb hts in_Ex hown hK hP 10 rfl rfl 4 (by decide) (hts _ k_56) (fun _ h => h) rfl hd kk
theorem g_N_9 (hx : p.tables.exec = Jvm.exec) (hb : c.code = cc) (hts : ∀ w ∈ WS, w.before args s = true) (hown : s.vm.findClass "NestedCore" = some m.cls) (hK : va_K D clS (tyS cI cZ) s) (hP : va_P D clS (wC cI cZ a σ) H) (hd : decode cc pc = .ok (.getfield 9, 3)) (kk : W p l e R s m args below meth c H locs cells slots Q (F0 m (pc + 3) ls (.ref (a 1) :: rest))) : W p l e R s m args below meth c H locs cells slots Q (F0 m pc ls (.ref (a 0) :: rest)) :=
  va_get (D := D) (ci := 0) (v := .ref (a 1)) (C := "NestedCore") (T := F_N) (N := 12) hx hb hts in_N hown hK hP 0 rfl rfl 0 (by decide) (hts _ k_57) (fun _ h => h) rfl hd kk
theorem g_N_93 (hx : p.tables.exec = Jvm.exec) (hb : c.code = cc) (hts : ∀ w ∈ WS, w.before args s = true) (hown : s.vm.findClass "NestedCore" = some m.cls) (hK : va_K D clS (tyS cI cZ) s) (hP : va_P D clS (wC cI cZ a σ) H) (hd : decode cc pc = .ok (.getfield 93, 3)) (kk : W p l e R s m args below meth c H locs cells slots Q (F0 m (pc + 3) ls (.int (σ 8 8) :: rest))) : W p l e R s m args below meth c H locs cells slots Q (F0 m pc ls (.ref (a 16) :: rest)) :=
  va_get (D := D) (ci := 5) (v := .int (σ 8 8)) (C := "NestedCore$Ticker") (T := F_Ti) (N := 2) hx hb hts in_Ti hown hK hP 16 rfl rfl 0 (by decide) (hts _ k_58) (fun _ h => h) rfl hd kk
theorem g_Mo_114 (hx : p.tables.exec = Jvm.exec) (hb : c.code = cc) (hts : ∀ w ∈ WS, w.before args s = true) (hown : s.vm.findClass "NestedCoreModel" = some m.cls) (hK : va_K D clS (tyS cI cZ) s) (hP : va_P D clS (wM cI cZ a σ) H) (hd : decode cc pc = .ok (.getfield 114, 3)) (kk : W p l e R s m args below meth c H locs cells slots Q (F0 m (pc + 3) ls (.int (σ 8 12) :: rest))) : W p l e R s m args below meth c H locs cells slots Q (F0 m pc ls (.ref (a 0) :: rest)) :=
  va_get (D := D) (ci := 6) (v := .int (σ 8 12)) (C := "NestedCoreModel") (T := F_Mo) (N := 26) hx hb hts in_Mo hown hK hP 0 rfl rfl 19 (by decide) (hts _ k_59) (fun _ h => h) rfl hd kk
theorem g_Mo_120 (hx : p.tables.exec = Jvm.exec) (hb : c.code = cc) (hts : ∀ w ∈ WS, w.before args s = true) (hown : s.vm.findClass "NestedCoreModel" = some m.cls) (hK : va_K D clS (tyS cI cZ) s) (hP : va_P D clS (wM cI cZ a σ) H) (hd : decode cc pc = .ok (.getfield 120, 3)) (kk : W p l e R s m args below meth c H locs cells slots Q (F0 m (pc + 3) ls (.int (σ 8 14) :: rest))) : W p l e R s m args below meth c H locs cells slots Q (F0 m pc ls (.ref (a 0) :: rest)) :=
  va_get (D := D) (ci := 6) (v := .int (σ 8 14)) (C := "NestedCoreModel") (T := F_Mo) (N := 26) hx hb hts in_Mo hown hK hP 0 rfl rfl 21 (by decide) (hts _ k_60) (fun _ h => h) rfl hd kk
theorem g_Mo_13 (hx : p.tables.exec = Jvm.exec) (hb : c.code = cc) (hts : ∀ w ∈ WS, w.before args s = true) (hown : s.vm.findClass "NestedCoreModel" = some m.cls) (hK : va_K D clS (tyS cI cZ) s) (hP : va_P D clS (wM cI cZ a σ) H) (hd : decode cc pc = .ok (.getfield 13, 3)) (kk : W p l e R s m args below meth c H locs cells slots Q (F0 m (pc + 3) ls (.ref (a 2) :: rest))) : W p l e R s m args below meth c H locs cells slots Q (F0 m pc ls (.ref (a 0) :: rest)) :=
  va_get (D := D) (ci := 6) (v := .ref (a 2)) (C := "NestedCoreModel") (T := F_Mo) (N := 26) hx hb hts in_Mo hown hK hP 0 rfl rfl 2 (by decide) (hts _ k_61) (fun _ h => h) rfl hd kk
theorem g_Mo_141 (hx : p.tables.exec = Jvm.exec) (hb : c.code = cc) (hts : ∀ w ∈ WS, w.before args s = true) (hown : s.vm.findClass "NestedCoreModel" = some m.cls) (hK : va_K D clS (tyS cI cZ) s) (hP : va_P D clS (wM cI cZ a σ) H) (hd : decode cc pc = .ok (.getfield 141, 3)) (kk : W p l e R s m args below meth c H locs cells slots Q (F0 m (pc + 3) ls (.int (σ 8 13) :: rest))) : W p l e R s m args below meth c H locs cells slots Q (F0 m pc ls (.ref (a 0) :: rest)) :=
  va_get (D := D) (ci := 6) (v := .int (σ 8 13)) (C := "NestedCoreModel") (T := F_Mo) (N := 26) hx hb hts in_Mo hown hK hP 0 rfl rfl 20 (by decide) (hts _ k_62) (fun _ h => h) rfl hd kk
theorem g_Mo_16 (hx : p.tables.exec = Jvm.exec) (hb : c.code = cc) (hts : ∀ w ∈ WS, w.before args s = true) (hown : s.vm.findClass "NestedCoreModel" = some m.cls) (hK : va_K D clS (tyS cI cZ) s) (hP : va_P D clS (wM cI cZ a σ) H) (hd : decode cc pc = .ok (.getfield 16, 3)) (kk : W p l e R s m args below meth c H locs cells slots Q (F0 m (pc + 3) ls (.ref (a 3) :: rest))) : W p l e R s m args below meth c H locs cells slots Q (F0 m pc ls (.ref (a 0) :: rest)) :=
  va_get (D := D) (ci := 6) (v := .ref (a 3)) (C := "NestedCoreModel") (T := F_Mo) (N := 26) hx hb hts in_Mo hown hK hP 0 rfl rfl 7 (by decide) (hts _ k_63) (fun _ h => h) rfl hd kk
theorem g_Mo_19 (hx : p.tables.exec = Jvm.exec) (hb : c.code = cc) (hts : ∀ w ∈ WS, w.before args s = true) (hown : s.vm.findClass "NestedCoreModel" = some m.cls) (hK : va_K D clS (tyS cI cZ) s) (hP : va_P D clS (wM cI cZ a σ) H) (hd : decode cc pc = .ok (.getfield 19, 3)) (kk : W p l e R s m args below meth c H locs cells slots Q (F0 m (pc + 3) ls (.ref (a 4) :: rest))) : W p l e R s m args below meth c H locs cells slots Q (F0 m pc ls (.ref (a 0) :: rest)) :=
  va_get (D := D) (ci := 6) (v := .ref (a 4)) (C := "NestedCoreModel") (T := F_Mo) (N := 26) hx hb hts in_Mo hown hK hP 0 rfl rfl 8 (by decide) (hts _ k_64) (fun _ h => h) rfl hd kk
theorem g_Mo_203 (hx : p.tables.exec = Jvm.exec) (hb : c.code = cc) (hts : ∀ w ∈ WS, w.before args s = true) (hown : s.vm.findClass "NestedCoreModel" = some m.cls) (hK : va_K D clS (tyS cI cZ) s) (hP : va_P D clS (wM cI cZ a σ) H) (hd : decode cc pc = .ok (.getfield 203, 3)) (kk : W p l e R s m args below meth c H locs cells slots Q (F0 m (pc + 3) ls (.int (σ 8 8) :: rest))) : W p l e R s m args below meth c H locs cells slots Q (F0 m pc ls (.ref (a 0) :: rest)) :=
  va_get (D := D) (ci := 6) (v := .int (σ 8 8)) (C := "NestedCoreModel") (T := F_Mo) (N := 26) hx hb hts in_Mo hown hK hP 0 rfl rfl 15 (by decide) (hts _ k_65) (fun _ h => h) rfl hd kk
theorem g_Mo_206 (hx : p.tables.exec = Jvm.exec) (hb : c.code = cc) (hts : ∀ w ∈ WS, w.before args s = true) (hown : s.vm.findClass "NestedCoreModel" = some m.cls) (hK : va_K D clS (tyS cI cZ) s) (hP : va_P D clS (wM cI cZ a σ) H) (hd : decode cc pc = .ok (.getfield 206, 3)) (kk : W p l e R s m args below meth c H locs cells slots Q (F0 m (pc + 3) ls (.int (σ 8 9) :: rest))) : W p l e R s m args below meth c H locs cells slots Q (F0 m pc ls (.ref (a 0) :: rest)) :=
  va_get (D := D) (ci := 6) (v := .int (σ 8 9)) (C := "NestedCoreModel") (T := F_Mo) (N := 26) hx hb hts in_Mo hown hK hP 0 rfl rfl 16 (by decide) (hts _ k_66) (fun _ h => h) rfl hd kk
theorem g_Mo_23 (hx : p.tables.exec = Jvm.exec) (hb : c.code = cc) (hts : ∀ w ∈ WS, w.before args s = true) (hown : s.vm.findClass "NestedCoreModel" = some m.cls) (hK : va_K D clS (tyS cI cZ) s) (hP : va_P D clS (wM cI cZ a σ) H) (hd : decode cc pc = .ok (.getfield 23, 3)) (kk : W p l e R s m args below meth c H locs cells slots Q (F0 m (pc + 3) ls (.ref (a 5) :: rest))) : W p l e R s m args below meth c H locs cells slots Q (F0 m pc ls (.ref (a 0) :: rest)) :=
  va_get (D := D) (ci := 6) (v := .ref (a 5)) (C := "NestedCoreModel") (T := F_Mo) (N := 26) hx hb hts in_Mo hown hK hP 0 rfl rfl 9 (by decide) (hts _ k_67) (fun _ h => h) rfl hd kk
theorem g_Mo_26 (hx : p.tables.exec = Jvm.exec) (hb : c.code = cc) (hts : ∀ w ∈ WS, w.before args s = true) (hown : s.vm.findClass "NestedCoreModel" = some m.cls) (hK : va_K D clS (tyS cI cZ) s) (hP : va_P D clS (wM cI cZ a σ) H) (hd : decode cc pc = .ok (.getfield 26, 3)) (kk : W p l e R s m args below meth c H locs cells slots Q (F0 m (pc + 3) ls (.ref (a 6) :: rest))) : W p l e R s m args below meth c H locs cells slots Q (F0 m pc ls (.ref (a 0) :: rest)) :=
  va_get (D := D) (ci := 6) (v := .ref (a 6)) (C := "NestedCoreModel") (T := F_Mo) (N := 26) hx hb hts in_Mo hown hK hP 0 rfl rfl 10 (by decide) (hts _ k_68) (fun _ h => h) rfl hd kk
theorem g_Mo_29 (hx : p.tables.exec = Jvm.exec) (hb : c.code = cc) (hts : ∀ w ∈ WS, w.before args s = true) (hown : s.vm.findClass "NestedCoreModel" = some m.cls) (hK : va_K D clS (tyS cI cZ) s) (hP : va_P D clS (wM cI cZ a σ) H) (hd : decode cc pc = .ok (.getfield 29, 3)) (kk : W p l e R s m args below meth c H locs cells slots Q (F0 m (pc + 3) ls (.ref (a 7) :: rest))) : W p l e R s m args below meth c H locs cells slots Q (F0 m pc ls (.ref (a 0) :: rest)) :=
  va_get (D := D) (ci := 6) (v := .ref (a 7)) (C := "NestedCoreModel") (T := F_Mo) (N := 26) hx hb hts in_Mo hown hK hP 0 rfl rfl 22 (by decide) (hts _ k_69) (fun _ h => h) rfl hd kk
theorem g_Mo_32 (hx : p.tables.exec = Jvm.exec) (hb : c.code = cc) (hts : ∀ w ∈ WS, w.before args s = true) (hown : s.vm.findClass "NestedCoreModel" = some m.cls) (hK : va_K D clS (tyS cI cZ) s) (hP : va_P D clS (wM cI cZ a σ) H) (hd : decode cc pc = .ok (.getfield 32, 3)) (kk : W p l e R s m args below meth c H locs cells slots Q (F0 m (pc + 3) ls (.ref (a 8) :: rest))) : W p l e R s m args below meth c H locs cells slots Q (F0 m pc ls (.ref (a 0) :: rest)) :=
  va_get (D := D) (ci := 6) (v := .ref (a 8)) (C := "NestedCoreModel") (T := F_Mo) (N := 26) hx hb hts in_Mo hown hK hP 0 rfl rfl 23 (by decide) (hts _ k_70) (fun _ h => h) rfl hd kk
theorem g_Mo_35 (hx : p.tables.exec = Jvm.exec) (hb : c.code = cc) (hts : ∀ w ∈ WS, w.before args s = true) (hown : s.vm.findClass "NestedCoreModel" = some m.cls) (hK : va_K D clS (tyS cI cZ) s) (hP : va_P D clS (wM cI cZ a σ) H) (hd : decode cc pc = .ok (.getfield 35, 3)) (kk : W p l e R s m args below meth c H locs cells slots Q (F0 m (pc + 3) ls (.ref (a 9) :: rest))) : W p l e R s m args below meth c H locs cells slots Q (F0 m pc ls (.ref (a 0) :: rest)) :=
  va_get (D := D) (ci := 6) (v := .ref (a 9)) (C := "NestedCoreModel") (T := F_Mo) (N := 26) hx hb hts in_Mo hown hK hP 0 rfl rfl 24 (by decide) (hts _ k_71) (fun _ h => h) rfl hd kk
theorem g_Mo_38 (hx : p.tables.exec = Jvm.exec) (hb : c.code = cc) (hts : ∀ w ∈ WS, w.before args s = true) (hown : s.vm.findClass "NestedCoreModel" = some m.cls) (hK : va_K D clS (tyS cI cZ) s) (hP : va_P D clS (wM cI cZ a σ) H) (hd : decode cc pc = .ok (.getfield 38, 3)) (kk : W p l e R s m args below meth c H locs cells slots Q (F0 m (pc + 3) ls (.ref (a 10) :: rest))) : W p l e R s m args below meth c H locs cells slots Q (F0 m pc ls (.ref (a 0) :: rest)) :=
  va_get (D := D) (ci := 6) (v := .ref (a 10)) (C := "NestedCoreModel") (T := F_Mo) (N := 26) hx hb hts in_Mo hown hK hP 0 rfl rfl 25 (by decide) (hts _ k_72) (fun _ h => h) rfl hd kk
theorem g_Mo_41 (hx : p.tables.exec = Jvm.exec) (hb : c.code = cc) (hts : ∀ w ∈ WS, w.before args s = true) (hown : s.vm.findClass "NestedCoreModel" = some m.cls) (hK : va_K D clS (tyS cI cZ) s) (hP : va_P D clS (wM cI cZ a σ) H) (hd : decode cc pc = .ok (.getfield 41, 3)) (kk : W p l e R s m args below meth c H locs cells slots Q (F0 m (pc + 3) ls (.int (σ 8 15) :: rest))) : W p l e R s m args below meth c H locs cells slots Q (F0 m pc ls (.ref (a 0) :: rest)) :=
  va_get (D := D) (ci := 6) (v := .int (σ 8 15)) (C := "NestedCoreModel") (T := F_Mo) (N := 26) hx hb hts in_Mo hown hK hP 0 rfl rfl 0 (by decide) (hts _ k_73) (fun _ h => h) rfl hd kk
theorem g_Mo_53 (hx : p.tables.exec = Jvm.exec) (hb : c.code = cc) (hts : ∀ w ∈ WS, w.before args s = true) (hown : s.vm.findClass "NestedCoreModel" = some m.cls) (hK : va_K D clS (tyS cI cZ) s) (hP : va_P D clS (wM cI cZ a σ) H) (hd : decode cc pc = .ok (.getfield 53, 3)) (kk : W p l e R s m args below meth c H locs cells slots Q (F0 m (pc + 3) ls (.int (σ 8 0) :: rest))) : W p l e R s m args below meth c H locs cells slots Q (F0 m pc ls (.ref (a 0) :: rest)) :=
  va_get (D := D) (ci := 6) (v := .int (σ 8 0)) (C := "NestedCoreModel") (T := F_Mo) (N := 26) hx hb hts in_Mo hown hK hP 0 rfl rfl 11 (by decide) (hts _ k_74) (fun _ h => h) rfl hd kk
theorem g_Mo_60 (hx : p.tables.exec = Jvm.exec) (hb : c.code = cc) (hts : ∀ w ∈ WS, w.before args s = true) (hown : s.vm.findClass "NestedCoreModel" = some m.cls) (hK : va_K D clS (tyS cI cZ) s) (hP : va_P D clS (wM cI cZ a σ) H) (hd : decode cc pc = .ok (.getfield 60, 3)) (kk : W p l e R s m args below meth c H locs cells slots Q (F0 m (pc + 3) ls (.int (σ 8 1) :: rest))) : W p l e R s m args below meth c H locs cells slots Q (F0 m pc ls (.ref (a 0) :: rest)) :=
  va_get (D := D) (ci := 6) (v := .int (σ 8 1)) (C := "NestedCoreModel") (T := F_Mo) (N := 26) hx hb hts in_Mo hown hK hP 0 rfl rfl 12 (by decide) (hts _ k_75) (fun _ h => h) rfl hd kk
theorem g_Mo_63 (hx : p.tables.exec = Jvm.exec) (hb : c.code = cc) (hts : ∀ w ∈ WS, w.before args s = true) (hown : s.vm.findClass "NestedCoreModel" = some m.cls) (hK : va_K D clS (tyS cI cZ) s) (hP : va_P D clS (wM cI cZ a σ) H) (hd : decode cc pc = .ok (.getfield 63, 3)) (kk : W p l e R s m args below meth c H locs cells slots Q (F0 m (pc + 3) ls (.int (σ 8 2) :: rest))) : W p l e R s m args below meth c H locs cells slots Q (F0 m pc ls (.ref (a 0) :: rest)) :=
  va_get (D := D) (ci := 6) (v := .int (σ 8 2)) (C := "NestedCoreModel") (T := F_Mo) (N := 26) hx hb hts in_Mo hown hK hP 0 rfl rfl 13 (by decide) (hts _ k_76) (fun _ h => h) rfl hd kk
theorem g_Mo_67 (hx : p.tables.exec = Jvm.exec) (hb : c.code = cc) (hts : ∀ w ∈ WS, w.before args s = true) (hown : s.vm.findClass "NestedCoreModel" = some m.cls) (hK : va_K D clS (tyS cI cZ) s) (hP : va_P D clS (wM cI cZ a σ) H) (hd : decode cc pc = .ok (.getfield 67, 3)) (kk : W p l e R s m args below meth c H locs cells slots Q (F0 m (pc + 3) ls (.int (σ 8 3) :: rest))) : W p l e R s m args below meth c H locs cells slots Q (F0 m pc ls (.ref (a 0) :: rest)) :=
  va_get (D := D) (ci := 6) (v := .int (σ 8 3)) (C := "NestedCoreModel") (T := F_Mo) (N := 26) hx hb hts in_Mo hown hK hP 0 rfl rfl 14 (by decide) (hts _ k_77) (fun _ h => h) rfl hd kk
theorem g_Mo_7 (hx : p.tables.exec = Jvm.exec) (hb : c.code = cc) (hts : ∀ w ∈ WS, w.before args s = true) (hown : s.vm.findClass "NestedCoreModel" = some m.cls) (hK : va_K D clS (tyS cI cZ) s) (hP : va_P D clS (wM cI cZ a σ) H) (hd : decode cc pc = .ok (.getfield 7, 3)) (kk : W p l e R s m args below meth c H locs cells slots Q (F0 m (pc + 3) ls (.ref (a 1) :: rest))) : W p l e R s m args below meth c H locs cells slots Q (F0 m pc ls (.ref (a 0) :: rest)) :=
  va_get (D := D) (ci := 6) (v := .ref (a 1)) (C := "NestedCoreModel") (T := F_Mo) (N := 26) hx hb hts in_Mo hown hK hP 0 rfl rfl 1 (by decide) (hts _ k_78) (fun _ h => h) rfl hd kk
theorem g_Mo_74 (hx : p.tables.exec = Jvm.exec) (hb : c.code = cc) (hts : ∀ w ∈ WS, w.before args s = true) (hown : s.vm.findClass "NestedCoreModel" = some m.cls) (hK : va_K D clS (tyS cI cZ) s) (hP : va_P D clS (wM cI cZ a σ) H) (hd : decode cc pc = .ok (.getfield 74, 3)) (kk : W p l e R s m args below meth c H locs cells slots Q (F0 m (pc + 3) ls (.int (σ 8 10) :: rest))) : W p l e R s m args below meth c H locs cells slots Q (F0 m pc ls (.ref (a 0) :: rest)) :=
  va_get (D := D) (ci := 6) (v := .int (σ 8 10)) (C := "NestedCoreModel") (T := F_Mo) (N := 26) hx hb hts in_Mo hown hK hP 0 rfl rfl 17 (by decide) (hts _ k_79) (fun _ h => h) rfl hd kk
theorem g_Mo_80 (hx : p.tables.exec = Jvm.exec) (hb : c.code = cc) (hts : ∀ w ∈ WS, w.before args s = true) (hown : s.vm.findClass "NestedCoreModel" = some m.cls) (hK : va_K D clS (tyS cI cZ) s) (hP : va_P D clS (wM cI cZ a σ) H) (hd : decode cc pc = .ok (.getfield 80, 3)) (kk : W p l e R s m args below meth c H locs cells slots Q (F0 m (pc + 3) ls (.int (σ 8 4) :: rest))) : W p l e R s m args below meth c H locs cells slots Q (F0 m pc ls (.ref (a 0) :: rest)) :=
  va_get (D := D) (ci := 6) (v := .int (σ 8 4)) (C := "NestedCoreModel") (T := F_Mo) (N := 26) hx hb hts in_Mo hown hK hP 0 rfl rfl 3 (by decide) (hts _ k_80) (fun _ h => h) rfl hd kk
theorem g_Mo_84 (hx : p.tables.exec = Jvm.exec) (hb : c.code = cc) (hts : ∀ w ∈ WS, w.before args s = true) (hown : s.vm.findClass "NestedCoreModel" = some m.cls) (hK : va_K D clS (tyS cI cZ) s) (hP : va_P D clS (wM cI cZ a σ) H) (hd : decode cc pc = .ok (.getfield 84, 3)) (kk : W p l e R s m args below meth c H locs cells slots Q (F0 m (pc + 3) ls (.int (σ 8 5) :: rest))) : W p l e R s m args below meth c H locs cells slots Q (F0 m pc ls (.ref (a 0) :: rest)) :=
  va_get (D := D) (ci := 6) (v := .int (σ 8 5)) (C := "NestedCoreModel") (T := F_Mo) (N := 26) hx hb hts in_Mo hown hK hP 0 rfl rfl 4 (by decide) (hts _ k_81) (fun _ h => h) rfl hd kk
theorem g_Mo_88 (hx : p.tables.exec = Jvm.exec) (hb : c.code = cc) (hts : ∀ w ∈ WS, w.before args s = true) (hown : s.vm.findClass "NestedCoreModel" = some m.cls) (hK : va_K D clS (tyS cI cZ) s) (hP : va_P D clS (wM cI cZ a σ) H) (hd : decode cc pc = .ok (.getfield 88, 3)) (kk : W p l e R s m args below meth c H locs cells slots Q (F0 m (pc + 3) ls (.int (σ 8 6) :: rest))) : W p l e R s m args below meth c H locs cells slots Q (F0 m pc ls (.ref (a 0) :: rest)) :=
  va_get (D := D) (ci := 6) (v := .int (σ 8 6)) (C := "NestedCoreModel") (T := F_Mo) (N := 26) hx hb hts in_Mo hown hK hP 0 rfl rfl 5 (by decide) (hts _ k_82) (fun _ h => h) rfl hd kk
theorem g_Mo_92 (hx : p.tables.exec = Jvm.exec) (hb : c.code = cc) (hts : ∀ w ∈ WS, w.before args s = true) (hown : s.vm.findClass "NestedCoreModel" = some m.cls) (hK : va_K D clS (tyS cI cZ) s) (hP : va_P D clS (wM cI cZ a σ) H) (hd : decode cc pc = .ok (.getfield 92, 3)) (kk : W p l e R s m args below meth c H locs cells slots Q (F0 m (pc + 3) ls (.int (σ 8 7) :: rest))) : W p l e R s m args below meth c H locs cells slots Q (F0 m pc ls (.ref (a 0) :: rest)) :=
  va_get (D := D) (ci := 6) (v := .int (σ 8 7)) (C := "NestedCoreModel") (T := F_Mo) (N := 26) hx hb hts in_Mo hown hK hP 0 rfl rfl 6 (by decide) (hts _ k_83) (fun _ h => h) rfl hd kk
theorem g_Mo_99 (hx : p.tables.exec = Jvm.exec) (hb : c.code = cc) (hts : ∀ w ∈ WS, w.before args s = true) (hown : s.vm.findClass "NestedCoreModel" = some m.cls) (hK : va_K D clS (tyS cI cZ) s) (hP : va_P D clS (wM cI cZ a σ) H) (hd : decode cc pc = .ok (.getfield 99, 3)) (kk : W p l e R s m args below meth c H locs cells slots Q (F0 m (pc + 3) ls (.int (σ 8 11) :: rest))) : W p l e R s m args below meth c H locs cells slots Q (F0 m pc ls (.ref (a 0) :: rest)) :=
  va_get (D := D) (ci := 6) (v := .int (σ 8 11)) (C := "NestedCoreModel") (T := F_Mo) (N := 26) hx hb hts in_Mo hown hK hP 0 rfl rfl 18 (by decide) (hts _ k_84) (fun _ h => h) rfl hd kk
theorem p_Ex_46 {b : Bool} (hx : p.tables.exec = Jvm.exec) (hb : c.code = cc) (hts : ∀ w ∈ WS, w.before args s = true) (hown : s.vm.findClass "NestedCore$Exceptions" = some m.cls) (hK : va_K D clS (tyS cI cZ) s) (S : St D (wC cI cZ a) A s σ H locs) (hd : decode cc pc = .ok (.putfield 46, 3)) (kk : ∀ (H : Heap) (locs : List Loc), St D (wC cI cZ a) A s (up2 σ 8 3 (bI b)) H locs → W p l e R s m args below meth c H locs cells slots Q (F0 m (pc + 3) ls rest)) : W p l e R s m args below meth c H locs cells slots Q (F0 m pc ls (.int (bI b) :: .ref (a 10) :: rest)) :=
  va_put (D := D) (ci := 3) (v := .int (bI b)) (ty := .boolean) (C := "NestedCore$Exceptions") (T := F_Ex) (N := 8) hx hb hts in_Ex t_Ex t_Ex_ok n_Ex hown hK S.1 S.2.1 S.2.2 10 rfl rfl 7 (by decide) (hts _ k_29) (fun _ h => h) rfl (by decide +kernel) (bI_narrow b) (bI_fits b) (Nat.le_of_ble_eq_true rfl) hd (fun H1 locs1 hP hD hS => kk H1 locs1 ⟨hP, hD, hS⟩)
theorem p_Fl_13 {b : Bool} (hx : p.tables.exec = Jvm.exec) (hb : c.code = cc) (hts : ∀ w ∈ WS, w.before args s = true) (hown : s.vm.findClass "NestedCore$Flags" = some m.cls) (hK : va_K D clS (tyS cI cZ) s) (S : St D (wC cI cZ a) A s σ H locs) (hd : decode cc pc = .ok (.putfield 13, 3)) (kk : ∀ (H : Heap) (locs : List Loc), St D (wC cI cZ a) A s (up2 σ 8 5 (bI b)) H locs → W p l e R s m args below meth c H locs cells slots Q (F0 m (pc + 3) ls rest)) : W p l e R s m args below meth c H locs cells slots Q (F0 m pc ls (.int (bI b) :: .ref (a 15) :: rest)) :=
  va_put (D := D) (ci := 4) (v := .int (bI b)) (ty := .boolean) (C := "NestedCore$Flags") (T := F_Fl) (N := 4) hx hb hts in_Fl t_Fl t_Fl_ok n_Fl hown hK S.1 S.2.1 S.2.2 15 rfl rfl 1 (by decide) (hts _ k_31) (fun _ h => h) rfl (by decide +kernel) (bI_narrow b) (bI_fits b) (Nat.le_of_ble_eq_true rfl) hd (fun H1 locs1 hP hD hS => kk H1 locs1 ⟨hP, hD, hS⟩)
theorem p_Fl_16 {b : Bool} (hx : p.tables.exec = Jvm.exec) (hb : c.code = cc) (hts : ∀ w ∈ WS, w.before args s = true) (hown : s.vm.findClass "NestedCore$Flags" = some m.cls) (hK : va_K D clS (tyS cI cZ) s) (S : St D (wC cI cZ a) A s σ H locs) (hd : decode cc pc = .ok (.putfield 16, 3)) (kk : ∀ (H : Heap) (locs : List Loc), St D (wC cI cZ a) A s (up2 σ 8 6 (bI b)) H locs → W p l e R s m args below meth c H locs cells slots Q (F0 m (pc + 3) ls rest)) : W p l e R s m args below meth c H locs cells slots Q (F0 m pc ls (.int (bI b) :: .ref (a 15) :: rest)) :=
  va_put (D := D) (ci := 4) (v := .int (bI b)) (ty := .boolean) (C := "NestedCore$Flags") (T := F_Fl) (N := 4) hx hb hts in_Fl t_Fl t_Fl_ok n_Fl hown hK S.1 S.2.1 S.2.2 15 rfl rfl 2 (by decide) (hts _ k_32) (fun _ h => h) rfl (by decide +kernel) (bI_narrow b) (bI_fits b) (Nat.le_of_ble_eq_true rfl) hd (fun H1 locs1 hP hD hS => kk H1 locs1 ⟨hP, hD, hS⟩)
theorem p_Fl_21 {b : Bool} (hx : p.tables.exec = Jvm.exec) (hb : c.code = cc) (hts : ∀ w ∈ WS, w.before args s = true) (hown : s.vm.findClass "NestedCore$Flags" = some m.cls) (hK : va_K D clS (tyS cI cZ) s) (S : St D (wC cI cZ a) A s σ H locs) (hd : decode cc pc = .ok (.putfield 21, 3)) (kk : ∀ (H : Heap) (locs : List Loc), St D (wC cI cZ a) A s (up2 σ 8 7 (bI b)) H locs → W p l e R s m args below meth c H locs cells slots Q (F0 m (pc + 3) ls rest)) : W p l e R s m args below meth c H locs cells slots Q (F0 m pc ls (.int (bI b) :: .ref (a 15) :: rest)) :=
  va_put (D := D) (ci := 4) (v := .int (bI b)) (ty := .boolean) (C := "NestedCore$Flags") (T := F_Fl) (N := 4) hx hb hts in_Fl t_Fl t_Fl_ok n_Fl hown hK S.1 S.2.1 S.2.2 15 rfl rfl 3 (by decide) (hts _ k_33) (fun _ h => h) rfl (by decide +kernel) (bI_narrow b) (bI_fits b) (Nat.le_of_ble_eq_true rfl) hd (fun H1 locs1 hP hD hS => kk H1 locs1 ⟨hP, hD, hS⟩)
theorem p_Fl_7 {b : Bool} (hx : p.tables.exec = Jvm.exec) (hb : c.code = cc) (hts : ∀ w ∈ WS, w.before args s = true) (hown : s.vm.findClass "NestedCore$Flags" = some m.cls) (hK : va_K D clS (tyS cI cZ) s) (S : St D (wC cI cZ a) A s σ H locs) (hd : decode cc pc = .ok (.putfield 7, 3)) (kk : ∀ (H : Heap) (locs : List Loc), St D (wC cI cZ a) A s (up2 σ 8 4 (bI b)) H locs → W p l e R s m args below meth c H locs cells slots Q (F0 m (pc + 3) ls rest)) : W p l e R s m args below meth c H locs cells slots Q (F0 m pc ls (.int (bI b) :: .ref (a 15) :: rest)) :=
  va_put (D := D) (ci := 4) (v := .int (bI b)) (ty := .boolean) (C := "NestedCore$Flags") (T := F_Fl) (N := 4) hx hb hts in_Fl t_Fl t_Fl_ok n_Fl hown hK S.1 S.2.1 S.2.2 15 rfl rfl 0 (by decide) (hts _ k_34) (fun _ h => h) rfl (by decide +kernel) (bI_narrow b) (bI_fits b) (Nat.le_of_ble_eq_true rfl) hd (fun H1 locs1 hP hD hS => kk H1 locs1 ⟨hP, hD, hS⟩)
theorem p_Ti_13 {v : Int32} (hx : p.tables.exec = Jvm.exec) (hb : c.code = cc) (hts : ∀ w ∈ WS, w.before args s = true) (hown : s.vm.findClass "NestedCore$Ticker" = some m.cls) (hK : va_K D clS (tyS cI cZ) s) (S : St D (wC cI cZ a) A s σ H locs) (hd : decode cc pc = .ok (.putfield 13, 3)) (kk : ∀ (H : Heap) (locs : List Loc), St D (wC cI cZ a) A s (up2 σ 8 9 (v)) H locs → W p l e R s m args below meth c H locs cells slots Q (F0 m (pc + 3) ls rest)) : W p l e R s m args below meth c H locs cells slots Q (F0 m pc ls (.int (v) :: .ref (a 16) :: rest)) :=
  va_put (D := D) (ci := 5) (v := .int (v)) (ty := .int) (C := "NestedCore$Ticker") (T := F_Ti) (N := 2) hx hb hts in_Ti t_Ti t_Ti_ok n_Ti hown hK S.1 S.2.1 S.2.2 16 rfl rfl 1 (by decide) (hts _ k_36) (fun _ h => h) rfl (by decide +kernel) rfl rfl (Nat.le_of_ble_eq_true rfl) hd (fun H1 locs1 hP hD hS => kk H1 locs1 ⟨hP, hD, hS⟩)
theorem p_Ti_7 {v : Int32} (hx : p.tables.exec = Jvm.exec) (hb : c.code = cc) (hts : ∀ w ∈ WS, w.before args s = true) (hown : s.vm.findClass "NestedCore$Ticker" = some m.cls) (hK : va_K D clS (tyS cI cZ) s) (S : St D (wC cI cZ a) A s σ H locs) (hd : decode cc pc = .ok (.putfield 7, 3)) (kk : ∀ (H : Heap) (locs : List Loc), St D (wC cI cZ a) A s (up2 σ 8 8 (v)) H locs → W p l e R s m args below meth c H locs cells slots Q (F0 m (pc + 3) ls rest)) : W p l e R s m args below meth c H locs cells slots Q (F0 m pc ls (.int (v) :: .ref (a 16) :: rest)) :=
  va_put (D := D) (ci := 5) (v := .int (v)) (ty := .int) (C := "NestedCore$Ticker") (T := F_Ti) (N := 2) hx hb hts in_Ti t_Ti t_Ti_ok n_Ti hown hK S.1 S.2.1 S.2.2 16 rfl rfl 0 (by decide) (hts _ k_37) (fun _ h => h) rfl (by decide +kernel) rfl rfl (Nat.le_of_ble_eq_true rfl) hd (fun H1 locs1 hP hD hS => kk H1 locs1 ⟨hP, hD, hS⟩)
theorem p_N_118 {v : Int32} (hx : p.tables.exec = Jvm.exec) (hb : c.code = cc) (hts : ∀ w ∈ WS, w.before args s = true) (hown : s.vm.findClass "NestedCore" = some m.cls) (hK : va_K D clS (tyS cI cZ) s) (S : St D (wC cI cZ a) A s σ H locs) (hd : decode cc pc = .ok (.putfield 118, 3)) (kk : ∀ (H : Heap) (locs : List Loc), St D (wC cI cZ a) A s (up2 σ 8 11 (v)) H locs → W p l e R s m args below meth c H locs cells slots Q (F0 m (pc + 3) ls rest)) : W p l e R s m args below meth c H locs cells slots Q (F0 m pc ls (.int (v) :: .ref (a 0) :: rest)) :=
  va_put (D := D) (ci := 0) (v := .int (v)) (ty := .int) (C := "NestedCore") (T := F_N) (N := 12) hx hb hts in_N t_N t_N_ok n_N hown hK S.1 S.2.1 S.2.2 0 rfl rfl 8 (by decide) (hts _ k_39) (fun _ h => h) rfl (by decide +kernel) rfl rfl (Nat.le_of_ble_eq_true rfl) hd (fun H1 locs1 hP hD hS => kk H1 locs1 ⟨hP, hD, hS⟩)
theorem p_N_128 {v : Int32} (hx : p.tables.exec = Jvm.exec) (hb : c.code = cc) (hts : ∀ w ∈ WS, w.before args s = true) (hown : s.vm.findClass "NestedCore" = some m.cls) (hK : va_K D clS (tyS cI cZ) s) (S : St D (wC cI cZ a) A s σ H locs) (hd : decode cc pc = .ok (.putfield 128, 3)) (kk : ∀ (H : Heap) (locs : List Loc), St D (wC cI cZ a) A s (up2 σ 8 10 (v)) H locs → W p l e R s m args below meth c H locs cells slots Q (F0 m (pc + 3) ls rest)) : W p l e R s m args below meth c H locs cells slots Q (F0 m pc ls (.int (v) :: .ref (a 0) :: rest)) :=
  va_put (D := D) (ci := 0) (v := .int (v)) (ty := .int) (C := "NestedCore") (T := F_N) (N := 12) hx hb hts in_N t_N t_N_ok n_N hown hK S.1 S.2.1 S.2.2 0 rfl rfl 7 (by decide) (hts _ k_40) (fun _ h => h) rfl (by decide +kernel) rfl rfl (Nat.le_of_ble_eq_true rfl) hd (fun H1 locs1 hP hD hS => kk H1 locs1 ⟨hP, hD, hS⟩)
theorem p_N_137 {v : Int32} (hx : p.tables.exec = Jvm.exec) (hb : c.code = cc) (hts : ∀ w ∈ WS, w.before args s = true) (hown : s.vm.findClass "NestedCore" = some m.cls) (hK : va_K D clS (tyS cI cZ) s) (S : St D (wC cI cZ a) A s σ H locs) (hd : decode cc pc = .ok (.putfield 137, 3)) (kk : ∀ (H : Heap) (locs : List Loc), St D (wC cI cZ a) A s (up2 σ 8 12 (v)) H locs → W p l e R s m args below meth c H locs cells slots Q (F0 m (pc + 3) ls rest)) : W p l e R s m args below meth c H locs cells slots Q (F0 m pc ls (.int (v) :: .ref (a 0) :: rest)) :=
  va_put (D := D) (ci := 0) (v := .int (v)) (ty := .int) (C := "NestedCore") (T := F_N) (N := 12) hx hb hts in_N t_N t_N_ok n_N hown hK S.1 S.2.1 S.2.2 0 rfl rfl 9 (by decide) (hts _ k_42) (fun _ h => h) rfl (by decide +kernel) rfl rfl (Nat.le_of_ble_eq_true rfl) hd (fun H1 locs1 hP hD hS => kk H1 locs1 ⟨hP, hD, hS⟩)
theorem p_N_140 {v : Int32} (hx : p.tables.exec = Jvm.exec) (hb : c.code = cc) (hts : ∀ w ∈ WS, w.before args s = true) (hown : s.vm.findClass "NestedCore" = some m.cls) (hK : va_K D clS (tyS cI cZ) s) (S : St D (wC cI cZ a) A s σ H locs) (hd : decode cc pc = .ok (.putfield 140, 3)) (kk : ∀ (H : Heap) (locs : List Loc), St D (wC cI cZ a) A s (up2 σ 8 13 (v)) H locs → W p l e R s m args below meth c H locs cells slots Q (F0 m (pc + 3) ls rest)) : W p l e R s m args below meth c H locs cells slots Q (F0 m pc ls (.int (v) :: .ref (a 0) :: rest)) :=
  va_put (D := D) (ci := 0) (v := .int (v)) (ty := .int) (C := "NestedCore") (T := F_N) (N := 12) hx hb hts in_N t_N t_N_ok n_N hown hK S.1 S.2.1 S.2.2 0 rfl rfl 10 (by decide) (hts _ k_43) (fun _ h => h) rfl (by decide +kernel) rfl rfl (Nat.le_of_ble_eq_true rfl) hd (fun H1 locs1 hP hD hS => kk H1 locs1 ⟨hP, hD, hS⟩)
theorem p_N_143 {v : Int32} (hx : p.tables.exec = Jvm.exec) (hb : c.code = cc) (hts : ∀ w ∈ WS, w.before args s = true) (hown : s.vm.findClass "NestedCore" = some m.cls) (hK : va_K D clS (tyS cI cZ) s) (S : St D (wC cI cZ a) A s σ H locs) (hd : decode cc pc = .ok (.putfield 143, 3)) (kk : ∀ (H : Heap) (locs : List Loc), St D (wC cI cZ a) A s (up2 σ 8 14 (v)) H locs → W p l e R s m args below meth c H locs cells slots Q (F0 m (pc + 3) ls rest)) : W p l e R s m args below meth c H locs cells slots Q (F0 m pc ls (.int (v) :: .ref (a 0) :: rest)) :=
  va_put (D := D) (ci := 0) (v := .int (v)) (ty := .int) (C := "NestedCore") (T := F_N) (N := 12) hx hb hts in_N t_N t_N_ok n_N hown hK S.1 S.2.1 S.2.2 0 rfl rfl 11 (by decide) (hts _ k_44) (fun _ h => h) rfl (by decide +kernel) rfl rfl (Nat.le_of_ble_eq_true rfl) hd (fun H1 locs1 hP hD hS => kk H1 locs1 ⟨hP, hD, hS⟩)
theorem p_N_252 {b : Bool} (hx : p.tables.exec = Jvm.exec) (hb : c.code = cc) (hts : ∀ w ∈ WS, w.before args s = true) (hown : s.vm.findClass "NestedCore" = some m.cls) (hK : va_K D clS (tyS cI cZ) s) (S : St D (wC cI cZ a) A s σ H locs) (hd : decode cc pc = .ok (.putfield 252, 3)) (kk : ∀ (H : Heap) (locs : List Loc), St D (wC cI cZ a) A s (up2 σ 8 6 (bI b)) H locs → W p l e R s m args below meth c H locs cells slots Q (F0 m (pc + 3) ls rest)) : W p l e R s m args below meth c H locs cells slots Q (F0 m pc ls (.int (bI b) :: .ref (a 15) :: rest)) :=
  va_put (D := D) (ci := 4) (v := .int (bI b)) (ty := .boolean) (C := "NestedCore$Flags") (T := F_Fl) (N := 4) hx hb hts in_Fl t_Fl t_Fl_ok n_Fl hown hK S.1 S.2.1 S.2.2 15 rfl rfl 2 (by decide) (hts _ k_85) (fun _ h => h) rfl (by decide +kernel) (bI_narrow b) (bI_fits b) (Nat.le_of_ble_eq_true rfl) hd (fun H1 locs1 hP hD hS => kk H1 locs1 ⟨hP, hD, hS⟩)
theorem p_N_75 {b : Bool} (hx : p.tables.exec = Jvm.exec) (hb : c.code = cc) (hts : ∀ w ∈ WS, w.before args s = true) (hown : s.vm.findClass "NestedCore" = some m.cls) (hK : va_K D clS (tyS cI cZ) s) (S : St D (wC cI cZ a) A s σ H locs) (hd : decode cc pc = .ok (.putfield 75, 3)) (kk : ∀ (H : Heap) (locs : List Loc), St D (wC cI cZ a) A s (up2 σ 8 2 (bI b)) H locs → W p l e R s m args below meth c H locs cells slots Q (F0 m (pc + 3) ls rest)) : W p l e R s m args below meth c H locs cells slots Q (F0 m pc ls (.int (bI b) :: .ref (a 10) :: rest)) :=
  va_put (D := D) (ci := 3) (v := .int (bI b)) (ty := .boolean) (C := "NestedCore$Exceptions") (T := F_Ex) (N := 8) hx hb hts in_Ex t_Ex t_Ex_ok n_Ex hown hK S.1 S.2.1 S.2.2 10 rfl rfl 6 (by decide) (hts _ k_53) (fun _ h => h) rfl (by decide +kernel) (bI_narrow b) (bI_fits b) (Nat.le_of_ble_eq_true rfl) hd (fun H1 locs1 hP hD hS => kk H1 locs1 ⟨hP, hD, hS⟩)
theorem p_N_79 {b : Bool} (hx : p.tables.exec = Jvm.exec) (hb : c.code = cc) (hts : ∀ w ∈ WS, w.before args s = true) (hown : s.vm.findClass "NestedCore" = some m.cls) (hK : va_K D clS (tyS cI cZ) s) (S : St D (wC cI cZ a) A s σ H locs) (hd : decode cc pc = .ok (.putfield 79, 3)) (kk : ∀ (H : Heap) (locs : List Loc), St D (wC cI cZ a) A s (up2 σ 8 3 (bI b)) H locs → W p l e R s m args below meth c H locs cells slots Q (F0 m (pc + 3) ls rest)) : W p l e R s m args below meth c H locs cells slots Q (F0 m pc ls (.int (bI b) :: .ref (a 10) :: rest)) :=
  va_put (D := D) (ci := 3) (v := .int (bI b)) (ty := .boolean) (C := "NestedCore$Exceptions") (T := F_Ex) (N := 8) hx hb hts in_Ex t_Ex t_Ex_ok n_Ex hown hK S.1 S.2.1 S.2.2 10 rfl rfl 7 (by decide) (hts _ k_54) (fun _ h => h) rfl (by decide +kernel) (bI_narrow b) (bI_fits b) (Nat.le_of_ble_eq_true rfl) hd (fun H1 locs1 hP hD hS => kk H1 locs1 ⟨hP, hD, hS⟩)
theorem p_N_82 {v : Int32} (hx : p.tables.exec = Jvm.exec) (hb : c.code = cc) (hts : ∀ w ∈ WS, w.before args s = true) (hown : s.vm.findClass "NestedCore" = some m.cls) (hK : va_K D clS (tyS cI cZ) s) (S : St D (wC cI cZ a) A s σ H locs) (hd : decode cc pc = .ok (.putfield 82, 3)) (kk : ∀ (H : Heap) (locs : List Loc), St D (wC cI cZ a) A s (up2 σ 8 1 (v)) H locs → W p l e R s m args below meth c H locs cells slots Q (F0 m (pc + 3) ls rest)) : W p l e R s m args below meth c H locs cells slots Q (F0 m pc ls (.int (v) :: .ref (a 10) :: rest)) :=
  va_put (D := D) (ci := 3) (v := .int (v)) (ty := .int) (C := "NestedCore$Exceptions") (T := F_Ex) (N := 8) hx hb hts in_Ex t_Ex t_Ex_ok n_Ex hown hK S.1 S.2.1 S.2.2 10 rfl rfl 5 (by decide) (hts _ k_55) (fun _ h => h) rfl (by decide +kernel) rfl rfl (Nat.le_of_ble_eq_true rfl) hd (fun H1 locs1 hP hD hS => kk H1 locs1 ⟨hP, hD, hS⟩)
theorem p_N_86 {v : Int32} (hx : p.tables.exec = Jvm.exec) (hb : c.code = cc) (hts : ∀ w ∈ WS, w.before args s = true) (hown : s.vm.findClass "NestedCore" = some m.cls) (hK : va_K D clS (tyS cI cZ) s) (S : St D (wC cI cZ a) A s σ H locs) (hd : decode cc pc = .ok (.putfield 86, 3)) (kk : ∀ (H : Heap) (locs : List Loc), St D (wC cI cZ a) A s (up2 σ 8 0 (v)) H locs → W p l e R s m args below meth c H locs cells slots Q (F0 m (pc + 3) ls rest)) : W p l e R s m args below meth c H locs cells slots Q (F0 m pc ls (.int (v) :: .ref (a 10) :: rest)) :=
  va_put (D := D) (ci := 3) (v := .int (v)) (ty := .int) (C := "NestedCore$Exceptions") (T := F_Ex) (N := 8) hx hb hts in_Ex t_Ex t_Ex_ok n_Ex hown hK S.1 S.2.1 S.2.2 10 rfl rfl 4 (by decide) (hts _ k_56) (fun _ h => h) rfl (by decide +kernel) rfl rfl (Nat.le_of_ble_eq_true rfl) hd (fun H1 locs1 hP hD hS => kk H1 locs1 ⟨hP, hD, hS⟩)
theorem p_Mo_114 {v : Int32} (hx : p.tables.exec = Jvm.exec) (hb : c.code = cc) (hts : ∀ w ∈ WS, w.before args s = true) (hown : s.vm.findClass "NestedCoreModel" = some m.cls) (hK : va_K D clS (tyS cI cZ) s) (S : St D (wM cI cZ a) A s σ H locs) (hd : decode cc pc = .ok (.putfield 114, 3)) (kk : ∀ (H : Heap) (locs : List Loc), St D (wM cI cZ a) A s (up2 σ 8 12 (v)) H locs → W p l e R s m args below meth c H locs cells slots Q (F0 m (pc + 3) ls rest)) : W p l e R s m args below meth c H locs cells slots Q (F0 m pc ls (.int (v) :: .ref (a 0) :: rest)) :=
  va_put (D := D) (ci := 6) (v := .int (v)) (ty := .int) (C := "NestedCoreModel") (T := F_Mo) (N := 26) hx hb hts in_Mo t_Mo t_Mo_ok n_Mo hown hK S.1 S.2.1 S.2.2 0 rfl rfl 19 (by decide) (hts _ k_59) (fun _ h => h) rfl (by decide +kernel) rfl rfl (Nat.le_of_ble_eq_true rfl) hd (fun H1 locs1 hP hD hS => kk H1 locs1 ⟨hP, hD, hS⟩)
theorem p_Mo_120 {v : Int32} (hx : p.tables.exec = Jvm.exec) (hb : c.code = cc) (hts : ∀ w ∈ WS, w.before args s = true) (hown : s.vm.findClass "NestedCoreModel" = some m.cls) (hK : va_K D clS (tyS cI cZ) s) (S : St D (wM cI cZ a) A s σ H locs) (hd : decode cc pc = .ok (.putfield 120, 3)) (kk : ∀ (H : Heap) (locs : List Loc), St D (wM cI cZ a) A s (up2 σ 8 14 (v)) H locs → W p l e R s m args below meth c H locs cells slots Q (F0 m (pc + 3) ls rest)) : W p l e R s m args below meth c H locs cells slots Q (F0 m pc ls (.int (v) :: .ref (a 0) :: rest)) :=
  va_put (D := D) (ci := 6) (v := .int (v)) (ty := .int) (C := "NestedCoreModel") (T := F_Mo) (N := 26) hx hb hts in_Mo t_Mo t_Mo_ok n_Mo hown hK S.1 S.2.1 S.2.2 0 rfl rfl 21 (by decide) (hts _ k_60) (fun _ h => h) rfl (by decide +kernel) rfl rfl (Nat.le_of_ble_eq_true rfl) hd (fun H1 locs1 hP hD hS => kk H1 locs1 ⟨hP, hD, hS⟩)
theorem p_Mo_141 {v : Int32} (hx : p.tables.exec = Jvm.exec) (hb : c.code = cc) (hts : ∀ w ∈ WS, w.before args s = true) (hown : s.vm.findClass "NestedCoreModel" = some m.cls) (hK : va_K D clS (tyS cI cZ) s) (S : St D (wM cI cZ a) A s σ H locs) (hd : decode cc pc = .ok (.putfield 141, 3)) (kk : ∀ (H : Heap) (locs : List Loc), St D (wM cI cZ a) A s (up2 σ 8 13 (v)) H locs → W p l e R s m args below meth c H locs cells slots Q (F0 m (pc + 3) ls rest)) : W p l e R s m args below meth c H locs cells slots Q (F0 m pc ls (.int (v) :: .ref (a 0) :: rest)) :=
  va_put (D := D) (ci := 6) (v := .int (v)) (ty := .int) (C := "NestedCoreModel") (T := F_Mo) (N := 26) hx hb hts in_Mo t_Mo t_Mo_ok n_Mo hown hK S.1 S.2.1 S.2.2 0 rfl rfl 20 (by decide) (hts _ k_62) (fun _ h => h) rfl (by decide +kernel) rfl rfl (Nat.le_of_ble_eq_true rfl) hd (fun H1 locs1 hP hD hS => kk H1 locs1 ⟨hP, hD, hS⟩)
theorem p_Mo_203 {v : Int32} (hx : p.tables.exec = Jvm.exec) (hb : c.code = cc) (hts : ∀ w ∈ WS, w.before args s = true) (hown : s.vm.findClass "NestedCoreModel" = some m.cls) (hK : va_K D clS (tyS cI cZ) s) (S : St D (wM cI cZ a) A s σ H locs) (hd : decode cc pc = .ok (.putfield 203, 3)) (kk : ∀ (H : Heap) (locs : List Loc), St D (wM cI cZ a) A s (up2 σ 8 8 (v)) H locs → W p l e R s m args below meth c H locs cells slots Q (F0 m (pc + 3) ls rest)) : W p l e R s m args below meth c H locs cells slots Q (F0 m pc ls (.int (v) :: .ref (a 0) :: rest)) :=
  va_put (D := D) (ci := 6) (v := .int (v)) (ty := .int) (C := "NestedCoreModel") (T := F_Mo) (N := 26) hx hb hts in_Mo t_Mo t_Mo_ok n_Mo hown hK S.1 S.2.1 S.2.2 0 rfl rfl 15 (by decide) (hts _ k_65) (fun _ h => h) rfl (by decide +kernel) rfl rfl (Nat.le_of_ble_eq_true rfl) hd (fun H1 locs1 hP hD hS => kk H1 locs1 ⟨hP, hD, hS⟩)
theorem p_Mo_206 {v : Int32} (hx : p.tables.exec = Jvm.exec) (hb : c.code = cc) (hts : ∀ w ∈ WS, w.before args s = true) (hown : s.vm.findClass "NestedCoreModel" = some m.cls) (hK : va_K D clS (tyS cI cZ) s) (S : St D (wM cI cZ a) A s σ H locs) (hd : decode cc pc = .ok (.putfield 206, 3)) (kk : ∀ (H : Heap) (locs : List Loc), St D (wM cI cZ a) A s (up2 σ 8 9 (v)) H locs → W p l e R s m args below meth c H locs cells slots Q (F0 m (pc + 3) ls rest)) : W p l e R s m args below meth c H locs cells slots Q (F0 m pc ls (.int (v) :: .ref (a 0) :: rest)) :=
  va_put (D := D) (ci := 6) (v := .int (v)) (ty := .int) (C := "NestedCoreModel") (T := F_Mo) (N := 26) hx hb hts in_Mo t_Mo t_Mo_ok n_Mo hown hK S.1 S.2.1 S.2.2 0 rfl rfl 16 (by decide) (hts _ k_66) (fun _ h => h) rfl (by decide +kernel) rfl rfl (Nat.le_of_ble_eq_true rfl) hd (fun H1 locs1 hP hD hS => kk H1 locs1 ⟨hP, hD, hS⟩)
theorem p_Mo_41 {v : Int32} (hx : p.tables.exec = Jvm.exec) (hb : c.code = cc) (hts : ∀ w ∈ WS, w.before args s = true) (hown : s.vm.findClass "NestedCoreModel" = some m.cls) (hK : va_K D clS (tyS cI cZ) s) (S : St D (wM cI cZ a) A s σ H locs) (hd : decode cc pc = .ok (.putfield 41, 3)) (kk : ∀ (H : Heap) (locs : List Loc), St D (wM cI cZ a) A s (up2 σ 8 15 (v)) H locs → W p l e R s m args below meth c H locs cells slots Q (F0 m (pc + 3) ls rest)) : W p l e R s m args below meth c H locs cells slots Q (F0 m pc ls (.int (v) :: .ref (a 0) :: rest)) :=
  va_put (D := D) (ci := 6) (v := .int (v)) (ty := .int) (C := "NestedCoreModel") (T := F_Mo) (N := 26) hx hb hts in_Mo t_Mo t_Mo_ok n_Mo hown hK S.1 S.2.1 S.2.2 0 rfl rfl 0 (by decide) (hts _ k_73) (fun _ h => h) rfl (by decide +kernel) rfl rfl (Nat.le_of_ble_eq_true rfl) hd (fun H1 locs1 hP hD hS => kk H1 locs1 ⟨hP, hD, hS⟩)
theorem p_Mo_53 {v : Int32} (hx : p.tables.exec = Jvm.exec) (hb : c.code = cc) (hts : ∀ w ∈ WS, w.before args s = true) (hown : s.vm.findClass "NestedCoreModel" = some m.cls) (hK : va_K D clS (tyS cI cZ) s) (S : St D (wM cI cZ a) A s σ H locs) (hd : decode cc pc = .ok (.putfield 53, 3)) (kk : ∀ (H : Heap) (locs : List Loc), St D (wM cI cZ a) A s (up2 σ 8 0 (v)) H locs → W p l e R s m args below meth c H locs cells slots Q (F0 m (pc + 3) ls rest)) : W p l e R s m args below meth c H locs cells slots Q (F0 m pc ls (.int (v) :: .ref (a 0) :: rest)) :=
  va_put (D := D) (ci := 6) (v := .int (v)) (ty := .int) (C := "NestedCoreModel") (T := F_Mo) (N := 26) hx hb hts in_Mo t_Mo t_Mo_ok n_Mo hown hK S.1 S.2.1 S.2.2 0 rfl rfl 11 (by decide) (hts _ k_74) (fun _ h => h) rfl (by decide +kernel) rfl rfl (Nat.le_of_ble_eq_true rfl) hd (fun H1 locs1 hP hD hS => kk H1 locs1 ⟨hP, hD, hS⟩)
theorem p_Mo_60 {v : Int32} (hx : p.tables.exec = Jvm.exec) (hb : c.code = cc) (hts : ∀ w ∈ WS, w.before args s = true) (hown : s.vm.findClass "NestedCoreModel" = some m.cls) (hK : va_K D clS (tyS cI cZ) s) (S : St D (wM cI cZ a) A s σ H locs) (hd : decode cc pc = .ok (.putfield 60, 3)) (kk : ∀ (H : Heap) (locs : List Loc), St D (wM cI cZ a) A s (up2 σ 8 1 (v)) H locs → W p l e R s m args below meth c H locs cells slots Q (F0 m (pc + 3) ls rest)) : W p l e R s m args below meth c H locs cells slots Q (F0 m pc ls (.int (v) :: .ref (a 0) :: rest)) :=
  va_put (D := D) (ci := 6) (v := .int (v)) (ty := .int) (C := "NestedCoreModel") (T := F_Mo) (N := 26) hx hb hts in_Mo t_Mo t_Mo_ok n_Mo hown hK S.1 S.2.1 S.2.2 0 rfl rfl 12 (by decide) (hts _ k_75) (fun _ h => h) rfl (by decide +kernel) rfl rfl (Nat.le_of_ble_eq_true rfl) hd (fun H1 locs1 hP hD hS => kk H1 locs1 ⟨hP, hD, hS⟩)
theorem p_Mo_63 {b : Bool} (hx : p.tables.exec = Jvm.exec) (hb : c.code = cc) (hts : ∀ w ∈ WS, w.before args s = true) (hown : s.vm.findClass "NestedCoreModel" = some m.cls) (hK : va_K D clS (tyS cI cZ) s) (S : St D (wM cI cZ a) A s σ H locs) (hd : decode cc pc = .ok (.putfield 63, 3)) (kk : ∀ (H : Heap) (locs : List Loc), St D (wM cI cZ a) A s (up2 σ 8 2 (bI b)) H locs → W p l e R s m args below meth c H locs cells slots Q (F0 m (pc + 3) ls rest)) : W p l e R s m args below meth c H locs cells slots Q (F0 m pc ls (.int (bI b) :: .ref (a 0) :: rest)) :=
  va_put (D := D) (ci := 6) (v := .int (bI b)) (ty := .boolean) (C := "NestedCoreModel") (T := F_Mo) (N := 26) hx hb hts in_Mo t_Mo t_Mo_ok n_Mo hown hK S.1 S.2.1 S.2.2 0 rfl rfl 13 (by decide) (hts _ k_76) (fun _ h => h) rfl (by decide +kernel) (bI_narrow b) (bI_fits b) (Nat.le_of_ble_eq_true rfl) hd (fun H1 locs1 hP hD hS => kk H1 locs1 ⟨hP, hD, hS⟩)
theorem p_Mo_67 {b : Bool} (hx : p.tables.exec = Jvm.exec) (hb : c.code = cc) (hts : ∀ w ∈ WS, w.before args s = true) (hown : s.vm.findClass "NestedCoreModel" = some m.cls) (hK : va_K D clS (tyS cI cZ) s) (S : St D (wM cI cZ a) A s σ H locs) (hd : decode cc pc = .ok (.putfield 67, 3)) (kk : ∀ (H : Heap) (locs : List Loc), St D (wM cI cZ a) A s (up2 σ 8 3 (bI b)) H locs → W p l e R s m args below meth c H locs cells slots Q (F0 m (pc + 3) ls rest)) : W p l e R s m args below meth c H locs cells slots Q (F0 m pc ls (.int (bI b) :: .ref (a 0) :: rest)) :=
  va_put (D := D) (ci := 6) (v := .int (bI b)) (ty := .boolean) (C := "NestedCoreModel") (T := F_Mo) (N := 26) hx hb hts in_Mo t_Mo t_Mo_ok n_Mo hown hK S.1 S.2.1 S.2.2 0 rfl rfl 14 (by decide) (hts _ k_77) (fun _ h => h) rfl (by decide +kernel) (bI_narrow b) (bI_fits b) (Nat.le_of_ble_eq_true rfl) hd (fun H1 locs1 hP hD hS => kk H1 locs1 ⟨hP, hD, hS⟩)
theorem p_Mo_74 {v : Int32} (hx : p.tables.exec = Jvm.exec) (hb : c.code = cc) (hts : ∀ w ∈ WS, w.before args s = true) (hown : s.vm.findClass "NestedCoreModel" = some m.cls) (hK : va_K D clS (tyS cI cZ) s) (S : St D (wM cI cZ a) A s σ H locs) (hd : decode cc pc = .ok (.putfield 74, 3)) (kk : ∀ (H : Heap) (locs : List Loc), St D (wM cI cZ a) A s (up2 σ 8 10 (v)) H locs → W p l e R s m args below meth c H locs cells slots Q (F0 m (pc + 3) ls rest)) : W p l e R s m args below meth c H locs cells slots Q (F0 m pc ls (.int (v) :: .ref (a 0) :: rest)) :=
  va_put (D := D) (ci := 6) (v := .int (v)) (ty := .int) (C := "NestedCoreModel") (T := F_Mo) (N := 26) hx hb hts in_Mo t_Mo t_Mo_ok n_Mo hown hK S.1 S.2.1 S.2.2 0 rfl rfl 17 (by decide) (hts _ k_79) (fun _ h => h) rfl (by decide +kernel) rfl rfl (Nat.le_of_ble_eq_true rfl) hd (fun H1 locs1 hP hD hS => kk H1 locs1 ⟨hP, hD, hS⟩)
theorem p_Mo_80 {b : Bool} (hx : p.tables.exec = Jvm.exec) (hb : c.code = cc) (hts : ∀ w ∈ WS, w.before args s = true) (hown : s.vm.findClass "NestedCoreModel" = some m.cls) (hK : va_K D clS (tyS cI cZ) s) (S : St D (wM cI cZ a) A s σ H locs) (hd : decode cc pc = .ok (.putfield 80, 3)) (kk : ∀ (H : Heap) (locs : List Loc), St D (wM cI cZ a) A s (up2 σ 8 4 (bI b)) H locs → W p l e R s m args below meth c H locs cells slots Q (F0 m (pc + 3) ls rest)) : W p l e R s m args below meth c H locs cells slots Q (F0 m pc ls (.int (bI b) :: .ref (a 0) :: rest)) :=
  va_put (D := D) (ci := 6) (v := .int (bI b)) (ty := .boolean) (C := "NestedCoreModel") (T := F_Mo) (N := 26) hx hb hts in_Mo t_Mo t_Mo_ok n_Mo hown hK S.1 S.2.1 S.2.2 0 rfl rfl 3 (by decide) (hts _ k_80) (fun _ h => h) rfl (by decide +kernel) (bI_narrow b) (bI_fits b) (Nat.le_of_ble_eq_true rfl) hd (fun H1 locs1 hP hD hS => kk H1 locs1 ⟨hP, hD, hS⟩)
theorem p_Mo_84 {b : Bool} (hx : p.tables.exec = Jvm.exec) (hb : c.code = cc) (hts : ∀ w ∈ WS, w.before args s = true) (hown : s.vm.findClass "NestedCoreModel" = some m.cls) (hK : va_K D clS (tyS cI cZ) s) (S : St D (wM cI cZ a) A s σ H locs) (hd : decode cc pc = .ok (.putfield 84, 3)) (kk : ∀ (H : Heap) (locs : List Loc), St D (wM cI cZ a) A s (up2 σ 8 5 (bI b)) H locs → W p l e R s m args below meth c H locs cells slots Q (F0 m (pc + 3) ls rest)) : W p l e R s m args below meth c H locs cells slots Q (F0 m pc ls (.int (bI b) :: .ref (a 0) :: rest)) :=
  va_put (D := D) (ci := 6) (v := .int (bI b)) (ty := .boolean) (C := "NestedCoreModel") (T := F_Mo) (N := 26) hx hb hts in_Mo t_Mo t_Mo_ok n_Mo hown hK S.1 S.2.1 S.2.2 0 rfl rfl 4 (by decide) (hts _ k_81) (fun _ h => h) rfl (by decide +kernel) (bI_narrow b) (bI_fits b) (Nat.le_of_ble_eq_true rfl) hd (fun H1 locs1 hP hD hS => kk H1 locs1 ⟨hP, hD, hS⟩)
theorem p_Mo_88 {b : Bool} (hx : p.tables.exec = Jvm.exec) (hb : c.code = cc) (hts : ∀ w ∈ WS, w.before args s = true) (hown : s.vm.findClass "NestedCoreModel" = some m.cls) (hK : va_K D clS (tyS cI cZ) s) (S : St D (wM cI cZ a) A s σ H locs) (hd : decode cc pc = .ok (.putfield 88, 3)) (kk : ∀ (H : Heap) (locs : List Loc), St D (wM cI cZ a) A s (up2 σ 8 6 (bI b)) H locs → W p l e R s m args below meth c H locs cells slots Q (F0 m (pc + 3) ls rest)) : W p l e R s m args below meth c H locs cells slots Q (F0 m pc ls (.int (bI b) :: .ref (a 0) :: rest)) :=
  va_put (D := D) (ci := 6) (v := .int (bI b)) (ty := .boolean) (C := "NestedCoreModel") (T := F_Mo) (N := 26) hx hb hts in_Mo t_Mo t_Mo_ok n_Mo hown hK S.1 S.2.1 S.2.2 0 rfl rfl 5 (by decide) (hts _ k_82) (fun _ h => h) rfl (by decide +kernel) (bI_narrow b) (bI_fits b) (Nat.le_of_ble_eq_true rfl) hd (fun H1 locs1 hP hD hS => kk H1 locs1 ⟨hP, hD, hS⟩)
theorem p_Mo_92 {b : Bool} (hx : p.tables.exec = Jvm.exec) (hb : c.code = cc) (hts : ∀ w ∈ WS, w.before args s = true) (hown : s.vm.findClass "NestedCoreModel" = some m.cls) (hK : va_K D clS (tyS cI cZ) s) (S : St D (wM cI cZ a) A s σ H locs) (hd : decode cc pc = .ok (.putfield 92, 3)) (kk : ∀ (H : Heap) (locs : List Loc), St D (wM cI cZ a) A s (up2 σ 8 7 (bI b)) H locs → W p l e R s m args below meth c H locs cells slots Q (F0 m (pc + 3) ls rest)) : W p l e R s m args below meth c H locs cells slots Q (F0 m pc ls (.int (bI b) :: .ref (a 0) :: rest)) :=
  va_put (D := D) (ci := 6) (v := .int (bI b)) (ty := .boolean) (C := "NestedCoreModel") (T := F_Mo) (N := 26) hx hb hts in_Mo t_Mo t_Mo_ok n_Mo hown hK S.1 S.2.1 S.2.2 0 rfl rfl 6 (by decide) (hts _ k_83) (fun _ h => h) rfl (by decide +kernel) (bI_narrow b) (bI_fits b) (Nat.le_of_ble_eq_true rfl) hd (fun H1 locs1 hP hD hS => kk H1 locs1 ⟨hP, hD, hS⟩)
theorem p_Mo_99 {v : Int32} (hx : p.tables.exec = Jvm.exec) (hb : c.code = cc) (hts : ∀ w ∈ WS, w.before args s = true) (hown : s.vm.findClass "NestedCoreModel" = some m.cls) (hK : va_K D clS (tyS cI cZ) s) (S : St D (wM cI cZ a) A s σ H locs) (hd : decode cc pc = .ok (.putfield 99, 3)) (kk : ∀ (H : Heap) (locs : List Loc), St D (wM cI cZ a) A s (up2 σ 8 11 (v)) H locs → W p l e R s m args below meth c H locs cells slots Q (F0 m (pc + 3) ls rest)) : W p l e R s m args below meth c H locs cells slots Q (F0 m pc ls (.int (v) :: .ref (a 0) :: rest)) :=
  va_put (D := D) (ci := 6) (v := .int (v)) (ty := .int) (C := "NestedCoreModel") (T := F_Mo) (N := 26) hx hb hts in_Mo t_Mo t_Mo_ok n_Mo hown hK S.1 S.2.1 S.2.2 0 rfl rfl 18 (by decide) (hts _ k_84) (fun _ h => h) rfl (by decide +kernel) rfl rfl (Nat.le_of_ble_eq_true rfl) hd (fun H1 locs1 hP hD hS => kk H1 locs1 ⟨hP, hD, hS⟩)
theorem ld_C_1 {i : Int32} {k : Nat} (hx : p.tables.exec = Jvm.exec) (hb : c.code = cc) (hK : va_K D clS (tyS cI cZ) s) (hP : va_P D clS (wC cI cZ a σ) H) (hin : vp_in i 16) (hk : i.toNatClampNeg = k) (hd : decode cc pc = .ok (.iaload, 1)) (kk : W p l e R s m args below meth c H locs cells slots Q (F0 m (pc + 1) ls (.int (σ 0 k) :: rest))) : W p l e R s m args below meth c H locs cells slots Q (F0 m pc ls (.int i :: .ref (a 1) :: rest)) := by
  subst hk
  exact va_iald hx hb hK hP 1 0 rfl rfl hin hd kk
theorem st_C_1 {i : Int32} {k : Nat} {v : Int32} (hx : p.tables.exec = Jvm.exec) (hb : c.code = cc) (hK : va_K D clS (tyS cI cZ) s) (S : St D (wC cI cZ a) A s σ H locs) (hin : vp_in i 16) (hk : i.toNatClampNeg = k) (hd : decode cc pc = .ok (.iastore, 1)) (kk : ∀ (H : Heap) (locs : List Loc), St D (wC cI cZ a) A s (up2 σ 0 k (v)) H locs → W p l e R s m args below meth c H locs cells slots Q (F0 m (pc + 1) ls rest)) : W p l e R s m args below meth c H locs cells slots Q (F0 m pc ls (.int (v) :: .int i :: .ref (a 1) :: rest)) := by
  subst hk
  exact va_iast hx hb hK S.1 S.2.1 S.2.2 1 0 rfl rfl hin hd (fun H1 locs1 hP hD hS => kk H1 locs1 ⟨hP, hD, hS⟩)
theorem ld_C_4 {i : Int32} {k : Nat} (hx : p.tables.exec = Jvm.exec) (hb : c.code = cc) (hK : va_K D clS (tyS cI cZ) s) (hP : va_P D clS (wC cI cZ a σ) H) (hin : vp_in i 256) (hk : i.toNatClampNeg = k) (hd : decode cc pc = .ok (.iaload, 1)) (kk : W p l e R s m args below meth c H locs cells slots Q (F0 m (pc + 1) ls (.int (σ 9 k) :: rest))) : W p l e R s m args below meth c H locs cells slots Q (F0 m pc ls (.int i :: .ref (a 4) :: rest)) := by
  subst hk
  exact va_iald hx hb hK hP 4 0 rfl rfl hin hd kk
theorem st_C_4 {i : Int32} {k : Nat} {v : Int32} (hx : p.tables.exec = Jvm.exec) (hb : c.code = cc) (hK : va_K D clS (tyS cI cZ) s) (S : St D (wC cI cZ a) A s σ H locs) (hin : vp_in i 256) (hk : i.toNatClampNeg = k) (hd : decode cc pc = .ok (.iastore, 1)) (kk : ∀ (H : Heap) (locs : List Loc), St D (wC cI cZ a) A s (up2 σ 9 k (v)) H locs → W p l e R s m args below meth c H locs cells slots Q (F0 m (pc + 1) ls rest)) : W p l e R s m args below meth c H locs cells slots Q (F0 m pc ls (.int (v) :: .int i :: .ref (a 4) :: rest)) := by
  subst hk
  exact va_iast hx hb hK S.1 S.2.1 S.2.2 4 0 rfl rfl hin hd (fun H1 locs1 hP hD hS => kk H1 locs1 ⟨hP, hD, hS⟩)
theorem ld_C_6 {i : Int32} {k : Nat} (hx : p.tables.exec = Jvm.exec) (hb : c.code = cc) (hK : va_K D clS (tyS cI cZ) s) (hP : va_P D clS (wC cI cZ a σ) H) (hin : vp_in i 4) (hk : i.toNatClampNeg = k) (hd : decode cc pc = .ok (.iaload, 1)) (kk : W p l e R s m args below meth c H locs cells slots Q (F0 m (pc + 1) ls (.int (σ 5 k) :: rest))) : W p l e R s m args below meth c H locs cells slots Q (F0 m pc ls (.int i :: .ref (a 6) :: rest)) := by
  subst hk
  exact va_iald hx hb hK hP 6 0 rfl rfl hin hd kk
theorem st_C_6 {i : Int32} {k : Nat} {v : Int32} (hx : p.tables.exec = Jvm.exec) (hb : c.code = cc) (hK : va_K D clS (tyS cI cZ) s) (S : St D (wC cI cZ a) A s σ H locs) (hin : vp_in i 4) (hk : i.toNatClampNeg = k) (hd : decode cc pc = .ok (.iastore, 1)) (kk : ∀ (H : Heap) (locs : List Loc), St D (wC cI cZ a) A s (up2 σ 5 k (v)) H locs → W p l e R s m args below meth c H locs cells slots Q (F0 m (pc + 1) ls rest)) : W p l e R s m args below meth c H locs cells slots Q (F0 m pc ls (.int (v) :: .int i :: .ref (a 6) :: rest)) := by
  subst hk
  exact va_iast hx hb hK S.1 S.2.1 S.2.2 6 0 rfl rfl hin hd (fun H1 locs1 hP hD hS => kk H1 locs1 ⟨hP, hD, hS⟩)
theorem ld_C_7 {i : Int32} {k : Nat} (hx : p.tables.exec = Jvm.exec) (hb : c.code = cc) (hK : va_K D clS (tyS cI cZ) s) (hP : va_P D clS (wC cI cZ a σ) H) (hin : vp_in i 4) (hk : i.toNatClampNeg = k) (hd : decode cc pc = .ok (.iaload, 1)) (kk : W p l e R s m args below meth c H locs cells slots Q (F0 m (pc + 1) ls (.int (σ 10 k) :: rest))) : W p l e R s m args below meth c H locs cells slots Q (F0 m pc ls (.int i :: .ref (a 7) :: rest)) := by
  subst hk
  exact va_iald hx hb hK hP 7 0 rfl rfl hin hd kk
theorem st_C_7 {i : Int32} {k : Nat} {v : Int32} (hx : p.tables.exec = Jvm.exec) (hb : c.code = cc) (hK : va_K D clS (tyS cI cZ) s) (S : St D (wC cI cZ a) A s σ H locs) (hin : vp_in i 4) (hk : i.toNatClampNeg = k) (hd : decode cc pc = .ok (.iastore, 1)) (kk : ∀ (H : Heap) (locs : List Loc), St D (wC cI cZ a) A s (up2 σ 10 k (v)) H locs → W p l e R s m args below meth c H locs cells slots Q (F0 m (pc + 1) ls rest)) : W p l e R s m args below meth c H locs cells slots Q (F0 m pc ls (.int (v) :: .int i :: .ref (a 7) :: rest)) := by
  subst hk
  exact va_iast hx hb hK S.1 S.2.1 S.2.2 7 0 rfl rfl hin hd (fun H1 locs1 hP hD hS => kk H1 locs1 ⟨hP, hD, hS⟩)
theorem ld_C_8 {i : Int32} {k : Nat} (hx : p.tables.exec = Jvm.exec) (hb : c.code = cc) (hK : va_K D clS (tyS cI cZ) s) (hP : va_P D clS (wC cI cZ a σ) H) (hin : vp_in i 4) (hk : i.toNatClampNeg = k) (hd : decode cc pc = .ok (.iaload, 1)) (kk : W p l e R s m args below meth c H locs cells slots Q (F0 m (pc + 1) ls (.int (σ 6 k) :: rest))) : W p l e R s m args below meth c H locs cells slots Q (F0 m pc ls (.int i :: .ref (a 8) :: rest)) := by
  subst hk
  exact va_iald hx hb hK hP 8 0 rfl rfl hin hd kk
theorem st_C_8 {i : Int32} {k : Nat} {v : Int32} (hx : p.tables.exec = Jvm.exec) (hb : c.code = cc) (hK : va_K D clS (tyS cI cZ) s) (S : St D (wC cI cZ a) A s σ H locs) (hin : vp_in i 4) (hk : i.toNatClampNeg = k) (hd : decode cc pc = .ok (.iastore, 1)) (kk : ∀ (H : Heap) (locs : List Loc), St D (wC cI cZ a) A s (up2 σ 6 k (v)) H locs → W p l e R s m args below meth c H locs cells slots Q (F0 m (pc + 1) ls rest)) : W p l e R s m args below meth c H locs cells slots Q (F0 m pc ls (.int (v) :: .int i :: .ref (a 8) :: rest)) := by
  subst hk
  exact va_iast hx hb hK S.1 S.2.1 S.2.2 8 0 rfl rfl hin hd (fun H1 locs1 hP hD hS => kk H1 locs1 ⟨hP, hD, hS⟩)
theorem ld_C_9 {i : Int32} {k : Nat} (hx : p.tables.exec = Jvm.exec) (hb : c.code = cc) (hK : va_K D clS (tyS cI cZ) s) (hP : va_P D clS (wC cI cZ a σ) H) (hin : vp_in i 4) (hk : i.toNatClampNeg = k) (hd : decode cc pc = .ok (.baload, 1)) (kk : W p l e R s m args below meth c H locs cells slots Q (F0 m (pc + 1) ls (.int (σ 7 k) :: rest))) : W p l e R s m args below meth c H locs cells slots Q (F0 m pc ls (.int i :: .ref (a 9) :: rest)) := by
  subst hk
  exact va_zald hx hb hK hP 9 1 rfl rfl hin hd kk
theorem st_C_9 {i : Int32} {k : Nat} {b : Bool} (hx : p.tables.exec = Jvm.exec) (hb : c.code = cc) (hK : va_K D clS (tyS cI cZ) s) (S : St D (wC cI cZ a) A s σ H locs) (hin : vp_in i 4) (hk : i.toNatClampNeg = k) (hd : decode cc pc = .ok (.bastore, 1)) (kk : ∀ (H : Heap) (locs : List Loc), St D (wC cI cZ a) A s (up2 σ 7 k (bI b)) H locs → W p l e R s m args below meth c H locs cells slots Q (F0 m (pc + 1) ls rest)) : W p l e R s m args below meth c H locs cells slots Q (F0 m pc ls (.int (bI b) :: .int i :: .ref (a 9) :: rest)) := by
  subst hk
  exact va_zast hx hb hK S.1 S.2.1 S.2.2 9 1 rfl rfl hin hd (fun H1 locs1 hP hD hS => by rw [bI_nar] at hP hD; exact kk H1 locs1 ⟨hP, hD, hS⟩)
theorem ld_C_11 {i : Int32} {k : Nat} (hx : p.tables.exec = Jvm.exec) (hb : c.code = cc) (hK : va_K D clS (tyS cI cZ) s) (hP : va_P D clS (wC cI cZ a σ) H) (hin : vp_in i 16) (hk : i.toNatClampNeg = k) (hd : decode cc pc = .ok (.baload, 1)) (kk : W p l e R s m args below meth c H locs cells slots Q (F0 m (pc + 1) ls (.int (σ 1 k) :: rest))) : W p l e R s m args below meth c H locs cells slots Q (F0 m pc ls (.int i :: .ref (a 11) :: rest)) := by
  subst hk
  exact va_zald hx hb hK hP 11 1 rfl rfl hin hd kk
theorem st_C_11 {i : Int32} {k : Nat} {b : Bool} (hx : p.tables.exec = Jvm.exec) (hb : c.code = cc) (hK : va_K D clS (tyS cI cZ) s) (S : St D (wC cI cZ a) A s σ H locs) (hin : vp_in i 16) (hk : i.toNatClampNeg = k) (hd : decode cc pc = .ok (.bastore, 1)) (kk : ∀ (H : Heap) (locs : List Loc), St D (wC cI cZ a) A s (up2 σ 1 k (bI b)) H locs → W p l e R s m args below meth c H locs cells slots Q (F0 m (pc + 1) ls rest)) : W p l e R s m args below meth c H locs cells slots Q (F0 m pc ls (.int (bI b) :: .int i :: .ref (a 11) :: rest)) := by
  subst hk
  exact va_zast hx hb hK S.1 S.2.1 S.2.2 11 1 rfl rfl hin hd (fun H1 locs1 hP hD hS => by rw [bI_nar] at hP hD; exact kk H1 locs1 ⟨hP, hD, hS⟩)
theorem ld_C_12 {i : Int32} {k : Nat} (hx : p.tables.exec = Jvm.exec) (hb : c.code = cc) (hK : va_K D clS (tyS cI cZ) s) (hP : va_P D clS (wC cI cZ a σ) H) (hin : vp_in i 16) (hk : i.toNatClampNeg = k) (hd : decode cc pc = .ok (.baload, 1)) (kk : W p l e R s m args below meth c H locs cells slots Q (F0 m (pc + 1) ls (.int (σ 2 k) :: rest))) : W p l e R s m args below meth c H locs cells slots Q (F0 m pc ls (.int i :: .ref (a 12) :: rest)) := by
  subst hk
  exact va_zald hx hb hK hP 12 1 rfl rfl hin hd kk
theorem st_C_12 {i : Int32} {k : Nat} {b : Bool} (hx : p.tables.exec = Jvm.exec) (hb : c.code = cc) (hK : va_K D clS (tyS cI cZ) s) (S : St D (wC cI cZ a) A s σ H locs) (hin : vp_in i 16) (hk : i.toNatClampNeg = k) (hd : decode cc pc = .ok (.bastore, 1)) (kk : ∀ (H : Heap) (locs : List Loc), St D (wC cI cZ a) A s (up2 σ 2 k (bI b)) H locs → W p l e R s m args below meth c H locs cells slots Q (F0 m (pc + 1) ls rest)) : W p l e R s m args below meth c H locs cells slots Q (F0 m pc ls (.int (bI b) :: .int i :: .ref (a 12) :: rest)) := by
  subst hk
  exact va_zast hx hb hK S.1 S.2.1 S.2.2 12 1 rfl rfl hin hd (fun H1 locs1 hP hD hS => by rw [bI_nar] at hP hD; exact kk H1 locs1 ⟨hP, hD, hS⟩)
theorem ld_C_13 {i : Int32} {k : Nat} (hx : p.tables.exec = Jvm.exec) (hb : c.code = cc) (hK : va_K D clS (tyS cI cZ) s) (hP : va_P D clS (wC cI cZ a σ) H) (hin : vp_in i 16) (hk : i.toNatClampNeg = k) (hd : decode cc pc = .ok (.baload, 1)) (kk : W p l e R s m args below meth c H locs cells slots Q (F0 m (pc + 1) ls (.int (σ 3 k) :: rest))) : W p l e R s m args below meth c H locs cells slots Q (F0 m pc ls (.int i :: .ref (a 13) :: rest)) := by
  subst hk
  exact va_zald hx hb hK hP 13 1 rfl rfl hin hd kk
theorem st_C_13 {i : Int32} {k : Nat} {b : Bool} (hx : p.tables.exec = Jvm.exec) (hb : c.code = cc) (hK : va_K D clS (tyS cI cZ) s) (S : St D (wC cI cZ a) A s σ H locs) (hin : vp_in i 16) (hk : i.toNatClampNeg = k) (hd : decode cc pc = .ok (.bastore, 1)) (kk : ∀ (H : Heap) (locs : List Loc), St D (wC cI cZ a) A s (up2 σ 3 k (bI b)) H locs → W p l e R s m args below meth c H locs cells slots Q (F0 m (pc + 1) ls rest)) : W p l e R s m args below meth c H locs cells slots Q (F0 m pc ls (.int (bI b) :: .int i :: .ref (a 13) :: rest)) := by
  subst hk
  exact va_zast hx hb hK S.1 S.2.1 S.2.2 13 1 rfl rfl hin hd (fun H1 locs1 hP hD hS => by rw [bI_nar] at hP hD; exact kk H1 locs1 ⟨hP, hD, hS⟩)
theorem ld_C_14 {i : Int32} {k : Nat} (hx : p.tables.exec = Jvm.exec) (hb : c.code = cc) (hK : va_K D clS (tyS cI cZ) s) (hP : va_P D clS (wC cI cZ a σ) H) (hin : vp_in i 16) (hk : i.toNatClampNeg = k) (hd : decode cc pc = .ok (.iaload, 1)) (kk : W p l e R s m args below meth c H locs cells slots Q (F0 m (pc + 1) ls (.int (σ 4 k) :: rest))) : W p l e R s m args below meth c H locs cells slots Q (F0 m pc ls (.int i :: .ref (a 14) :: rest)) := by
  subst hk
  exact va_iald hx hb hK hP 14 0 rfl rfl hin hd kk
theorem st_C_14 {i : Int32} {k : Nat} {v : Int32} (hx : p.tables.exec = Jvm.exec) (hb : c.code = cc) (hK : va_K D clS (tyS cI cZ) s) (S : St D (wC cI cZ a) A s σ H locs) (hin : vp_in i 16) (hk : i.toNatClampNeg = k) (hd : decode cc pc = .ok (.iastore, 1)) (kk : ∀ (H : Heap) (locs : List Loc), St D (wC cI cZ a) A s (up2 σ 4 k (v)) H locs → W p l e R s m args below meth c H locs cells slots Q (F0 m (pc + 1) ls rest)) : W p l e R s m args below meth c H locs cells slots Q (F0 m pc ls (.int (v) :: .int i :: .ref (a 14) :: rest)) := by
  subst hk
  exact va_iast hx hb hK S.1 S.2.1 S.2.2 14 0 rfl rfl hin hd (fun H1 locs1 hP hD hS => kk H1 locs1 ⟨hP, hD, hS⟩)
theorem ld_M_1 {i : Int32} {k : Nat} (hx : p.tables.exec = Jvm.exec) (hb : c.code = cc) (hK : va_K D clS (tyS cI cZ) s) (hP : va_P D clS (wM cI cZ a σ) H) (hin : vp_in i 1024) (hk : i.toNatClampNeg = k) (hd : decode cc pc = .ok (.iaload, 1)) (kk : W p l e R s m args below meth c H locs cells slots Q (F0 m (pc + 1) ls (.int (σ 9 k) :: rest))) : W p l e R s m args below meth c H locs cells slots Q (F0 m pc ls (.int i :: .ref (a 1) :: rest)) := by
  subst hk
  exact va_iald hx hb hK hP 1 0 rfl rfl hin hd kk
theorem st_M_1 {i : Int32} {k : Nat} {v : Int32} (hx : p.tables.exec = Jvm.exec) (hb : c.code = cc) (hK : va_K D clS (tyS cI cZ) s) (S : St D (wM cI cZ a) A s σ H locs) (hin : vp_in i 1024) (hk : i.toNatClampNeg = k) (hd : decode cc pc = .ok (.iastore, 1)) (kk : ∀ (H : Heap) (locs : List Loc), St D (wM cI cZ a) A s (up2 σ 9 k (v)) H locs → W p l e R s m args below meth c H locs cells slots Q (F0 m (pc + 1) ls rest)) : W p l e R s m args below meth c H locs cells slots Q (F0 m pc ls (.int (v) :: .int i :: .ref (a 1) :: rest)) := by
  subst hk
  exact va_iast hx hb hK S.1 S.2.1 S.2.2 1 0 rfl rfl hin hd (fun H1 locs1 hP hD hS => kk H1 locs1 ⟨hP, hD, hS⟩)
theorem ld_M_2 {i : Int32} {k : Nat} (hx : p.tables.exec = Jvm.exec) (hb : c.code = cc) (hK : va_K D clS (tyS cI cZ) s) (hP : va_P D clS (wM cI cZ a σ) H) (hin : vp_in i 16) (hk : i.toNatClampNeg = k) (hd : decode cc pc = .ok (.iaload, 1)) (kk : W p l e R s m args below meth c H locs cells slots Q (F0 m (pc + 1) ls (.int (σ 0 k) :: rest))) : W p l e R s m args below meth c H locs cells slots Q (F0 m pc ls (.int i :: .ref (a 2) :: rest)) := by
  subst hk
  exact va_iald hx hb hK hP 2 0 rfl rfl hin hd kk
theorem st_M_2 {i : Int32} {k : Nat} {v : Int32} (hx : p.tables.exec = Jvm.exec) (hb : c.code = cc) (hK : va_K D clS (tyS cI cZ) s) (S : St D (wM cI cZ a) A s σ H locs) (hin : vp_in i 16) (hk : i.toNatClampNeg = k) (hd : decode cc pc = .ok (.iastore, 1)) (kk : ∀ (H : Heap) (locs : List Loc), St D (wM cI cZ a) A s (up2 σ 0 k (v)) H locs → W p l e R s m args below meth c H locs cells slots Q (F0 m (pc + 1) ls rest)) : W p l e R s m args below meth c H locs cells slots Q (F0 m pc ls (.int (v) :: .int i :: .ref (a 2) :: rest)) := by
  subst hk
  exact va_iast hx hb hK S.1 S.2.1 S.2.2 2 0 rfl rfl hin hd (fun H1 locs1 hP hD hS => kk H1 locs1 ⟨hP, hD, hS⟩)
theorem ld_M_3 {i : Int32} {k : Nat} (hx : p.tables.exec = Jvm.exec) (hb : c.code = cc) (hK : va_K D clS (tyS cI cZ) s) (hP : va_P D clS (wM cI cZ a σ) H) (hin : vp_in i 16) (hk : i.toNatClampNeg = k) (hd : decode cc pc = .ok (.iaload, 1)) (kk : W p l e R s m args below meth c H locs cells slots Q (F0 m (pc + 1) ls (.int (σ 4 k) :: rest))) : W p l e R s m args below meth c H locs cells slots Q (F0 m pc ls (.int i :: .ref (a 3) :: rest)) := by
  subst hk
  exact va_iald hx hb hK hP 3 0 rfl rfl hin hd kk
theorem st_M_3 {i : Int32} {k : Nat} {v : Int32} (hx : p.tables.exec = Jvm.exec) (hb : c.code = cc) (hK : va_K D clS (tyS cI cZ) s) (S : St D (wM cI cZ a) A s σ H locs) (hin : vp_in i 16) (hk : i.toNatClampNeg = k) (hd : decode cc pc = .ok (.iastore, 1)) (kk : ∀ (H : Heap) (locs : List Loc), St D (wM cI cZ a) A s (up2 σ 4 k (v)) H locs → W p l e R s m args below meth c H locs cells slots Q (F0 m (pc + 1) ls rest)) : W p l e R s m args below meth c H locs cells slots Q (F0 m pc ls (.int (v) :: .int i :: .ref (a 3) :: rest)) := by
  subst hk
  exact va_iast hx hb hK S.1 S.2.1 S.2.2 3 0 rfl rfl hin hd (fun H1 locs1 hP hD hS => kk H1 locs1 ⟨hP, hD, hS⟩)
theorem ld_M_4 {i : Int32} {k : Nat} (hx : p.tables.exec = Jvm.exec) (hb : c.code = cc) (hK : va_K D clS (tyS cI cZ) s) (hP : va_P D clS (wM cI cZ a σ) H) (hin : vp_in i 16) (hk : i.toNatClampNeg = k) (hd : decode cc pc = .ok (.baload, 1)) (kk : W p l e R s m args below meth c H locs cells slots Q (F0 m (pc + 1) ls (.int (σ 1 k) :: rest))) : W p l e R s m args below meth c H locs cells slots Q (F0 m pc ls (.int i :: .ref (a 4) :: rest)) := by
  subst hk
  exact va_zald hx hb hK hP 4 1 rfl rfl hin hd kk
theorem st_M_4 {i : Int32} {k : Nat} {b : Bool} (hx : p.tables.exec = Jvm.exec) (hb : c.code = cc) (hK : va_K D clS (tyS cI cZ) s) (S : St D (wM cI cZ a) A s σ H locs) (hin : vp_in i 16) (hk : i.toNatClampNeg = k) (hd : decode cc pc = .ok (.bastore, 1)) (kk : ∀ (H : Heap) (locs : List Loc), St D (wM cI cZ a) A s (up2 σ 1 k (bI b)) H locs → W p l e R s m args below meth c H locs cells slots Q (F0 m (pc + 1) ls rest)) : W p l e R s m args below meth c H locs cells slots Q (F0 m pc ls (.int (bI b) :: .int i :: .ref (a 4) :: rest)) := by
  subst hk
  exact va_zast hx hb hK S.1 S.2.1 S.2.2 4 1 rfl rfl hin hd (fun H1 locs1 hP hD hS => by rw [bI_nar] at hP hD; exact kk H1 locs1 ⟨hP, hD, hS⟩)
theorem ld_M_5 {i : Int32} {k : Nat} (hx : p.tables.exec = Jvm.exec) (hb : c.code = cc) (hK : va_K D clS (tyS cI cZ) s) (hP : va_P D clS (wM cI cZ a σ) H) (hin : vp_in i 16) (hk : i.toNatClampNeg = k) (hd : decode cc pc = .ok (.baload, 1)) (kk : W p l e R s m args below meth c H locs cells slots Q (F0 m (pc + 1) ls (.int (σ 2 k) :: rest))) : W p l e R s m args below meth c H locs cells slots Q (F0 m pc ls (.int i :: .ref (a 5) :: rest)) := by
  subst hk
  exact va_zald hx hb hK hP 5 1 rfl rfl hin hd kk
theorem st_M_5 {i : Int32} {k : Nat} {b : Bool} (hx : p.tables.exec = Jvm.exec) (hb : c.code = cc) (hK : va_K D clS (tyS cI cZ) s) (S : St D (wM cI cZ a) A s σ H locs) (hin : vp_in i 16) (hk : i.toNatClampNeg = k) (hd : decode cc pc = .ok (.bastore, 1)) (kk : ∀ (H : Heap) (locs : List Loc), St D (wM cI cZ a) A s (up2 σ 2 k (bI b)) H locs → W p l e R s m args below meth c H locs cells slots Q (F0 m (pc + 1) ls rest)) : W p l e R s m args below meth c H locs cells slots Q (F0 m pc ls (.int (bI b) :: .int i :: .ref (a 5) :: rest)) := by
  subst hk
  exact va_zast hx hb hK S.1 S.2.1 S.2.2 5 1 rfl rfl hin hd (fun H1 locs1 hP hD hS => by rw [bI_nar] at hP hD; exact kk H1 locs1 ⟨hP, hD, hS⟩)
theorem ld_M_6 {i : Int32} {k : Nat} (hx : p.tables.exec = Jvm.exec) (hb : c.code = cc) (hK : va_K D clS (tyS cI cZ) s) (hP : va_P D clS (wM cI cZ a σ) H) (hin : vp_in i 16) (hk : i.toNatClampNeg = k) (hd : decode cc pc = .ok (.baload, 1)) (kk : W p l e R s m args below meth c H locs cells slots Q (F0 m (pc + 1) ls (.int (σ 3 k) :: rest))) : W p l e R s m args below meth c H locs cells slots Q (F0 m pc ls (.int i :: .ref (a 6) :: rest)) := by
  subst hk
  exact va_zald hx hb hK hP 6 1 rfl rfl hin hd kk
theorem st_M_6 {i : Int32} {k : Nat} {b : Bool} (hx : p.tables.exec = Jvm.exec) (hb : c.code = cc) (hK : va_K D clS (tyS cI cZ) s) (S : St D (wM cI cZ a) A s σ H locs) (hin : vp_in i 16) (hk : i.toNatClampNeg = k) (hd : decode cc pc = .ok (.bastore, 1)) (kk : ∀ (H : Heap) (locs : List Loc), St D (wM cI cZ a) A s (up2 σ 3 k (bI b)) H locs → W p l e R s m args below meth c H locs cells slots Q (F0 m (pc + 1) ls rest)) : W p l e R s m args below meth c H locs cells slots Q (F0 m pc ls (.int (bI b) :: .int i :: .ref (a 6) :: rest)) := by
  subst hk
  exact va_zast hx hb hK S.1 S.2.1 S.2.2 6 1 rfl rfl hin hd (fun H1 locs1 hP hD hS => by rw [bI_nar] at hP hD; exact kk H1 locs1 ⟨hP, hD, hS⟩)
theorem ld_M_7 {i : Int32} {k : Nat} (hx : p.tables.exec = Jvm.exec) (hb : c.code = cc) (hK : va_K D clS (tyS cI cZ) s) (hP : va_P D clS (wM cI cZ a σ) H) (hin : vp_in i 4) (hk : i.toNatClampNeg = k) (hd : decode cc pc = .ok (.iaload, 1)) (kk : W p l e R s m args below meth c H locs cells slots Q (F0 m (pc + 1) ls (.int (σ 5 k) :: rest))) : W p l e R s m args below meth c H locs cells slots Q (F0 m pc ls (.int i :: .ref (a 7) :: rest)) := by
  subst hk
  exact va_iald hx hb hK hP 7 0 rfl rfl hin hd kk
theorem st_M_7 {i : Int32} {k : Nat} {v : Int32} (hx : p.tables.exec = Jvm.exec) (hb : c.code = cc) (hK : va_K D clS (tyS cI cZ) s) (S : St D (wM cI cZ a) A s σ H locs) (hin : vp_in i 4) (hk : i.toNatClampNeg = k) (hd : decode cc pc = .ok (.iastore, 1)) (kk : ∀ (H : Heap) (locs : List Loc), St D (wM cI cZ a) A s (up2 σ 5 k (v)) H locs → W p l e R s m args below meth c H locs cells slots Q (F0 m (pc + 1) ls rest)) : W p l e R s m args below meth c H locs cells slots Q (F0 m pc ls (.int (v) :: .int i :: .ref (a 7) :: rest)) := by
  subst hk
  exact va_iast hx hb hK S.1 S.2.1 S.2.2 7 0 rfl rfl hin hd (fun H1 locs1 hP hD hS => kk H1 locs1 ⟨hP, hD, hS⟩)
theorem ld_M_8 {i : Int32} {k : Nat} (hx : p.tables.exec = Jvm.exec) (hb : c.code = cc) (hK : va_K D clS (tyS cI cZ) s) (hP : va_P D clS (wM cI cZ a σ) H) (hin : vp_in i 4) (hk : i.toNatClampNeg = k) (hd : decode cc pc = .ok (.iaload, 1)) (kk : W p l e R s m args below meth c H locs cells slots Q (F0 m (pc + 1) ls (.int (σ 10 k) :: rest))) : W p l e R s m args below meth c H locs cells slots Q (F0 m pc ls (.int i :: .ref (a 8) :: rest)) := by
  subst hk
  exact va_iald hx hb hK hP 8 0 rfl rfl hin hd kk
theorem st_M_8 {i : Int32} {k : Nat} {v : Int32} (hx : p.tables.exec = Jvm.exec) (hb : c.code = cc) (hK : va_K D clS (tyS cI cZ) s) (S : St D (wM cI cZ a) A s σ H locs) (hin : vp_in i 4) (hk : i.toNatClampNeg = k) (hd : decode cc pc = .ok (.iastore, 1)) (kk : ∀ (H : Heap) (locs : List Loc), St D (wM cI cZ a) A s (up2 σ 10 k (v)) H locs → W p l e R s m args below meth c H locs cells slots Q (F0 m (pc + 1) ls rest)) : W p l e R s m args below meth c H locs cells slots Q (F0 m pc ls (.int (v) :: .int i :: .ref (a 8) :: rest)) := by
  subst hk
  exact va_iast hx hb hK S.1 S.2.1 S.2.2 8 0 rfl rfl hin hd (fun H1 locs1 hP hD hS => kk H1 locs1 ⟨hP, hD, hS⟩)
theorem ld_M_9 {i : Int32} {k : Nat} (hx : p.tables.exec = Jvm.exec) (hb : c.code = cc) (hK : va_K D clS (tyS cI cZ) s) (hP : va_P D clS (wM cI cZ a σ) H) (hin : vp_in i 4) (hk : i.toNatClampNeg = k) (hd : decode cc pc = .ok (.iaload, 1)) (kk : W p l e R s m args below meth c H locs cells slots Q (F0 m (pc + 1) ls (.int (σ 6 k) :: rest))) : W p l e R s m args below meth c H locs cells slots Q (F0 m pc ls (.int i :: .ref (a 9) :: rest)) := by
  subst hk
  exact va_iald hx hb hK hP 9 0 rfl rfl hin hd kk
theorem st_M_9 {i : Int32} {k : Nat} {v : Int32} (hx : p.tables.exec = Jvm.exec) (hb : c.code = cc) (hK : va_K D clS (tyS cI cZ) s) (S : St D (wM cI cZ a) A s σ H locs) (hin : vp_in i 4) (hk : i.toNatClampNeg = k) (hd : decode cc pc = .ok (.iastore, 1)) (kk : ∀ (H : Heap) (locs : List Loc), St D (wM cI cZ a) A s (up2 σ 6 k (v)) H locs → W p l e R s m args below meth c H locs cells slots Q (F0 m (pc + 1) ls rest)) : W p l e R s m args below meth c H locs cells slots Q (F0 m pc ls (.int (v) :: .int i :: .ref (a 9) :: rest)) := by
  subst hk
  exact va_iast hx hb hK S.1 S.2.1 S.2.2 9 0 rfl rfl hin hd (fun H1 locs1 hP hD hS => kk H1 locs1 ⟨hP, hD, hS⟩)
theorem ld_M_10 {i : Int32} {k : Nat} (hx : p.tables.exec = Jvm.exec) (hb : c.code = cc) (hK : va_K D clS (tyS cI cZ) s) (hP : va_P D clS (wM cI cZ a σ) H) (hin : vp_in i 4) (hk : i.toNatClampNeg = k) (hd : decode cc pc = .ok (.baload, 1)) (kk : W p l e R s m args below meth c H locs cells slots Q (F0 m (pc + 1) ls (.int (σ 7 k) :: rest))) : W p l e R s m args below meth c H locs cells slots Q (F0 m pc ls (.int i :: .ref (a 10) :: rest)) := by
  subst hk
  exact va_zald hx hb hK hP 10 1 rfl rfl hin hd kk
theorem st_M_10 {i : Int32} {k : Nat} {b : Bool} (hx : p.tables.exec = Jvm.exec) (hb : c.code = cc) (hK : va_K D clS (tyS cI cZ) s) (S : St D (wM cI cZ a) A s σ H locs) (hin : vp_in i 4) (hk : i.toNatClampNeg = k) (hd : decode cc pc = .ok (.bastore, 1)) (kk : ∀ (H : Heap) (locs : List Loc), St D (wM cI cZ a) A s (up2 σ 7 k (bI b)) H locs → W p l e R s m args below meth c H locs cells slots Q (F0 m (pc + 1) ls rest)) : W p l e R s m args below meth c H locs cells slots Q (F0 m pc ls (.int (bI b) :: .int i :: .ref (a 10) :: rest)) := by
  subst hk
  exact va_zast hx hb hK S.1 S.2.1 S.2.2 10 1 rfl rfl hin hd (fun H1 locs1 hP hD hS => by rw [bI_nar] at hP hD; exact kk H1 locs1 ⟨hP, hD, hS⟩)
end ROWS
theorem v_N_289 : SK "NestedCore" 289 y_In_bitCount b_In_bitCount 1 (some .int) 1 := ⟨k_86, k_87, k_88, k_89, by decide +kernel⟩
theorem v_N_72 : SK "NestedCore" 72 y_N_even b_N_even 1 (some .int) 1 := ⟨k_90, k_91, k_92, k_93, by decide +kernel⟩
theorem v_Mo_154 : SK "NestedCoreModel" 154 y_Mo_ones b_Mo_ones 3 (some .int) 1 := ⟨k_94, k_95, k_96, k_97, by decide +kernel⟩
theorem v_Mo_45 : SK "NestedCoreModel" 45 y_Mo_isWord b_Mo_isWord 1 (some .boolean) 1 := ⟨k_98, k_99, k_96, k_100, by decide +kernel⟩
theorem v_Mo_96 : SK "NestedCoreModel" 96 y_Mo_isFrame b_Mo_isFrame 1 (some .boolean) 1 := ⟨k_101, k_102, k_96, k_103, by decide +kernel⟩
theorem v_Ex_29 : VK "NestedCore$Exceptions" 29 y_Ex_group b_Ex_group 2 (some .int) 1 := ⟨k_104, k_105, k_106, k_107, k_108, by decide +kernel⟩
theorem v_Ex_49 : VK "NestedCore$Exceptions" 49 y_Ex_level b_Ex_level 3 (some .int) 0 := ⟨k_109, k_110, k_111, k_107, k_112, by decide +kernel⟩
theorem v_Fl_24 : VK "NestedCore$Flags" 24 y_Fl_ofResult b_Fl_ofResult 2 none 1 := ⟨k_113, k_114, k_115, k_116, k_117, by decide +kernel⟩
theorem v_Fl_28 : VK "NestedCore$Flags" 28 y_Fl_sum b_Fl_sum 9 (some .int) 3 := ⟨k_118, k_119, k_120, k_116, k_121, by decide +kernel⟩
theorem v_Me_15 : VK "NestedCore$Memory" 15 y_Me_load b_Me_load 2 (some .int) 1 := ⟨k_122, k_123, k_124, k_125, k_126, by decide +kernel⟩
theorem v_N_112 : VK "NestedCore" 112 y_Ar_lay b_Ar_lay 6 none 5 := ⟨k_127, k_128, k_129, k_130, k_131, by decide +kernel⟩
theorem v_N_121 : VK "NestedCore" 121 y_N_step b_N_step 3 none 0 := ⟨k_132, k_133, k_134, k_92, k_135, by decide +kernel⟩
theorem v_N_124 : VK "NestedCore" 124 y_Fl_packed b_Fl_packed 1 (some .int) 0 := ⟨k_136, k_137, k_138, k_116, k_139, by decide +kernel⟩
theorem v_N_131 : VK "NestedCore" 131 y_Ex_level b_Ex_level 3 (some .int) 0 := ⟨k_140, k_110, k_111, k_107, k_112, by decide +kernel⟩
theorem v_N_134 : VK "NestedCore" 134 y_Ex_due b_Ex_due 3 (some .int) 0 := ⟨k_141, k_142, k_143, k_107, k_144, by decide +kernel⟩
theorem v_N_151 : VK "NestedCore" 151 y_Ex_packed b_Ex_packed 2 (some .int) 1 := ⟨k_145, k_146, k_147, k_107, k_148, by decide +kernel⟩
theorem v_N_153 : VK "NestedCore" 153 y_Ti_fires b_Ti_fires 1 (some .boolean) 0 := ⟨k_149, k_150, k_151, k_152, k_153, by decide +kernel⟩
theorem v_N_157 : VK "NestedCore" 157 y_N_take b_N_take 5 none 1 := ⟨k_154, k_155, k_156, k_92, k_157, by decide +kernel⟩
theorem v_N_166 : VK "NestedCore" 166 y_N_fetchFault b_N_fetchFault 1 (some .int) 0 := ⟨k_158, k_159, k_160, k_92, k_161, by decide +kernel⟩
theorem v_N_169 : VK "NestedCore" 169 y_N_fetch b_N_fetch 2 (some .int) 0 := ⟨k_162, k_163, k_164, k_92, k_165, by decide +kernel⟩
theorem v_N_172 : VK "NestedCore" 172 y_N_execute b_N_execute 2 (some .int) 1 := ⟨k_166, k_167, k_168, k_92, k_169, by decide +kernel⟩
theorem v_N_175 : VK "NestedCore" 175 y_N_land b_N_land 2 (some .int) 0 := ⟨k_170, k_171, k_172, k_92, k_173, by decide +kernel⟩
theorem v_N_178 : VK "NestedCore" 178 y_N_raise b_N_raise 3 none 1 := ⟨k_174, k_175, k_176, k_92, k_177, by decide +kernel⟩
theorem v_N_181 : VK "NestedCore" 181 y_Me_holdsFrame b_Me_holdsFrame 2 (some .boolean) 1 := ⟨k_178, k_179, k_180, k_125, k_181, by decide +kernel⟩
theorem v_N_187 : VK "NestedCore" 187 y_N_enter b_N_enter 2 none 1 := ⟨k_182, k_183, k_184, k_92, k_185, by decide +kernel⟩
theorem v_N_196 : VK "NestedCore" 196 y_Ex_group b_Ex_group 2 (some .int) 1 := ⟨k_186, k_105, k_106, k_107, k_108, by decide +kernel⟩
theorem v_N_199 : VK "NestedCore" 199 y_N_comeBack b_N_comeBack 6 (some .int) 1 := ⟨k_187, k_188, k_189, k_92, k_190, by decide +kernel⟩
theorem v_N_202 : VK "NestedCore" 202 y_Ex_leave b_Ex_leave 2 none 1 := ⟨k_191, k_192, k_193, k_107, k_194, by decide +kernel⟩
theorem v_N_205 : VK "NestedCore" 205 y_N_unstack b_N_unstack 4 none 2 := ⟨k_195, k_196, k_197, k_92, k_198, by decide +kernel⟩
theorem v_N_208 : VK "NestedCore" 208 y_Fl_unpack b_Fl_unpack 2 none 1 := ⟨k_199, k_200, k_201, k_116, k_202, by decide +kernel⟩
theorem v_N_211 : VK "NestedCore" 211 y_Me_holdsHalf b_Me_holdsHalf 2 (some .boolean) 1 := ⟨k_203, k_204, k_205, k_125, k_206, by decide +kernel⟩
theorem v_N_214 : VK "NestedCore" 214 y_Ar_bars b_Ar_bars 5 (some .boolean) 3 := ⟨k_207, k_208, k_209, k_130, k_210, by decide +kernel⟩
theorem v_N_218 : VK "NestedCore" 218 y_Me_half b_Me_half 2 (some .int) 1 := ⟨k_211, k_212, k_213, k_125, k_214, by decide +kernel⟩
theorem v_N_221 : VK "NestedCore" 221 y_N_shift b_N_shift 6 (some .int) 1 := ⟨k_215, k_216, k_217, k_92, k_218, by decide +kernel⟩
theorem v_N_224 : VK "NestedCore" 224 y_N_addThree b_N_addThree 5 (some .int) 1 := ⟨k_219, k_220, k_221, k_92, k_222, by decide +kernel⟩
theorem v_N_227 : VK "NestedCore" 227 y_N_withNumber b_N_withNumber 4 (some .int) 1 := ⟨k_223, k_224, k_225, k_92, k_226, by decide +kernel⟩
theorem v_N_230 : VK "NestedCore" 230 y_N_combine b_N_combine 5 (some .int) 1 := ⟨k_227, k_228, k_229, k_92, k_230, by decide +kernel⟩
theorem v_N_233 : VK "NestedCore" 233 y_N_copyOrBranch b_N_copyOrBranch 2 (some .int) 1 := ⟨k_231, k_232, k_233, k_92, k_234, by decide +kernel⟩
theorem v_N_236 : VK "NestedCore" 236 y_N_move b_N_move 6 (some .int) 3 := ⟨k_235, k_236, k_237, k_92, k_238, by decide +kernel⟩
theorem v_N_240 : VK "NestedCore" 240 y_N_stackOrSwitch b_N_stackOrSwitch 3 (some .int) 1 := ⟨k_239, k_240, k_241, k_92, k_242, by decide +kernel⟩
theorem v_N_243 : VK "NestedCore" 243 y_N_callOut b_N_callOut 1 (some .int) 0 := ⟨k_243, k_244, k_245, k_92, k_246, by decide +kernel⟩
theorem v_N_246 : VK "NestedCore" 246 y_N_branchIf b_N_branchIf 3 (some .int) 1 := ⟨k_247, k_248, k_249, k_92, k_250, by decide +kernel⟩
theorem v_N_249 : VK "NestedCore" 249 y_N_branch b_N_branch 2 (some .int) 1 := ⟨k_251, k_252, k_253, k_92, k_254, by decide +kernel⟩
theorem v_N_255 : VK "NestedCore" 255 y_Fl_ofResult b_Fl_ofResult 2 none 1 := ⟨k_255, k_114, k_115, k_116, k_117, by decide +kernel⟩
theorem v_N_258 : VK "NestedCore" 258 y_Fl_sum b_Fl_sum 9 (some .int) 3 := ⟨k_256, k_119, k_120, k_116, k_121, by decide +kernel⟩
theorem v_N_261 : VK "NestedCore" 261 y_Fl_difference b_Fl_difference 3 (some .int) 2 := ⟨k_257, k_258, k_259, k_116, k_260, by decide +kernel⟩
theorem v_N_265 : VK "NestedCore" 265 y_N_bits b_N_bits 3 (some .int) 2 := ⟨k_261, k_262, k_263, k_92, k_264, by decide +kernel⟩
theorem v_N_268 : VK "NestedCore" 268 y_Fl_carry b_Fl_carry 1 (some .int) 0 := ⟨k_265, k_266, k_267, k_116, k_268, by decide +kernel⟩
theorem v_N_271 : VK "NestedCore" 271 y_N_copyAny b_N_copyAny 4 (some .int) 1 := ⟨k_269, k_270, k_271, k_92, k_272, by decide +kernel⟩
theorem v_N_274 : VK "NestedCore" 274 y_N_branchTo b_N_branchTo 3 (some .int) 1 := ⟨k_273, k_274, k_275, k_92, k_276, by decide +kernel⟩
theorem v_N_277 : VK "NestedCore" 277 y_N_faultAlong b_N_faultAlong 5 (some .int) 3 := ⟨k_277, k_278, k_279, k_92, k_280, by decide +kernel⟩
theorem v_N_280 : VK "NestedCore" 280 y_N_push b_N_push 7 (some .int) 1 := ⟨k_281, k_282, k_283, k_92, k_284, by decide +kernel⟩
theorem v_N_283 : VK "NestedCore" 283 y_N_pop b_N_pop 6 (some .int) 1 := ⟨k_285, k_286, k_287, k_92, k_288, by decide +kernel⟩
theorem v_N_286 : VK "NestedCore" 286 y_N_switchOrNothing b_N_switchOrNothing 2 (some .int) 1 := ⟨k_289, k_290, k_291, k_92, k_292, by decide +kernel⟩
theorem v_N_294 : VK "NestedCore" 294 y_Fl_meet b_Fl_meet 3 (some .boolean) 1 := ⟨k_293, k_294, k_295, k_116, k_296, by decide +kernel⟩
theorem v_N_51 : VK "NestedCore" 51 y_Me_holdsWord b_Me_holdsWord 2 (some .boolean) 1 := ⟨k_297, k_298, k_299, k_125, k_300, by decide +kernel⟩
theorem v_N_62 : VK "NestedCore" 62 y_Me_store b_Me_store 3 none 2 := ⟨k_301, k_302, k_303, k_125, k_304, by decide +kernel⟩
theorem v_N_66 : VK "NestedCore" 66 y_Me_load b_Me_load 2 (some .int) 1 := ⟨k_305, k_123, k_124, k_125, k_126, by decide +kernel⟩
theorem v_N_89 : VK "NestedCore" 89 y_Ti_start b_Ti_start 2 none 1 := ⟨k_306, k_307, k_308, k_152, k_309, by decide +kernel⟩
theorem v_N_98 : VK "NestedCore" 98 y_Ex_order b_Ex_order 4 none 3 := ⟨k_310, k_311, k_312, k_107, k_313, by decide +kernel⟩
theorem v_Mo_102 : VK "NestedCoreModel" 102 y_Mo_store b_Mo_store 4 none 2 := ⟨k_314, k_315, k_316, k_96, k_317, by decide +kernel⟩
theorem v_Mo_106 : VK "NestedCoreModel" 106 y_Mo_status b_Mo_status 2 (some .int) 1 := ⟨k_318, k_319, k_320, k_96, k_321, by decide +kernel⟩
theorem v_Mo_110 : VK "NestedCoreModel" 110 y_Mo_enter b_Mo_enter 2 none 1 := ⟨k_322, k_323, k_324, k_96, k_325, by decide +kernel⟩
theorem v_Mo_117 : VK "NestedCoreModel" 117 y_Mo_flags b_Mo_flags 2 none 1 := ⟨k_326, k_327, k_328, k_96, k_329, by decide +kernel⟩
theorem v_Mo_125 : VK "NestedCoreModel" 125 y_Mo_test b_Mo_test 2 none 1 := ⟨k_330, k_331, k_332, k_96, k_333, by decide +kernel⟩
theorem v_Mo_128 : VK "NestedCoreModel" 128 y_Mo_sum b_Mo_sum 9 (some .int) 3 := ⟨k_334, k_335, k_336, k_96, k_337, by decide +kernel⟩
theorem v_Mo_132 : VK "NestedCoreModel" 132 y_Mo_isReturn b_Mo_isReturn 2 (some .boolean) 1 := ⟨k_338, k_339, k_340, k_96, k_341, by decide +kernel⟩
theorem v_Mo_135 : VK "NestedCoreModel" 135 y_Mo_due b_Mo_due 3 (some .int) 0 := ⟨k_342, k_343, k_344, k_96, k_345, by decide +kernel⟩
theorem v_Mo_138 : VK "NestedCoreModel" 138 y_Mo_isBack b_Mo_isBack 4 (some .boolean) 2 := ⟨k_346, k_347, k_348, k_96, k_349, by decide +kernel⟩
theorem v_Mo_144 : VK "NestedCoreModel" 144 y_Mo_comeBack b_Mo_comeBack 4 none 1 := ⟨k_350, k_351, k_352, k_96, k_353, by decide +kernel⟩
theorem v_Mo_147 : VK "NestedCoreModel" 147 y_Mo_jump b_Mo_jump 4 (some .int) 2 := ⟨k_354, k_355, k_356, k_96, k_357, by decide +kernel⟩
theorem v_Mo_151 : VK "NestedCoreModel" 151 y_Mo_faultOf b_Mo_faultOf 5 (some .int) 3 := ⟨k_358, k_359, k_360, k_96, k_361, by decide +kernel⟩
theorem v_Mo_157 : VK "NestedCoreModel" 157 y_Mo_holds b_Mo_holds 2 (some .boolean) 1 := ⟨k_362, k_363, k_364, k_96, k_365, by decide +kernel⟩
theorem v_Mo_164 : VK "NestedCoreModel" 164 y_Mo_push b_Mo_push 6 (some .int) 1 := ⟨k_366, k_367, k_368, k_96, k_369, by decide +kernel⟩
theorem v_Mo_168 : VK "NestedCoreModel" 168 y_Mo_shift b_Mo_shift 6 (some .int) 1 := ⟨k_370, k_371, k_372, k_96, k_373, by decide +kernel⟩
theorem v_Mo_171 : VK "NestedCoreModel" 171 y_Mo_immediate b_Mo_immediate 6 (some .int) 1 := ⟨k_374, k_375, k_376, k_96, k_377, by decide +kernel⟩
theorem v_Mo_174 : VK "NestedCoreModel" 174 y_Mo_logic b_Mo_logic 7 (some .int) 1 := ⟨k_378, k_379, k_380, k_96, k_381, by decide +kernel⟩
theorem v_Mo_177 : VK "NestedCoreModel" 177 y_Mo_moveHigh b_Mo_moveHigh 4 (some .int) 1 := ⟨k_382, k_383, k_384, k_96, k_385, by decide +kernel⟩
theorem v_Mo_180 : VK "NestedCoreModel" 180 y_Mo_move b_Mo_move 5 (some .int) 3 := ⟨k_386, k_387, k_388, k_96, k_389, by decide +kernel⟩
theorem v_Mo_184 : VK "NestedCoreModel" 184 y_Mo_special b_Mo_special 2 (some .int) 1 := ⟨k_390, k_391, k_392, k_96, k_393, by decide +kernel⟩
theorem v_Mo_188 : VK "NestedCoreModel" 188 y_Mo_exchange b_Mo_exchange 3 (some .int) 1 := ⟨k_394, k_395, k_396, k_96, k_397, by decide +kernel⟩
theorem v_Mo_191 : VK "NestedCoreModel" 191 y_Mo_pop b_Mo_pop 10 (some .int) 1 := ⟨k_398, k_399, k_400, k_96, k_401, by decide +kernel⟩
theorem v_Mo_194 : VK "NestedCoreModel" 194 y_Mo_conditional b_Mo_conditional 4 (some .int) 1 := ⟨k_402, k_403, k_404, k_96, k_405, by decide +kernel⟩
theorem v_Mo_197 : VK "NestedCoreModel" 197 y_Mo_plain b_Mo_plain 5 (some .int) 1 := ⟨k_406, k_407, k_408, k_96, k_409, by decide +kernel⟩
theorem v_Mo_200 : VK "NestedCoreModel" 200 y_Mo_does b_Mo_does 3 (some .int) 1 := ⟨k_410, k_411, k_412, k_96, k_413, by decide +kernel⟩
theorem v_Mo_209 : VK "NestedCoreModel" 209 y_Mo_take b_Mo_take 5 none 1 := ⟨k_414, k_415, k_416, k_96, k_417, by decide +kernel⟩
theorem v_Mo_212 : VK "NestedCoreModel" 212 y_Mo_fetched b_Mo_fetched 2 (some .int) 0 := ⟨k_418, k_419, k_420, k_96, k_421, by decide +kernel⟩
theorem v_Mo_215 : VK "NestedCoreModel" 215 y_Mo_fault b_Mo_fault 3 none 1 := ⟨k_422, k_423, k_424, k_96, k_425, by decide +kernel⟩
theorem v_Mo_218 : VK "NestedCoreModel" 218 y_Mo_fails b_Mo_fails 2 (some .boolean) 1 := ⟨k_426, k_427, k_428, k_96, k_429, by decide +kernel⟩
theorem v_Mo_222 : VK "NestedCoreModel" 222 y_Mo_step b_Mo_step 3 none 0 := ⟨k_430, k_431, k_432, k_96, k_433, by decide +kernel⟩
theorem v_Mo_49 : VK "NestedCoreModel" 49 y_Mo_barred b_Mo_barred 5 (some .boolean) 2 := ⟨k_434, k_435, k_436, k_96, k_437, by decide +kernel⟩
theorem v_Mo_56 : VK "NestedCoreModel" 56 y_Mo_group b_Mo_group 2 (some .int) 1 := ⟨k_438, k_439, k_440, k_96, k_441, by decide +kernel⟩
theorem v_Mo_70 : VK "NestedCoreModel" 70 y_Mo_level b_Mo_level 3 (some .int) 0 := ⟨k_442, k_443, k_444, k_96, k_445, by decide +kernel⟩
theorem v_Mo_77 : VK "NestedCoreModel" 77 y_Mo_load b_Mo_load 2 (some .int) 1 := ⟨k_446, k_447, k_448, k_96, k_449, by decide +kernel⟩
set_option maxRecDepth 100000 in
theorem k_minC : Jvm.Cond.code Lib.Math.min.name Lib.Math.min.code 2 (some .int) ∈ WS := ws_tab (List.mem_of_getElem? (i := 342) rfl) rfl
theorem k_acN : Jvm.Cond.native arraycopyName ∈ WS := ws_tab (List.mem_of_getElem? (i := 363) (by decide +kernel)) (by decide +kernel)
section ROWS2
variable {p : Program} {l : Launch} {e : Env} {R : Room} {s : State} {m : MethodId} {args : Array Value} {below : List Frame} {meth : Method} {c : Code} {H : Heap} {locs : List Loc} {cells slots : Nat} {Q : State → Prop}
variable {cc : ByteArray} {pc nL : Nat} {ls : Array Slot} {rest : List Value} {D : va_G} {cI cZ : ClassId} {A : Nat → Prop} {a : Nat → Nat} {σ : nS}
theorem r_min (hx : p.tables.exec = Jvm.exec) (hb : c.code = cc) (hml : c.maxLocals = nL) (hts : ∀ w ∈ WS, w.before args s = true) {own : String} {idx : Nat} (hown : s.vm.findClass own = some m.cls) (hsz : ls.size = nL) (hk : Jvm.Cond.methodLink own idx ⟨"java/lang/Math", "min", "(II)I"⟩ ∈ WS) (hf : 1 ≤ R.frames) (hlo : (rest.map fun v => v.category).sum + 13 ≤ R.locals) {x y : Int32} (hd : decode cc pc = .ok (.invokestatic idx, 3)) (kk : W p l e R s m args below meth c H locs 0 0 Q (F0 m (pc + 3) ls (.int (if y < x then y else x) :: rest))) : W p l e R s m args below meth c H locs 0 0 Q (F0 m pc ls (.int y :: .int x :: rest)) :=
  va_mmin hx hb (hml.trans hsz.symm) hown (hts _ hk) (hts _ k_450) (hts _ k_451) (hts _ k_minC) hf hlo (Nat.zero_le _) (Nat.zero_le _) hd kk
theorem cp_1_2 (hx : p.tables.exec = Jvm.exec) (hb : c.code = cc) (hml : c.maxLocals = nL) (hts : ∀ w ∈ WS, w.before args s = true) {own : String} {idx : Nat} (hown : s.vm.findClass own = some m.cls) (hK : va_K D clS (tyS cI cZ) s) (S : St D (wC cI cZ a) A s σ H locs) (hsz : ls.size = nL) (hk : Jvm.Cond.methodLink own idx arraycopyName ∈ WS) (hd : decode cc pc = .ok (.invokestatic idx, 3)) (hf : 1 ≤ R.frames) (hlo : (rest.map fun v => v.category).sum + (nativeFrameWords "java/lang/System" "arraycopy" 5 + 11) ≤ R.locals)
    (kk : ∀ (H : Heap) (locs : List Loc), St D (wC cI cZ a) A s (upC σ 0 11) H locs → W p l e R s m args below meth c H locs cells slots Q (F0 m (pc + 3) ls rest)) : W p l e R s m args below meth c H locs cells slots Q (F0 m pc ls (.int 16 :: .int 0 :: .ref (a 2) :: .int 0 :: .ref (a 1) :: rest)) := by
  have e0 : (0 : Int32).toNatClampNeg = 0 := by decide
  have e16 : (16 : Int32).toNatClampNeg = 16 := by decide
  refine va_copyi hx hb (hml.trans hsz.symm) hown (hts _ hk) (hts _ k_acN) (hts _ k_452) (hts _ k_453) hK S.1 S.2.1 S.2.2 1 2 0 0 (ty := .int) rfl rfl rfl rfl rfl (by decide) (by decide) (by decide) (by decide) (by decide) (fun i hi => rfl) hf hlo hd (fun H1 locs1 hP hD hS => ?_)
  rw [e0, e16] at hP hD
  exact kk H1 locs1 ⟨hP, hD, hS⟩
theorem cp_2_1 (hx : p.tables.exec = Jvm.exec) (hb : c.code = cc) (hml : c.maxLocals = nL) (hts : ∀ w ∈ WS, w.before args s = true) {own : String} {idx : Nat} (hown : s.vm.findClass own = some m.cls) (hK : va_K D clS (tyS cI cZ) s) (S : St D (wC cI cZ a) A s σ H locs) (hsz : ls.size = nL) (hk : Jvm.Cond.methodLink own idx arraycopyName ∈ WS) (hd : decode cc pc = .ok (.invokestatic idx, 3)) (hf : 1 ≤ R.frames) (hlo : (rest.map fun v => v.category).sum + (nativeFrameWords "java/lang/System" "arraycopy" 5 + 11) ≤ R.locals)
    (kk : ∀ (H : Heap) (locs : List Loc), St D (wC cI cZ a) A s (upC σ 11 0) H locs → W p l e R s m args below meth c H locs cells slots Q (F0 m (pc + 3) ls rest)) : W p l e R s m args below meth c H locs cells slots Q (F0 m pc ls (.int 16 :: .int 0 :: .ref (a 1) :: .int 0 :: .ref (a 2) :: rest)) := by
  have e0 : (0 : Int32).toNatClampNeg = 0 := by decide
  have e16 : (16 : Int32).toNatClampNeg = 16 := by decide
  refine va_copyi hx hb (hml.trans hsz.symm) hown (hts _ hk) (hts _ k_acN) (hts _ k_452) (hts _ k_453) hK S.1 S.2.1 S.2.2 2 1 0 0 (ty := .int) rfl rfl rfl rfl rfl (by decide) (by decide) (by decide) (by decide) (by decide) (fun i hi => rfl) hf hlo hd (fun H1 locs1 hP hD hS => ?_)
  rw [e0, e16] at hP hD
  exact kk H1 locs1 ⟨hP, hD, hS⟩
end ROWS2
end
section
def s_In_bitCount (v0 : Int32) : Int32 := ((((((((v0 - ((ush v0 (1 : Int32)) &&& (1431655765 : Int32))) &&& (858993459 : Int32)) + ((ush (v0 - ((ush v0 (1 : Int32)) &&& (1431655765 : Int32))) (2 : Int32)) &&& (858993459 : Int32))) + (ush (((v0 - ((ush v0 (1 : Int32)) &&& (1431655765 : Int32))) &&& (858993459 : Int32)) + ((ush (v0 - ((ush v0 (1 : Int32)) &&& (1431655765 : Int32))) (2 : Int32)) &&& (858993459 : Int32))) (4 : Int32))) &&& (252645135 : Int32)) + (ush (((((v0 - ((ush v0 (1 : Int32)) &&& (1431655765 : Int32))) &&& (858993459 : Int32)) + ((ush (v0 - ((ush v0 (1 : Int32)) &&& (1431655765 : Int32))) (2 : Int32)) &&& (858993459 : Int32))) + (ush (((v0 - ((ush v0 (1 : Int32)) &&& (1431655765 : Int32))) &&& (858993459 : Int32)) + ((ush (v0 - ((ush v0 (1 : Int32)) &&& (1431655765 : Int32))) (2 : Int32)) &&& (858993459 : Int32))) (4 : Int32))) &&& (252645135 : Int32)) (8 : Int32))) + (ush ((((((v0 - ((ush v0 (1 : Int32)) &&& (1431655765 : Int32))) &&& (858993459 : Int32)) + ((ush (v0 - ((ush v0 (1 : Int32)) &&& (1431655765 : Int32))) (2 : Int32)) &&& (858993459 : Int32))) + (ush (((v0 - ((ush v0 (1 : Int32)) &&& (1431655765 : Int32))) &&& (858993459 : Int32)) + ((ush (v0 - ((ush v0 (1 : Int32)) &&& (1431655765 : Int32))) (2 : Int32)) &&& (858993459 : Int32))) (4 : Int32))) &&& (252645135 : Int32)) + (ush (((((v0 - ((ush v0 (1 : Int32)) &&& (1431655765 : Int32))) &&& (858993459 : Int32)) + ((ush (v0 - ((ush v0 (1 : Int32)) &&& (1431655765 : Int32))) (2 : Int32)) &&& (858993459 : Int32))) + (ush (((v0 - ((ush v0 (1 : Int32)) &&& (1431655765 : Int32))) &&& (858993459 : Int32)) + ((ush (v0 - ((ush v0 (1 : Int32)) &&& (1431655765 : Int32))) (2 : Int32)) &&& (858993459 : Int32))) (4 : Int32))) &&& (252645135 : Int32)) (8 : Int32))) (16 : Int32))) &&& (63 : Int32))
def s_Me_holdsWord_21 : Bool := false
def s_Me_holdsWord (v1 : Int32) : Bool := if v1 < (0 : Int32) then (s_Me_holdsWord_21) else (if (1024 : Int32) ≤ v1 then (s_Me_holdsWord_21) else (if (v1 &&& (3 : Int32)) = (0 : Int32) then (true) else (s_Me_holdsWord_21)))
def s_Me_store (v1 : Int32) (v2 : Int32) (σ : nS) : nS := (up2 σ 9 (((v1 >>> ((2 : Int32) &&& 31)) &&& (255 : Int32))).toNatClampNeg v2)
def s_N_set (v1 : Int32) (v2 : Int32) (σ : nS) : Option (nS) := if (s_Me_holdsWord v1) = true then (ap1 (s_Me_store v1 v2 σ) fun σ1 => some σ1) else (none)
def s_Me_load (v1 : Int32) (σ : nS) : Int32 := (σ 9 (((v1 >>> ((2 : Int32) &&& 31)) &&& (255 : Int32))).toNatClampNeg)
def s_N_word (v1 : Int32) (σ : nS) : Option (Int32 × nS) := if (s_Me_holdsWord v1) = true then (some ((s_Me_load v1 σ), σ)) else (none)
def s_N_even (v0 : Int32) : Int32 := (v0 &&& (-2 : Int32))
def s_Ti_start (v1 : Int32) (σ : nS) : nS := (up2 (up2 σ 8 8 v1) 8 9 v1)
def s_N_put_10 (σ : nS) : Option (nS) := none
def s_N_put_87 (k1 : Bool) (σ : nS) : Option (nS) := some (up2 σ 8 2 (bI k1))
def s_N_put_106 (k1 : Bool) (σ : nS) : Option (nS) := some (up2 σ 8 3 (bI k1))
def s_N_put (v1 : Int32) (v2 : Int32) (σ : nS) : Option (nS) := if v1 < (0 : Int32) then (s_N_put_10 σ) else (if v1 ≤ (20 : Int32) then (if v1 = (15 : Int32) then (some (up2 σ 0 15 (s_N_even v2))) else if v1 = (16 : Int32) then (if v2 = (0 : Int32) then (s_N_put_87 false σ) else (s_N_put_87 true σ)) else if v1 = (17 : Int32) then (if v2 = (0 : Int32) then (s_N_put_106 false σ) else (s_N_put_106 true σ)) else if v1 = (18 : Int32) then (some (up2 σ 8 1 (v2 &&& (7 : Int32)))) else if v1 = (19 : Int32) then (some (up2 σ 8 0 (v2 &&& (3 : Int32)))) else if v1 = (20 : Int32) then (ap1 (s_Ti_start (v2 &&& (255 : Int32)) σ) fun σ1 => some σ1) else (some (up2 σ 0 (v1).toNatClampNeg v2))) else (s_N_put_10 σ))
def o_N_put_10 (σ : nS) : Prop := True
def o_N_put_87 (k1 : Bool) (σ : nS) : Prop := True
def o_N_put_106 (k1 : Bool) (σ : nS) : Prop := True
def o_N_put (v1 : Int32) (v2 : Int32) (σ : nS) : Prop := if v1 < (0 : Int32) then (o_N_put_10 σ) else (if v1 ≤ (20 : Int32) then (if v1 = (15 : Int32) then (True) else if v1 = (16 : Int32) then (if v2 = (0 : Int32) then (o_N_put_87 false σ) else (o_N_put_87 true σ)) else if v1 = (17 : Int32) then (if v2 = (0 : Int32) then (o_N_put_106 false σ) else (o_N_put_106 true σ)) else if v1 = (18 : Int32) then (True) else if v1 = (19 : Int32) then (True) else if v1 = (20 : Int32) then (ap1 (s_Ti_start (v2 &&& (255 : Int32)) σ) fun σ1 => (True)) else (vp_in v1 16 ∧ (True))) else (o_N_put_10 σ))
def s_N_register_10 (σ : nS) : Option (Int32 × nS) := none
def s_N_register (v1 : Int32) (σ : nS) : Option (Int32 × nS) := if v1 < (0 : Int32) then (s_N_register_10 σ) else (if v1 ≤ (20 : Int32) then (if v1 = (16 : Int32) then (if (σ 8 2) = (0 : Int32) then (some ((0 : Int32), σ)) else (some ((1 : Int32), σ))) else if v1 = (17 : Int32) then (if (σ 8 3) = (0 : Int32) then (some ((0 : Int32), σ)) else (some ((1 : Int32), σ))) else if v1 = (18 : Int32) then (some ((σ 8 1), σ)) else if v1 = (19 : Int32) then (some ((σ 8 0), σ)) else if v1 = (20 : Int32) then (some ((σ 8 8), σ)) else (some ((σ 0 (v1).toNatClampNeg), σ))) else (s_N_register_10 σ))
def o_N_register_10 (σ : nS) : Prop := True
def o_N_register (v1 : Int32) (σ : nS) : Prop := if v1 < (0 : Int32) then (o_N_register_10 σ) else (if v1 ≤ (20 : Int32) then (if v1 = (16 : Int32) then (if (σ 8 2) = (0 : Int32) then (True) else (True)) else if v1 = (17 : Int32) then (if (σ 8 3) = (0 : Int32) then (True) else (True)) else if v1 = (18 : Int32) then (True) else if v1 = (19 : Int32) then (True) else if v1 = (20 : Int32) then (True) else (vp_in v1 16 ∧ (True))) else (o_N_register_10 σ))
def s_Ex_order_33 (k1 : Int32) (k2 : Bool) (σ : nS) : nS := (up2 σ 1 (k1).toNatClampNeg (bI k2))
def s_Ex_order_28 (k1 : Int32) (σ : nS) : nS := s_Ex_order_33 k1 true σ
def s_Ex_order_32 (k1 : Int32) (σ : nS) : nS := s_Ex_order_33 k1 false σ
def s_Ex_order (v1 : Int32) (v2 : Int32) (v3 : Bool) (σ : nS) : nS := if v3 = true then (s_Ex_order_28 v1 (up2 σ 4 (v1).toNatClampNeg v2)) else (if v1 < (7 : Int32) then (s_Ex_order_32 v1 (up2 σ 4 (v1).toNatClampNeg v2)) else (if (9 : Int32) < v1 then (s_Ex_order_32 v1 (up2 σ 4 (v1).toNatClampNeg v2)) else (s_Ex_order_28 v1 (up2 σ 4 (v1).toNatClampNeg v2))))
def s_N_rank_21 (σ : nS) : Option (nS) := none
def s_N_rank (v1 : Int32) (v2 : Int32) (v3 : Bool) (σ : nS) : Option (nS) := if v1 < (4 : Int32) then (s_N_rank_21 σ) else (if (15 : Int32) < v1 then (s_N_rank_21 σ) else (if v2 < (0 : Int32) then (s_N_rank_21 σ) else (if v2 ≤ (7 : Int32) then (ap1 (s_Ex_order v1 v2 v3 σ) fun σ1 => some σ1) else (s_N_rank_21 σ))))
def o_N_rank_21 (σ : nS) : Prop := True
def o_N_rank (v1 : Int32) (v2 : Int32) (v3 : Bool) (σ : nS) : Prop := if v1 < (4 : Int32) then (o_N_rank_21 σ) else (if (15 : Int32) < v1 then (o_N_rank_21 σ) else (if v2 < (0 : Int32) then (o_N_rank_21 σ) else (if v2 ≤ (7 : Int32) then (vp_in v1 16 ∧ (ap1 (s_Ex_order v1 v2 v3 σ) fun σ1 => (True))) else (o_N_rank_21 σ))))
def s_N_pend_11 (σ : nS) : Option (nS) := none
def s_N_pend (v1 : Int32) (v2 : Bool) (σ : nS) : Option (nS) := if v1 < (2 : Int32) then (s_N_pend_11 σ) else (if v1 ≤ (15 : Int32) then (some (up2 σ 2 (v1).toNatClampNeg (bI v2))) else (s_N_pend_11 σ))
def o_N_pend_11 (σ : nS) : Prop := True
def o_N_pend (v1 : Int32) (v2 : Bool) (σ : nS) : Prop := if v1 < (2 : Int32) then (o_N_pend_11 σ) else (if v1 ≤ (15 : Int32) then (vp_in v1 16 ∧ (True)) else (o_N_pend_11 σ))
def s_Ar_lay (v1 : Int32) (v2 : Int32) (v3 : Int32) (v4 : Int32) (v5 : Bool) (σ : nS) : nS := (up2 (up2 (up2 (up2 σ 5 (v1).toNatClampNeg v2) 10 (v1).toNatClampNeg v3) 6 (v1).toNatClampNeg v4) 7 (v1).toNatClampNeg (bI v5))
def s_N_area_20 (σ : nS) : Option (nS) := none
def s_N_area_47 (σ : nS) : Option (nS) := none
def s_N_area (v1 : Int32) (v2 : Int32) (v3 : Int32) (v4 : Int32) (v5 : Bool) (σ : nS) : Option (nS) := if v1 < (0 : Int32) then (s_N_area_20 σ) else (if (4 : Int32) ≤ v1 then (s_N_area_20 σ) else (if v4 < (0 : Int32) then (s_N_area_20 σ) else (if v4 ≤ (2 : Int32) then (if v2 < (0 : Int32) then (s_N_area_47 σ) else (if v3 < (0 : Int32) then (s_N_area_47 σ) else (if v2 ≤ ((1024 : Int32) - v3) then (ap1 (s_Ar_lay v1 v2 v3 v4 v5 σ) fun σ1 => some σ1) else (s_N_area_47 σ)))) else (s_N_area_20 σ))))
def o_N_area_20 (σ : nS) : Prop := True
def o_N_area_47 (σ : nS) : Prop := True
def o_N_area (v1 : Int32) (v2 : Int32) (v3 : Int32) (v4 : Int32) (v5 : Bool) (σ : nS) : Prop := if v1 < (0 : Int32) then (o_N_area_20 σ) else (if (4 : Int32) ≤ v1 then (o_N_area_20 σ) else (if v4 < (0 : Int32) then (o_N_area_20 σ) else (if v4 ≤ (2 : Int32) then (if v2 < (0 : Int32) then (o_N_area_47 σ) else (if v3 < (0 : Int32) then (o_N_area_47 σ) else (if v2 ≤ ((1024 : Int32) - v3) then (vp_in v1 4 ∧ (ap1 (s_Ar_lay v1 v2 v3 v4 v5 σ) fun σ1 => (True))) else (o_N_area_47 σ)))) else (o_N_area_20 σ))))
def s_Ti_fires (σ : nS) : Bool × nS := if (σ 8 8) = (0 : Int32) then ((false, σ)) else (if ((up2 σ 8 9 ((σ 8 9) - (1 : Int32))) 8 9) = (0 : Int32) then ((true, (up2 (up2 σ 8 9 ((σ 8 9) - (1 : Int32))) 8 9 ((up2 σ 8 9 ((σ 8 9) - (1 : Int32))) 8 8)))) else ((false, (up2 σ 8 9 ((σ 8 9) - (1 : Int32))))))
def s_Ex_group (v1 : Int32) (σ : nS) : Int32 := if (0 : Int32) ≤ (σ 4 (v1).toNatClampNeg) then (((σ 4 (v1).toNatClampNeg) >>> ((σ 8 0) &&& 31))) else ((σ 4 (v1).toNatClampNeg))
def s_Ex_level_70 (v1 : Int32) (σ : nS) : Int32 := if (σ 8 3) = (0 : Int32) then (v1) else ((if (-1 : Int32) < v1 then (-1 : Int32) else v1))
def s_Ex_level_57 (v1 : Int32) (σ : nS) : Int32 := if (σ 8 2) = (0 : Int32) then (s_Ex_level_70 v1 σ) else (s_Ex_level_70 (if (0 : Int32) < v1 then (0 : Int32) else v1) σ)
def s_Ex_level_5_16 (v1 : Int32) (σ : nS) : Int32 := if (σ 8 1) = (0 : Int32) then (s_Ex_level_57 v1 σ) else (s_Ex_level_57 (if ((σ 8 1) >>> ((σ 8 0) &&& 31)) < v1 then ((σ 8 1) >>> ((σ 8 0) &&& 31)) else v1) σ)
def s_Ex_level_30_15 (v1 : Int32) (σ : nS) : Int32 := s_Ex_level_5_16 v1 σ
def s_Ex_level_5_15 (v1 : Int32) (σ : nS) : Int32 := if (σ 3 15) = (0 : Int32) then (s_Ex_level_30_15 v1 σ) else (s_Ex_level_30_15 (if (s_Ex_group (15 : Int32) σ) < v1 then (s_Ex_group (15 : Int32) σ) else v1) σ)
def s_Ex_level_30_14 (v1 : Int32) (σ : nS) : Int32 := s_Ex_level_5_15 v1 σ
def s_Ex_level_5_14 (v1 : Int32) (σ : nS) : Int32 := if (σ 3 14) = (0 : Int32) then (s_Ex_level_30_14 v1 σ) else (s_Ex_level_30_14 (if (s_Ex_group (14 : Int32) σ) < v1 then (s_Ex_group (14 : Int32) σ) else v1) σ)
def s_Ex_level_30_13 (v1 : Int32) (σ : nS) : Int32 := s_Ex_level_5_14 v1 σ
def s_Ex_level_5_13 (v1 : Int32) (σ : nS) : Int32 := if (σ 3 13) = (0 : Int32) then (s_Ex_level_30_13 v1 σ) else (s_Ex_level_30_13 (if (s_Ex_group (13 : Int32) σ) < v1 then (s_Ex_group (13 : Int32) σ) else v1) σ)
def s_Ex_level_30_12 (v1 : Int32) (σ : nS) : Int32 := s_Ex_level_5_13 v1 σ
def s_Ex_level_5_12 (v1 : Int32) (σ : nS) : Int32 := if (σ 3 12) = (0 : Int32) then (s_Ex_level_30_12 v1 σ) else (s_Ex_level_30_12 (if (s_Ex_group (12 : Int32) σ) < v1 then (s_Ex_group (12 : Int32) σ) else v1) σ)
def s_Ex_level_30_11 (v1 : Int32) (σ : nS) : Int32 := s_Ex_level_5_12 v1 σ
def s_Ex_level_5_11 (v1 : Int32) (σ : nS) : Int32 := if (σ 3 11) = (0 : Int32) then (s_Ex_level_30_11 v1 σ) else (s_Ex_level_30_11 (if (s_Ex_group (11 : Int32) σ) < v1 then (s_Ex_group (11 : Int32) σ) else v1) σ)
def s_Ex_level_30_10 (v1 : Int32) (σ : nS) : Int32 := s_Ex_level_5_11 v1 σ
def s_Ex_level_5_10 (v1 : Int32) (σ : nS) : Int32 := if (σ 3 10) = (0 : Int32) then (s_Ex_level_30_10 v1 σ) else (s_Ex_level_30_10 (if (s_Ex_group (10 : Int32) σ) < v1 then (s_Ex_group (10 : Int32) σ) else v1) σ)
def s_Ex_level_30_9 (v1 : Int32) (σ : nS) : Int32 := s_Ex_level_5_10 v1 σ
def s_Ex_level_5_9 (v1 : Int32) (σ : nS) : Int32 := if (σ 3 9) = (0 : Int32) then (s_Ex_level_30_9 v1 σ) else (s_Ex_level_30_9 (if (s_Ex_group (9 : Int32) σ) < v1 then (s_Ex_group (9 : Int32) σ) else v1) σ)
def s_Ex_level_30_8 (v1 : Int32) (σ : nS) : Int32 := s_Ex_level_5_9 v1 σ
def s_Ex_level_5_8 (v1 : Int32) (σ : nS) : Int32 := if (σ 3 8) = (0 : Int32) then (s_Ex_level_30_8 v1 σ) else (s_Ex_level_30_8 (if (s_Ex_group (8 : Int32) σ) < v1 then (s_Ex_group (8 : Int32) σ) else v1) σ)
def s_Ex_level_30_7 (v1 : Int32) (σ : nS) : Int32 := s_Ex_level_5_8 v1 σ
def s_Ex_level_5_7 (v1 : Int32) (σ : nS) : Int32 := if (σ 3 7) = (0 : Int32) then (s_Ex_level_30_7 v1 σ) else (s_Ex_level_30_7 (if (s_Ex_group (7 : Int32) σ) < v1 then (s_Ex_group (7 : Int32) σ) else v1) σ)
def s_Ex_level_30_6 (v1 : Int32) (σ : nS) : Int32 := s_Ex_level_5_7 v1 σ
def s_Ex_level_5_6 (v1 : Int32) (σ : nS) : Int32 := if (σ 3 6) = (0 : Int32) then (s_Ex_level_30_6 v1 σ) else (s_Ex_level_30_6 (if (s_Ex_group (6 : Int32) σ) < v1 then (s_Ex_group (6 : Int32) σ) else v1) σ)
def s_Ex_level_30_5 (v1 : Int32) (σ : nS) : Int32 := s_Ex_level_5_6 v1 σ
def s_Ex_level_5_5 (v1 : Int32) (σ : nS) : Int32 := if (σ 3 5) = (0 : Int32) then (s_Ex_level_30_5 v1 σ) else (s_Ex_level_30_5 (if (s_Ex_group (5 : Int32) σ) < v1 then (s_Ex_group (5 : Int32) σ) else v1) σ)
def s_Ex_level_30_4 (v1 : Int32) (σ : nS) : Int32 := s_Ex_level_5_5 v1 σ
def s_Ex_level_5_4 (v1 : Int32) (σ : nS) : Int32 := if (σ 3 4) = (0 : Int32) then (s_Ex_level_30_4 v1 σ) else (s_Ex_level_30_4 (if (s_Ex_group (4 : Int32) σ) < v1 then (s_Ex_group (4 : Int32) σ) else v1) σ)
def s_Ex_level_30_3 (v1 : Int32) (σ : nS) : Int32 := s_Ex_level_5_4 v1 σ
def s_Ex_level_5_3 (v1 : Int32) (σ : nS) : Int32 := if (σ 3 3) = (0 : Int32) then (s_Ex_level_30_3 v1 σ) else (s_Ex_level_30_3 (if (s_Ex_group (3 : Int32) σ) < v1 then (s_Ex_group (3 : Int32) σ) else v1) σ)
def s_Ex_level_30_2 (v1 : Int32) (σ : nS) : Int32 := s_Ex_level_5_3 v1 σ
def s_Ex_level_5_2 (σ : nS) : Int32 := if (σ 3 2) = (0 : Int32) then (s_Ex_level_30_2 (8 : Int32) σ) else (s_Ex_level_30_2 (if (s_Ex_group (2 : Int32) σ) < (8 : Int32) then (s_Ex_group (2 : Int32) σ) else (8 : Int32)) σ)
def s_Ex_level (σ : nS) : Int32 := s_Ex_level_5_2 σ
def s_Ex_due_75 (σ : nS) : Int32 := (0 : Int32)
def s_Ex_due_4_16 (v1 : Int32) (σ : nS) : Int32 := if v1 = (0 : Int32) then (s_Ex_due_75 σ) else (if (s_Ex_level σ) ≤ (s_Ex_group v1 σ) then (s_Ex_due_75 σ) else (v1))
def s_Ex_due_49_15 (v1 : Int32) (σ : nS) : Int32 := s_Ex_due_4_16 v1 σ
def s_Ex_due_47_15 (σ : nS) : Int32 := s_Ex_due_49_15 (15 : Int32) σ
def s_Ex_due_4_15 (v1 : Int32) (σ : nS) : Int32 := if (σ 2 15) = (0 : Int32) then (s_Ex_due_49_15 v1 σ) else (if (σ 1 15) = (0 : Int32) then (s_Ex_due_49_15 v1 σ) else (if v1 = (0 : Int32) then (s_Ex_due_47_15 σ) else (if (σ 4 (v1).toNatClampNeg) ≤ (σ 4 15) then (s_Ex_due_49_15 v1 σ) else (s_Ex_due_47_15 σ))))
def s_Ex_due_49_14 (v1 : Int32) (σ : nS) : Int32 := s_Ex_due_4_15 v1 σ
def s_Ex_due_47_14 (σ : nS) : Int32 := s_Ex_due_49_14 (14 : Int32) σ
def s_Ex_due_4_14 (v1 : Int32) (σ : nS) : Int32 := if (σ 2 14) = (0 : Int32) then (s_Ex_due_49_14 v1 σ) else (if (σ 1 14) = (0 : Int32) then (s_Ex_due_49_14 v1 σ) else (if v1 = (0 : Int32) then (s_Ex_due_47_14 σ) else (if (σ 4 (v1).toNatClampNeg) ≤ (σ 4 14) then (s_Ex_due_49_14 v1 σ) else (s_Ex_due_47_14 σ))))
def s_Ex_due_49_13 (v1 : Int32) (σ : nS) : Int32 := s_Ex_due_4_14 v1 σ
def s_Ex_due_47_13 (σ : nS) : Int32 := s_Ex_due_49_13 (13 : Int32) σ
def s_Ex_due_4_13 (v1 : Int32) (σ : nS) : Int32 := if (σ 2 13) = (0 : Int32) then (s_Ex_due_49_13 v1 σ) else (if (σ 1 13) = (0 : Int32) then (s_Ex_due_49_13 v1 σ) else (if v1 = (0 : Int32) then (s_Ex_due_47_13 σ) else (if (σ 4 (v1).toNatClampNeg) ≤ (σ 4 13) then (s_Ex_due_49_13 v1 σ) else (s_Ex_due_47_13 σ))))
def s_Ex_due_49_12 (v1 : Int32) (σ : nS) : Int32 := s_Ex_due_4_13 v1 σ
def s_Ex_due_47_12 (σ : nS) : Int32 := s_Ex_due_49_12 (12 : Int32) σ
def s_Ex_due_4_12 (v1 : Int32) (σ : nS) : Int32 := if (σ 2 12) = (0 : Int32) then (s_Ex_due_49_12 v1 σ) else (if (σ 1 12) = (0 : Int32) then (s_Ex_due_49_12 v1 σ) else (if v1 = (0 : Int32) then (s_Ex_due_47_12 σ) else (if (σ 4 (v1).toNatClampNeg) ≤ (σ 4 12) then (s_Ex_due_49_12 v1 σ) else (s_Ex_due_47_12 σ))))
def s_Ex_due_49_11 (v1 : Int32) (σ : nS) : Int32 := s_Ex_due_4_12 v1 σ
def s_Ex_due_47_11 (σ : nS) : Int32 := s_Ex_due_49_11 (11 : Int32) σ
def s_Ex_due_4_11 (v1 : Int32) (σ : nS) : Int32 := if (σ 2 11) = (0 : Int32) then (s_Ex_due_49_11 v1 σ) else (if (σ 1 11) = (0 : Int32) then (s_Ex_due_49_11 v1 σ) else (if v1 = (0 : Int32) then (s_Ex_due_47_11 σ) else (if (σ 4 (v1).toNatClampNeg) ≤ (σ 4 11) then (s_Ex_due_49_11 v1 σ) else (s_Ex_due_47_11 σ))))
def s_Ex_due_49_10 (v1 : Int32) (σ : nS) : Int32 := s_Ex_due_4_11 v1 σ
def s_Ex_due_47_10 (σ : nS) : Int32 := s_Ex_due_49_10 (10 : Int32) σ
def s_Ex_due_4_10 (v1 : Int32) (σ : nS) : Int32 := if (σ 2 10) = (0 : Int32) then (s_Ex_due_49_10 v1 σ) else (if (σ 1 10) = (0 : Int32) then (s_Ex_due_49_10 v1 σ) else (if v1 = (0 : Int32) then (s_Ex_due_47_10 σ) else (if (σ 4 (v1).toNatClampNeg) ≤ (σ 4 10) then (s_Ex_due_49_10 v1 σ) else (s_Ex_due_47_10 σ))))
def s_Ex_due_49_9 (v1 : Int32) (σ : nS) : Int32 := s_Ex_due_4_10 v1 σ
def s_Ex_due_47_9 (σ : nS) : Int32 := s_Ex_due_49_9 (9 : Int32) σ
def s_Ex_due_4_9 (v1 : Int32) (σ : nS) : Int32 := if (σ 2 9) = (0 : Int32) then (s_Ex_due_49_9 v1 σ) else (if (σ 1 9) = (0 : Int32) then (s_Ex_due_49_9 v1 σ) else (if v1 = (0 : Int32) then (s_Ex_due_47_9 σ) else (if (σ 4 (v1).toNatClampNeg) ≤ (σ 4 9) then (s_Ex_due_49_9 v1 σ) else (s_Ex_due_47_9 σ))))
def s_Ex_due_49_8 (v1 : Int32) (σ : nS) : Int32 := s_Ex_due_4_9 v1 σ
def s_Ex_due_47_8 (σ : nS) : Int32 := s_Ex_due_49_8 (8 : Int32) σ
def s_Ex_due_4_8 (v1 : Int32) (σ : nS) : Int32 := if (σ 2 8) = (0 : Int32) then (s_Ex_due_49_8 v1 σ) else (if (σ 1 8) = (0 : Int32) then (s_Ex_due_49_8 v1 σ) else (if v1 = (0 : Int32) then (s_Ex_due_47_8 σ) else (if (σ 4 (v1).toNatClampNeg) ≤ (σ 4 8) then (s_Ex_due_49_8 v1 σ) else (s_Ex_due_47_8 σ))))
def s_Ex_due_49_7 (v1 : Int32) (σ : nS) : Int32 := s_Ex_due_4_8 v1 σ
def s_Ex_due_47_7 (σ : nS) : Int32 := s_Ex_due_49_7 (7 : Int32) σ
def s_Ex_due_4_7 (v1 : Int32) (σ : nS) : Int32 := if (σ 2 7) = (0 : Int32) then (s_Ex_due_49_7 v1 σ) else (if (σ 1 7) = (0 : Int32) then (s_Ex_due_49_7 v1 σ) else (if v1 = (0 : Int32) then (s_Ex_due_47_7 σ) else (if (σ 4 (v1).toNatClampNeg) ≤ (σ 4 7) then (s_Ex_due_49_7 v1 σ) else (s_Ex_due_47_7 σ))))
def s_Ex_due_49_6 (v1 : Int32) (σ : nS) : Int32 := s_Ex_due_4_7 v1 σ
def s_Ex_due_47_6 (σ : nS) : Int32 := s_Ex_due_49_6 (6 : Int32) σ
def s_Ex_due_4_6 (v1 : Int32) (σ : nS) : Int32 := if (σ 2 6) = (0 : Int32) then (s_Ex_due_49_6 v1 σ) else (if (σ 1 6) = (0 : Int32) then (s_Ex_due_49_6 v1 σ) else (if v1 = (0 : Int32) then (s_Ex_due_47_6 σ) else (if (σ 4 (v1).toNatClampNeg) ≤ (σ 4 6) then (s_Ex_due_49_6 v1 σ) else (s_Ex_due_47_6 σ))))
def s_Ex_due_49_5 (v1 : Int32) (σ : nS) : Int32 := s_Ex_due_4_6 v1 σ
def s_Ex_due_47_5 (σ : nS) : Int32 := s_Ex_due_49_5 (5 : Int32) σ
def s_Ex_due_4_5 (v1 : Int32) (σ : nS) : Int32 := if (σ 2 5) = (0 : Int32) then (s_Ex_due_49_5 v1 σ) else (if (σ 1 5) = (0 : Int32) then (s_Ex_due_49_5 v1 σ) else (if v1 = (0 : Int32) then (s_Ex_due_47_5 σ) else (if (σ 4 (v1).toNatClampNeg) ≤ (σ 4 5) then (s_Ex_due_49_5 v1 σ) else (s_Ex_due_47_5 σ))))
def s_Ex_due_49_4 (v1 : Int32) (σ : nS) : Int32 := s_Ex_due_4_5 v1 σ
def s_Ex_due_47_4 (σ : nS) : Int32 := s_Ex_due_49_4 (4 : Int32) σ
def s_Ex_due_4_4 (v1 : Int32) (σ : nS) : Int32 := if (σ 2 4) = (0 : Int32) then (s_Ex_due_49_4 v1 σ) else (if (σ 1 4) = (0 : Int32) then (s_Ex_due_49_4 v1 σ) else (if v1 = (0 : Int32) then (s_Ex_due_47_4 σ) else (if (σ 4 (v1).toNatClampNeg) ≤ (σ 4 4) then (s_Ex_due_49_4 v1 σ) else (s_Ex_due_47_4 σ))))
def s_Ex_due_49_3 (v1 : Int32) (σ : nS) : Int32 := s_Ex_due_4_4 v1 σ
def s_Ex_due_47_3 (σ : nS) : Int32 := s_Ex_due_49_3 (3 : Int32) σ
def s_Ex_due_4_3 (v1 : Int32) (σ : nS) : Int32 := if (σ 2 3) = (0 : Int32) then (s_Ex_due_49_3 v1 σ) else (if (σ 1 3) = (0 : Int32) then (s_Ex_due_49_3 v1 σ) else (if v1 = (0 : Int32) then (s_Ex_due_47_3 σ) else (if (σ 4 (v1).toNatClampNeg) ≤ (σ 4 3) then (s_Ex_due_49_3 v1 σ) else (s_Ex_due_47_3 σ))))
def s_Ex_due_49_2 (v1 : Int32) (σ : nS) : Int32 := s_Ex_due_4_3 v1 σ
def s_Ex_due_47_2 (σ : nS) : Int32 := s_Ex_due_49_2 (2 : Int32) σ
def s_Ex_due_4_2 (σ : nS) : Int32 := if (σ 2 2) = (0 : Int32) then (s_Ex_due_49_2 (0 : Int32) σ) else (if (σ 1 2) = (0 : Int32) then (s_Ex_due_49_2 (0 : Int32) σ) else (s_Ex_due_47_2 σ))
def s_Ex_due (σ : nS) : Int32 := s_Ex_due_4_2 σ
def s_Me_holdsFrame_21 : Bool := false
def s_Me_holdsFrame (v1 : Int32) : Bool := if v1 < (0 : Int32) then (s_Me_holdsFrame_21) else (if (992 : Int32) < v1 then (s_Me_holdsFrame_21) else (if (v1 &&& (3 : Int32)) = (0 : Int32) then (true) else (s_Me_holdsFrame_21)))
def s_Fl_packed_51 (k0 : Int32) (k1 : Bool) (σ : nS) : Int32 := (k0 + (bI k1))
def s_Fl_packed_38 (k0 : Int32) (k1 : Int32) (σ : nS) : Int32 := if (σ 8 7) = (0 : Int32) then (s_Fl_packed_51 (k0 + k1) false σ) else (s_Fl_packed_51 (k0 + k1) true σ)
def s_Fl_packed_25 (k0 : Int32) (k1 : Int32) (σ : nS) : Int32 := if (σ 8 6) = (0 : Int32) then (s_Fl_packed_38 (k0 + k1) (0 : Int32) σ) else (s_Fl_packed_38 (k0 + k1) (2 : Int32) σ)
def s_Fl_packed_13 (k0 : Int32) (σ : nS) : Int32 := if (σ 8 5) = (0 : Int32) then (s_Fl_packed_25 k0 (0 : Int32) σ) else (s_Fl_packed_25 k0 (4 : Int32) σ)
def s_Fl_packed (σ : nS) : Int32 := if (σ 8 4) = (0 : Int32) then (s_Fl_packed_13 (0 : Int32) σ) else (s_Fl_packed_13 (8 : Int32) σ)
def s_N_enter (v1 : Int32) (σ : nS) : nS := (up2 (up2 (up2 (up2 σ 3 (v1).toNatClampNeg (bI true)) 2 (v1).toNatClampNeg (bI false)) 8 10 v1) 0 15 (s_N_even (s_Me_load ((4 : Int32) * v1) (up2 (up2 (up2 σ 3 (v1).toNatClampNeg (bI true)) 2 (v1).toNatClampNeg (bI false)) 8 10 v1))))
def s_N_take_165 (v1 : Int32) (k2 : Int32) (σ : nS) : nS := ap1 (s_N_enter v1 (up2 (up2 σ 0 14 k2) 8 12 (((up2 σ 0 14 k2) 8 12) + (1 : Int32)))) fun σ1 => σ1
def s_N_take_128 (v1 : Int32) (v3 : Int32) (k1 : Int32) (k2 : Int32) (k3 : Int32) (σ : nS) : nS := ap1 (s_Me_store k1 ((k2 ||| k3) ||| (σ 8 10)) σ) fun σ1 => if ((up2 σ1 0 13 v3) 8 10) = (0 : Int32) then (s_N_take_165 v1 (-7 : Int32) (up2 σ1 0 13 v3)) else (s_N_take_165 v1 (-15 : Int32) (up2 σ1 0 13 v3))
def s_N_take_60_7 (v1 : Int32) (v2 : Bool) (v3 : Int32) (σ : nS) : nS := if v2 = true then (s_N_take_128 v1 v3 (v3 + (28 : Int32)) ((s_Fl_packed σ) <<< ((28 : Int32) &&& 31)) (512 : Int32) σ) else (s_N_take_128 v1 v3 (v3 + (28 : Int32)) ((s_Fl_packed σ) <<< ((28 : Int32) &&& 31)) (0 : Int32) σ)
def s_N_take_60_6 (v1 : Int32) (v2 : Bool) (v3 : Int32) (σ : nS) : nS := ap1 (s_Me_store (v3 + (24 : Int32)) (σ 0 15) σ) fun σ1 => s_N_take_60_7 v1 v2 v3 σ1
def s_N_take_60_5 (v1 : Int32) (v2 : Bool) (v3 : Int32) (σ : nS) : nS := ap1 (s_Me_store (v3 + (20 : Int32)) (σ 0 14) σ) fun σ1 => s_N_take_60_6 v1 v2 v3 σ1
def s_N_take_60_4 (v1 : Int32) (v2 : Bool) (v3 : Int32) (σ : nS) : nS := ap1 (s_Me_store (v3 + (16 : Int32)) (σ 0 12) σ) fun σ1 => s_N_take_60_5 v1 v2 v3 σ1
def s_N_take_60_3 (v1 : Int32) (v2 : Bool) (v3 : Int32) (σ : nS) : nS := ap1 (s_Me_store (v3 + (12 : Int32)) (σ 0 3) σ) fun σ1 => s_N_take_60_4 v1 v2 v3 σ1
def s_N_take_60_2 (v1 : Int32) (v2 : Bool) (v3 : Int32) (σ : nS) : nS := ap1 (s_Me_store (v3 + (8 : Int32)) (σ 0 2) σ) fun σ1 => s_N_take_60_3 v1 v2 v3 σ1
def s_N_take_60_1 (v1 : Int32) (v2 : Bool) (v3 : Int32) (σ : nS) : nS := ap1 (s_Me_store (v3 + (4 : Int32)) (σ 0 1) σ) fun σ1 => s_N_take_60_2 v1 v2 v3 σ1
def s_N_take_60_0 (v1 : Int32) (v2 : Bool) (v3 : Int32) (σ : nS) : nS := ap1 (s_Me_store (v3 + (0 : Int32)) (σ 0 0) σ) fun σ1 => s_N_take_60_1 v1 v2 v3 σ1
def s_N_take_38 (v1 : Int32) (v2 : Bool) (k0 : Int32) (k1 : Int32) (σ : nS) : nS := if (s_Me_holdsFrame (k0 - k1)) = true then (s_N_take_60_0 v1 v2 (k0 - k1) σ) else ((up2 σ 8 11 (2 : Int32)))
def s_N_take_18 (v1 : Int32) (k0 : Bool) (σ : nS) : nS := if k0 = true then (s_N_take_38 v1 k0 ((σ 0 13) - (32 : Int32)) (4 : Int32) σ) else (s_N_take_38 v1 k0 ((σ 0 13) - (32 : Int32)) (0 : Int32) σ)
def s_N_take (v1 : Int32) (σ : nS) : nS := if ((σ 0 13) &&& (7 : Int32)) = (0 : Int32) then (s_N_take_18 v1 false σ) else (s_N_take_18 v1 true σ)
def s_Me_holdsHalf_21 : Bool := false
def s_Me_holdsHalf (v1 : Int32) : Bool := if v1 < (0 : Int32) then (s_Me_holdsHalf_21) else (if (1024 : Int32) ≤ v1 then (s_Me_holdsHalf_21) else (if (v1 &&& (1 : Int32)) = (0 : Int32) then (true) else (s_Me_holdsHalf_21)))
def s_Ar_bars_3_m1 (v1 : Int32) (v2 : Int32) (v3 : Bool) (σ : nS) : Bool := false
def s_Ar_bars_69_0 (v1 : Int32) (v2 : Int32) (v3 : Bool) (σ : nS) : Bool := s_Ar_bars_3_m1 v1 v2 v3 σ
def s_Ar_bars_63 (σ : nS) : Bool := true
def s_Ar_bars_67 (σ : nS) : Bool := false
def s_Ar_bars_3_0 (v1 : Int32) (v2 : Int32) (v3 : Bool) (σ : nS) : Bool := if v1 < (σ 5 0) then (s_Ar_bars_69_0 v1 v2 v3 σ) else (if ((σ 5 0) + (σ 10 0)) ≤ v1 then (s_Ar_bars_69_0 v1 v2 v3 σ) else (if (σ 6 0) < v2 then (s_Ar_bars_63 σ) else (if v3 = true then (if (σ 7 0) = (0 : Int32) then (s_Ar_bars_67 σ) else (s_Ar_bars_63 σ)) else (s_Ar_bars_67 σ))))
def s_Ar_bars_69_1 (v1 : Int32) (v2 : Int32) (v3 : Bool) (σ : nS) : Bool := s_Ar_bars_3_0 v1 v2 v3 σ
def s_Ar_bars_3_1 (v1 : Int32) (v2 : Int32) (v3 : Bool) (σ : nS) : Bool := if v1 < (σ 5 1) then (s_Ar_bars_69_1 v1 v2 v3 σ) else (if ((σ 5 1) + (σ 10 1)) ≤ v1 then (s_Ar_bars_69_1 v1 v2 v3 σ) else (if (σ 6 1) < v2 then (s_Ar_bars_63 σ) else (if v3 = true then (if (σ 7 1) = (0 : Int32) then (s_Ar_bars_67 σ) else (s_Ar_bars_63 σ)) else (s_Ar_bars_67 σ))))
def s_Ar_bars_69_2 (v1 : Int32) (v2 : Int32) (v3 : Bool) (σ : nS) : Bool := s_Ar_bars_3_1 v1 v2 v3 σ
def s_Ar_bars_3_2 (v1 : Int32) (v2 : Int32) (v3 : Bool) (σ : nS) : Bool := if v1 < (σ 5 2) then (s_Ar_bars_69_2 v1 v2 v3 σ) else (if ((σ 5 2) + (σ 10 2)) ≤ v1 then (s_Ar_bars_69_2 v1 v2 v3 σ) else (if (σ 6 2) < v2 then (s_Ar_bars_63 σ) else (if v3 = true then (if (σ 7 2) = (0 : Int32) then (s_Ar_bars_67 σ) else (s_Ar_bars_63 σ)) else (s_Ar_bars_67 σ))))
def s_Ar_bars_69_3 (v1 : Int32) (v2 : Int32) (v3 : Bool) (σ : nS) : Bool := s_Ar_bars_3_2 v1 v2 v3 σ
def s_Ar_bars_3_3 (v1 : Int32) (v2 : Int32) (v3 : Bool) (σ : nS) : Bool := if v1 < (σ 5 3) then (s_Ar_bars_69_3 v1 v2 v3 σ) else (if ((σ 5 3) + (σ 10 3)) ≤ v1 then (s_Ar_bars_69_3 v1 v2 v3 σ) else (if (σ 6 3) < v2 then (s_Ar_bars_63 σ) else (if v3 = true then (if (σ 7 3) = (0 : Int32) then (s_Ar_bars_67 σ) else (s_Ar_bars_63 σ)) else (s_Ar_bars_67 σ))))
def s_Ar_bars (v1 : Int32) (v2 : Int32) (v3 : Bool) (σ : nS) : Bool := s_Ar_bars_3_3 v1 v2 v3 σ
def s_N_fetchFault (σ : nS) : Int32 := if (s_Me_holdsHalf (σ 0 15)) = true then (if (s_Ar_bars (σ 0 15) (1 : Int32) true σ) = true then ((4 : Int32)) else ((0 : Int32))) else ((5 : Int32))
def s_Me_half (v1 : Int32) (σ : nS) : Int32 := ((ush (s_Me_load v1 σ) ((8 : Int32) * (v1 &&& (2 : Int32)))) &&& (65535 : Int32))
def s_N_fetch (σ : nS) : Int32 × nS := ((s_Me_half (σ 0 15) (up2 σ 0 15 ((σ 0 15) + (2 : Int32)))), (up2 σ 0 15 ((σ 0 15) + (2 : Int32))))
def s_Fl_ofResult_23 (k1 : Bool) (σ : nS) : nS := (up2 σ 8 5 (bI k1))
def s_Fl_ofResult_10 (v1 : Int32) (k1 : Bool) (σ : nS) : nS := if v1 = (0 : Int32) then (s_Fl_ofResult_23 true (up2 σ 8 4 (bI k1))) else (s_Fl_ofResult_23 false (up2 σ 8 4 (bI k1)))
def s_Fl_ofResult (v1 : Int32) (σ : nS) : nS := if (0 : Int32) ≤ v1 then (s_Fl_ofResult_10 v1 false σ) else (s_Fl_ofResult_10 v1 true σ)
def s_N_shift_107 (v2 : Int32) (k1 : Int32) (k2 : Int32) (σ : nS) : Int32 × nS := ap1 (s_Fl_ofResult ((up2 σ 0 (k1).toNatClampNeg k2) 0 (v2).toNatClampNeg) (up2 σ 0 (k1).toNatClampNeg k2)) fun σ1 => ((0 : Int32), σ1)
def s_N_shift_73 (v2 : Int32) (v3 : Int32) (v4 : Int32) (v5 : Int32) (σ : nS) : Int32 × nS := if v5 = (0 : Int32) then (s_N_shift_107 v2 v2 (v3 <<< (v4 &&& 31)) σ) else (if v5 = (1 : Int32) then (s_N_shift_107 v2 v2 (ush v3 v4) σ) else (s_N_shift_107 v2 v2 (v3 >>> (v4 &&& 31)) σ))
def s_N_shift_70 (v2 : Int32) (v3 : Int32) (v4 : Int32) (v5 : Int32) (k1 : Bool) (σ : nS) : Int32 × nS := s_N_shift_73 v2 v3 v4 v5 (up2 σ 8 6 (bI k1))
def s_N_shift_59 (v2 : Int32) (v3 : Int32) (v4 : Int32) (v5 : Int32) (k1 : Int32) (k2 : Int32) (σ : nS) : Int32 × nS := if ((ush k1 k2) &&& (1 : Int32)) = (0 : Int32) then (s_N_shift_70 v2 v3 v4 v5 false σ) else (s_N_shift_70 v2 v3 v4 v5 true σ)
def s_N_shift (v1 : Int32) (σ : nS) : Int32 × nS := if ((v1 >>> ((6 : Int32) &&& 31)) &&& (31 : Int32)) = (0 : Int32) then (s_N_shift_73 (v1 &&& (7 : Int32)) (σ 0 (((v1 >>> ((3 : Int32) &&& 31)) &&& (7 : Int32))).toNatClampNeg) ((v1 >>> ((6 : Int32) &&& 31)) &&& (31 : Int32)) (v1 >>> ((11 : Int32) &&& 31)) σ) else (if (v1 >>> ((11 : Int32) &&& 31)) = (0 : Int32) then (s_N_shift_59 (v1 &&& (7 : Int32)) (σ 0 (((v1 >>> ((3 : Int32) &&& 31)) &&& (7 : Int32))).toNatClampNeg) ((v1 >>> ((6 : Int32) &&& 31)) &&& (31 : Int32)) (v1 >>> ((11 : Int32) &&& 31)) (σ 0 (((v1 >>> ((3 : Int32) &&& 31)) &&& (7 : Int32))).toNatClampNeg) ((32 : Int32) - ((v1 >>> ((6 : Int32) &&& 31)) &&& (31 : Int32))) σ) else (s_N_shift_59 (v1 &&& (7 : Int32)) (σ 0 (((v1 >>> ((3 : Int32) &&& 31)) &&& (7 : Int32))).toNatClampNeg) ((v1 >>> ((6 : Int32) &&& 31)) &&& (31 : Int32)) (v1 >>> ((11 : Int32) &&& 31)) (σ 0 (((v1 >>> ((3 : Int32) &&& 31)) &&& (7 : Int32))).toNatClampNeg) (((v1 >>> ((6 : Int32) &&& 31)) &&& (31 : Int32)) - (1 : Int32)) σ))
def s_Fl_sum_67 (v8 : Int32) (k1 : Bool) (σ : nS) : Int32 × nS := ap1 (s_Fl_ofResult v8 (up2 σ 8 7 (bI k1))) fun σ1 => (v8, σ1)
def s_Fl_sum_49 (v4 : Int64) (v8 : Int32) (k1 : Bool) (σ : nS) : Int32 × nS := if (lg_cmp v4 (v8).toInt64) = (0 : Int32) then (s_Fl_sum_67 v8 false (up2 σ 8 6 (bI k1))) else (s_Fl_sum_67 v8 true (up2 σ 8 6 (bI k1)))
def s_Fl_sum (v1 : Int32) (v2 : Int32) (v3 : Int32) (σ : nS) : Int32 × nS := if (lg_cmp (lush ((((v1).toInt64 &&& (4294967295 : Int64)) + ((v2).toInt64 &&& (4294967295 : Int64))) + (v3).toInt64) (32 : Int32)) (0 : Int64)) = (0 : Int32) then (s_Fl_sum_49 (((v1).toInt64 + (v2).toInt64) + (v3).toInt64) ((((v1).toInt64 + (v2).toInt64) + (v3).toInt64)).toInt32 false σ) else (s_Fl_sum_49 (((v1).toInt64 + (v2).toInt64) + (v3).toInt64) ((((v1).toInt64 + (v2).toInt64) + (v3).toInt64)).toInt32 true σ)
def s_Fl_difference (v1 : Int32) (v2 : Int32) (σ : nS) : Int32 × nS := ap2 (s_Fl_sum v1 (v2 ^^^ (-1 : Int32)) (1 : Int32) σ) fun r1 σ1 => (r1, σ1)
def s_N_addThree (v1 : Int32) (σ : nS) : Int32 × nS := if ((v1 >>> ((9 : Int32) &&& 31)) &&& (3 : Int32)) = (0 : Int32) then (ap2 (s_Fl_sum (σ 0 (((v1 >>> ((3 : Int32) &&& 31)) &&& (7 : Int32))).toNatClampNeg) (σ 0 (((v1 >>> ((6 : Int32) &&& 31)) &&& (7 : Int32))).toNatClampNeg) (0 : Int32) σ) fun r1 σ1 => ((0 : Int32), (up2 σ1 0 ((v1 &&& (7 : Int32))).toNatClampNeg r1))) else if ((v1 >>> ((9 : Int32) &&& 31)) &&& (3 : Int32)) = (1 : Int32) then (ap2 (s_Fl_difference (σ 0 (((v1 >>> ((3 : Int32) &&& 31)) &&& (7 : Int32))).toNatClampNeg) (σ 0 (((v1 >>> ((6 : Int32) &&& 31)) &&& (7 : Int32))).toNatClampNeg) σ) fun r1 σ1 => ((0 : Int32), (up2 σ1 0 ((v1 &&& (7 : Int32))).toNatClampNeg r1))) else (((6 : Int32), σ))
def s_N_withNumber_128 (σ : nS) : Int32 × nS := ((0 : Int32), σ)
def s_N_withNumber (v1 : Int32) (σ : nS) : Int32 × nS := if ((v1 >>> ((11 : Int32) &&& 31)) &&& (3 : Int32)) = (0 : Int32) then (ap1 (s_Fl_ofResult (v1 &&& (255 : Int32)) (up2 σ 0 (((v1 >>> ((8 : Int32) &&& 31)) &&& (7 : Int32))).toNatClampNeg (v1 &&& (255 : Int32)))) fun σ1 => s_N_withNumber_128 σ1) else if ((v1 >>> ((11 : Int32) &&& 31)) &&& (3 : Int32)) = (1 : Int32) then (ap2 (s_Fl_difference (σ 0 (((v1 >>> ((8 : Int32) &&& 31)) &&& (7 : Int32))).toNatClampNeg) (v1 &&& (255 : Int32)) σ) fun r1 σ1 => s_N_withNumber_128 σ1) else if ((v1 >>> ((11 : Int32) &&& 31)) &&& (3 : Int32)) = (2 : Int32) then (ap2 (s_Fl_sum (σ 0 (((v1 >>> ((8 : Int32) &&& 31)) &&& (7 : Int32))).toNatClampNeg) (v1 &&& (255 : Int32)) (0 : Int32) σ) fun r1 σ1 => s_N_withNumber_128 (up2 σ1 0 (((v1 >>> ((8 : Int32) &&& 31)) &&& (7 : Int32))).toNatClampNeg r1)) else (ap2 (s_Fl_difference (σ 0 (((v1 >>> ((8 : Int32) &&& 31)) &&& (7 : Int32))).toNatClampNeg) (v1 &&& (255 : Int32)) σ) fun r1 σ1 => s_N_withNumber_128 (up2 σ1 0 (((v1 >>> ((8 : Int32) &&& 31)) &&& (7 : Int32))).toNatClampNeg r1))
def s_N_bits (v1 : Int32) (v2 : Int32) (σ : nS) : Int32 × nS := ap1 (s_Fl_ofResult v2 (up2 σ 0 (v1).toNatClampNeg v2)) fun σ1 => ((0 : Int32), σ1)
def s_Fl_carry (σ : nS) : Int32 := if (σ 8 6) = (0 : Int32) then ((0 : Int32)) else ((1 : Int32))
def s_N_combine (v1 : Int32) (σ : nS) : Int32 × nS := if ((v1 >>> ((6 : Int32) &&& 31)) &&& (15 : Int32)) = (0 : Int32) then (ap2 (s_N_bits (v1 &&& (7 : Int32)) ((σ 0 ((v1 &&& (7 : Int32))).toNatClampNeg) &&& (σ 0 (((v1 >>> ((3 : Int32) &&& 31)) &&& (7 : Int32))).toNatClampNeg)) σ) fun r1 σ1 => (r1, σ1)) else if ((v1 >>> ((6 : Int32) &&& 31)) &&& (15 : Int32)) = (1 : Int32) then (ap2 (s_N_bits (v1 &&& (7 : Int32)) ((σ 0 ((v1 &&& (7 : Int32))).toNatClampNeg) ^^^ (σ 0 (((v1 >>> ((3 : Int32) &&& 31)) &&& (7 : Int32))).toNatClampNeg)) σ) fun r1 σ1 => (r1, σ1)) else if ((v1 >>> ((6 : Int32) &&& 31)) &&& (15 : Int32)) = (2 : Int32) then (((6 : Int32), σ)) else if ((v1 >>> ((6 : Int32) &&& 31)) &&& (15 : Int32)) = (3 : Int32) then (((6 : Int32), σ)) else if ((v1 >>> ((6 : Int32) &&& 31)) &&& (15 : Int32)) = (4 : Int32) then (((6 : Int32), σ)) else if ((v1 >>> ((6 : Int32) &&& 31)) &&& (15 : Int32)) = (5 : Int32) then (ap2 (s_Fl_sum (σ 0 ((v1 &&& (7 : Int32))).toNatClampNeg) (σ 0 (((v1 >>> ((3 : Int32) &&& 31)) &&& (7 : Int32))).toNatClampNeg) (s_Fl_carry σ) σ) fun r1 σ1 => ((0 : Int32), (up2 σ1 0 ((v1 &&& (7 : Int32))).toNatClampNeg r1))) else if ((v1 >>> ((6 : Int32) &&& 31)) &&& (15 : Int32)) = (6 : Int32) then (ap2 (s_Fl_sum (σ 0 ((v1 &&& (7 : Int32))).toNatClampNeg) ((σ 0 (((v1 >>> ((3 : Int32) &&& 31)) &&& (7 : Int32))).toNatClampNeg) ^^^ (-1 : Int32)) (s_Fl_carry σ) σ) fun r1 σ1 => ((0 : Int32), (up2 σ1 0 ((v1 &&& (7 : Int32))).toNatClampNeg r1))) else if ((v1 >>> ((6 : Int32) &&& 31)) &&& (15 : Int32)) = (7 : Int32) then (((6 : Int32), σ)) else if ((v1 >>> ((6 : Int32) &&& 31)) &&& (15 : Int32)) = (8 : Int32) then (ap1 (s_Fl_ofResult ((σ 0 ((v1 &&& (7 : Int32))).toNatClampNeg) &&& (σ 0 (((v1 >>> ((3 : Int32) &&& 31)) &&& (7 : Int32))).toNatClampNeg)) σ) fun σ1 => ((0 : Int32), σ1)) else if ((v1 >>> ((6 : Int32) &&& 31)) &&& (15 : Int32)) = (9 : Int32) then (ap2 (s_Fl_difference (0 : Int32) (σ 0 (((v1 >>> ((3 : Int32) &&& 31)) &&& (7 : Int32))).toNatClampNeg) σ) fun r1 σ1 => ((0 : Int32), (up2 σ1 0 ((v1 &&& (7 : Int32))).toNatClampNeg r1))) else if ((v1 >>> ((6 : Int32) &&& 31)) &&& (15 : Int32)) = (10 : Int32) then (ap2 (s_Fl_difference (σ 0 ((v1 &&& (7 : Int32))).toNatClampNeg) (σ 0 (((v1 >>> ((3 : Int32) &&& 31)) &&& (7 : Int32))).toNatClampNeg) σ) fun r1 σ1 => ((0 : Int32), σ1)) else if ((v1 >>> ((6 : Int32) &&& 31)) &&& (15 : Int32)) = (11 : Int32) then (((6 : Int32), σ)) else if ((v1 >>> ((6 : Int32) &&& 31)) &&& (15 : Int32)) = (12 : Int32) then (ap2 (s_N_bits (v1 &&& (7 : Int32)) ((σ 0 ((v1 &&& (7 : Int32))).toNatClampNeg) ||| (σ 0 (((v1 >>> ((3 : Int32) &&& 31)) &&& (7 : Int32))).toNatClampNeg)) σ) fun r1 σ1 => (r1, σ1)) else if ((v1 >>> ((6 : Int32) &&& 31)) &&& (15 : Int32)) = (13 : Int32) then (ap2 (s_N_bits (v1 &&& (7 : Int32)) ((σ 0 ((v1 &&& (7 : Int32))).toNatClampNeg) * (σ 0 (((v1 >>> ((3 : Int32) &&& 31)) &&& (7 : Int32))).toNatClampNeg)) σ) fun r1 σ1 => (r1, σ1)) else if ((v1 >>> ((6 : Int32) &&& 31)) &&& (15 : Int32)) = (14 : Int32) then (ap2 (s_N_bits (v1 &&& (7 : Int32)) ((σ 0 ((v1 &&& (7 : Int32))).toNatClampNeg) &&& ((σ 0 (((v1 >>> ((3 : Int32) &&& 31)) &&& (7 : Int32))).toNatClampNeg) ^^^ (-1 : Int32))) σ) fun r1 σ1 => (r1, σ1)) else if ((v1 >>> ((6 : Int32) &&& 31)) &&& (15 : Int32)) = (15 : Int32) then (ap2 (s_N_bits (v1 &&& (7 : Int32)) ((σ 0 (((v1 >>> ((3 : Int32) &&& 31)) &&& (7 : Int32))).toNatClampNeg) ^^^ (-1 : Int32)) σ) fun r1 σ1 => (r1, σ1)) else (((6 : Int32), σ))
def s_N_copyAny_57 (k1 : Int32) (k2 : Int32) (σ : nS) : Int32 × nS := ((0 : Int32), (up2 σ 0 (k1).toNatClampNeg k2))
def s_N_copyAny (v1 : Int32) (σ : nS) : Int32 × nS := if (((v1 >>> ((4 : Int32) &&& 31)) &&& (8 : Int32)) + (v1 &&& (7 : Int32))) = (15 : Int32) then (((6 : Int32), σ)) else (if ((v1 >>> ((3 : Int32) &&& 31)) &&& (15 : Int32)) = (15 : Int32) then (s_N_copyAny_57 (((v1 >>> ((4 : Int32) &&& 31)) &&& (8 : Int32)) + (v1 &&& (7 : Int32))) ((σ 0 15) + (2 : Int32)) σ) else (s_N_copyAny_57 (((v1 >>> ((4 : Int32) &&& 31)) &&& (8 : Int32)) + (v1 &&& (7 : Int32))) (σ 0 (((v1 >>> ((3 : Int32) &&& 31)) &&& (15 : Int32))).toNatClampNeg) σ))
def s_N_branchTo_21 (σ : nS) : Int32 × nS := ((6 : Int32), σ)
def s_N_branchTo (v1 : Int32) (σ : nS) : Int32 × nS := if (v1 &&& (135 : Int32)) = (0 : Int32) then (if ((v1 >>> ((3 : Int32) &&& 31)) &&& (15 : Int32)) = (15 : Int32) then (s_N_branchTo_21 σ) else (((0 : Int32), (up2 σ 0 15 (σ 0 (((v1 >>> ((3 : Int32) &&& 31)) &&& (15 : Int32))).toNatClampNeg))))) else (s_N_branchTo_21 σ)
def s_N_copyOrBranch (v1 : Int32) (σ : nS) : Int32 × nS := if (v1 >>> ((8 : Int32) &&& 31)) = (70 : Int32) then (ap2 (s_N_copyAny v1 σ) fun r1 σ1 => (r1, σ1)) else if (v1 >>> ((8 : Int32) &&& 31)) = (71 : Int32) then (ap2 (s_N_branchTo v1 σ) fun r1 σ1 => (r1, σ1)) else (((6 : Int32), σ))
def s_N_faultAlong_36_9 (v1 : Int32) (v2 : Int32) (v3 : Int32) (σ : nS) : Int32 := (0 : Int32)
def s_N_faultAlong_36_8 (v1 : Int32) (v2 : Int32) (v3 : Int32) (σ : nS) : Int32 := if v2 ≤ (8 : Int32) then ((0 : Int32)) else (if (s_Ar_bars (v1 + (32 : Int32)) v3 false σ) = true then ((4 : Int32)) else (s_N_faultAlong_36_9 v1 v2 v3 σ))
def s_N_faultAlong_36_7 (v1 : Int32) (v2 : Int32) (v3 : Int32) (σ : nS) : Int32 := if v2 ≤ (7 : Int32) then ((0 : Int32)) else (if (s_Ar_bars (v1 + (28 : Int32)) v3 false σ) = true then ((4 : Int32)) else (s_N_faultAlong_36_8 v1 v2 v3 σ))
def s_N_faultAlong_36_6 (v1 : Int32) (v2 : Int32) (v3 : Int32) (σ : nS) : Int32 := if v2 ≤ (6 : Int32) then ((0 : Int32)) else (if (s_Ar_bars (v1 + (24 : Int32)) v3 false σ) = true then ((4 : Int32)) else (s_N_faultAlong_36_7 v1 v2 v3 σ))
def s_N_faultAlong_36_5 (v1 : Int32) (v2 : Int32) (v3 : Int32) (σ : nS) : Int32 := if v2 ≤ (5 : Int32) then ((0 : Int32)) else (if (s_Ar_bars (v1 + (20 : Int32)) v3 false σ) = true then ((4 : Int32)) else (s_N_faultAlong_36_6 v1 v2 v3 σ))
def s_N_faultAlong_36_4 (v1 : Int32) (v2 : Int32) (v3 : Int32) (σ : nS) : Int32 := if v2 ≤ (4 : Int32) then ((0 : Int32)) else (if (s_Ar_bars (v1 + (16 : Int32)) v3 false σ) = true then ((4 : Int32)) else (s_N_faultAlong_36_5 v1 v2 v3 σ))
def s_N_faultAlong_36_3 (v1 : Int32) (v2 : Int32) (v3 : Int32) (σ : nS) : Int32 := if v2 ≤ (3 : Int32) then ((0 : Int32)) else (if (s_Ar_bars (v1 + (12 : Int32)) v3 false σ) = true then ((4 : Int32)) else (s_N_faultAlong_36_4 v1 v2 v3 σ))
def s_N_faultAlong_36_2 (v1 : Int32) (v2 : Int32) (v3 : Int32) (σ : nS) : Int32 := if v2 ≤ (2 : Int32) then ((0 : Int32)) else (if (s_Ar_bars (v1 + (8 : Int32)) v3 false σ) = true then ((4 : Int32)) else (s_N_faultAlong_36_3 v1 v2 v3 σ))
def s_N_faultAlong_36_1 (v1 : Int32) (v2 : Int32) (v3 : Int32) (σ : nS) : Int32 := if v2 ≤ (1 : Int32) then ((0 : Int32)) else (if (s_Ar_bars (v1 + (4 : Int32)) v3 false σ) = true then ((4 : Int32)) else (s_N_faultAlong_36_2 v1 v2 v3 σ))
def s_N_faultAlong_36_0 (v1 : Int32) (v2 : Int32) (v3 : Int32) (σ : nS) : Int32 := if v2 ≤ (0 : Int32) then ((0 : Int32)) else (if (s_Ar_bars (v1 + (0 : Int32)) v3 false σ) = true then ((4 : Int32)) else (s_N_faultAlong_36_1 v1 v2 v3 σ))
def s_N_faultAlong_3_9 (v1 : Int32) (v2 : Int32) (v3 : Int32) (σ : nS) : Int32 := s_N_faultAlong_36_0 v1 v2 v3 σ
def s_N_faultAlong_3_8 (v1 : Int32) (v2 : Int32) (v3 : Int32) (σ : nS) : Int32 := if v2 ≤ (8 : Int32) then (s_N_faultAlong_36_0 v1 v2 v3 σ) else (if (s_Me_holdsWord (v1 + (32 : Int32))) = true then (s_N_faultAlong_3_9 v1 v2 v3 σ) else ((5 : Int32)))
def s_N_faultAlong_3_7 (v1 : Int32) (v2 : Int32) (v3 : Int32) (σ : nS) : Int32 := if v2 ≤ (7 : Int32) then (s_N_faultAlong_36_0 v1 v2 v3 σ) else (if (s_Me_holdsWord (v1 + (28 : Int32))) = true then (s_N_faultAlong_3_8 v1 v2 v3 σ) else ((5 : Int32)))
def s_N_faultAlong_3_6 (v1 : Int32) (v2 : Int32) (v3 : Int32) (σ : nS) : Int32 := if v2 ≤ (6 : Int32) then (s_N_faultAlong_36_0 v1 v2 v3 σ) else (if (s_Me_holdsWord (v1 + (24 : Int32))) = true then (s_N_faultAlong_3_7 v1 v2 v3 σ) else ((5 : Int32)))
def s_N_faultAlong_3_5 (v1 : Int32) (v2 : Int32) (v3 : Int32) (σ : nS) : Int32 := if v2 ≤ (5 : Int32) then (s_N_faultAlong_36_0 v1 v2 v3 σ) else (if (s_Me_holdsWord (v1 + (20 : Int32))) = true then (s_N_faultAlong_3_6 v1 v2 v3 σ) else ((5 : Int32)))
def s_N_faultAlong_3_4 (v1 : Int32) (v2 : Int32) (v3 : Int32) (σ : nS) : Int32 := if v2 ≤ (4 : Int32) then (s_N_faultAlong_36_0 v1 v2 v3 σ) else (if (s_Me_holdsWord (v1 + (16 : Int32))) = true then (s_N_faultAlong_3_5 v1 v2 v3 σ) else ((5 : Int32)))
def s_N_faultAlong_3_3 (v1 : Int32) (v2 : Int32) (v3 : Int32) (σ : nS) : Int32 := if v2 ≤ (3 : Int32) then (s_N_faultAlong_36_0 v1 v2 v3 σ) else (if (s_Me_holdsWord (v1 + (12 : Int32))) = true then (s_N_faultAlong_3_4 v1 v2 v3 σ) else ((5 : Int32)))
def s_N_faultAlong_3_2 (v1 : Int32) (v2 : Int32) (v3 : Int32) (σ : nS) : Int32 := if v2 ≤ (2 : Int32) then (s_N_faultAlong_36_0 v1 v2 v3 σ) else (if (s_Me_holdsWord (v1 + (8 : Int32))) = true then (s_N_faultAlong_3_3 v1 v2 v3 σ) else ((5 : Int32)))
def s_N_faultAlong_3_1 (v1 : Int32) (v2 : Int32) (v3 : Int32) (σ : nS) : Int32 := if v2 ≤ (1 : Int32) then (s_N_faultAlong_36_0 v1 v2 v3 σ) else (if (s_Me_holdsWord (v1 + (4 : Int32))) = true then (s_N_faultAlong_3_2 v1 v2 v3 σ) else ((5 : Int32)))
def s_N_faultAlong_3_0 (v1 : Int32) (v2 : Int32) (v3 : Int32) (σ : nS) : Int32 := if v2 ≤ (0 : Int32) then (s_N_faultAlong_36_0 v1 v2 v3 σ) else (if (s_Me_holdsWord (v1 + (0 : Int32))) = true then (s_N_faultAlong_3_1 v1 v2 v3 σ) else ((5 : Int32)))
def s_N_faultAlong (v1 : Int32) (v2 : Int32) (v3 : Int32) (σ : nS) : Int32 := s_N_faultAlong_3_0 v1 v2 v3 σ
def o_N_faultAlong_36_9 (v1 : Int32) (v2 : Int32) (v3 : Int32) (σ : nS) : Prop := v2 ≤ (9 : Int32) ∧ (True)
def o_N_faultAlong_36_8 (v1 : Int32) (v2 : Int32) (v3 : Int32) (σ : nS) : Prop := if v2 ≤ (8 : Int32) then (True) else (if (s_Ar_bars (v1 + (32 : Int32)) v3 false σ) = true then (True) else (o_N_faultAlong_36_9 v1 v2 v3 σ))
def o_N_faultAlong_36_7 (v1 : Int32) (v2 : Int32) (v3 : Int32) (σ : nS) : Prop := if v2 ≤ (7 : Int32) then (True) else (if (s_Ar_bars (v1 + (28 : Int32)) v3 false σ) = true then (True) else (o_N_faultAlong_36_8 v1 v2 v3 σ))
def o_N_faultAlong_36_6 (v1 : Int32) (v2 : Int32) (v3 : Int32) (σ : nS) : Prop := if v2 ≤ (6 : Int32) then (True) else (if (s_Ar_bars (v1 + (24 : Int32)) v3 false σ) = true then (True) else (o_N_faultAlong_36_7 v1 v2 v3 σ))
def o_N_faultAlong_36_5 (v1 : Int32) (v2 : Int32) (v3 : Int32) (σ : nS) : Prop := if v2 ≤ (5 : Int32) then (True) else (if (s_Ar_bars (v1 + (20 : Int32)) v3 false σ) = true then (True) else (o_N_faultAlong_36_6 v1 v2 v3 σ))
def o_N_faultAlong_36_4 (v1 : Int32) (v2 : Int32) (v3 : Int32) (σ : nS) : Prop := if v2 ≤ (4 : Int32) then (True) else (if (s_Ar_bars (v1 + (16 : Int32)) v3 false σ) = true then (True) else (o_N_faultAlong_36_5 v1 v2 v3 σ))
def o_N_faultAlong_36_3 (v1 : Int32) (v2 : Int32) (v3 : Int32) (σ : nS) : Prop := if v2 ≤ (3 : Int32) then (True) else (if (s_Ar_bars (v1 + (12 : Int32)) v3 false σ) = true then (True) else (o_N_faultAlong_36_4 v1 v2 v3 σ))
def o_N_faultAlong_36_2 (v1 : Int32) (v2 : Int32) (v3 : Int32) (σ : nS) : Prop := if v2 ≤ (2 : Int32) then (True) else (if (s_Ar_bars (v1 + (8 : Int32)) v3 false σ) = true then (True) else (o_N_faultAlong_36_3 v1 v2 v3 σ))
def o_N_faultAlong_36_1 (v1 : Int32) (v2 : Int32) (v3 : Int32) (σ : nS) : Prop := if v2 ≤ (1 : Int32) then (True) else (if (s_Ar_bars (v1 + (4 : Int32)) v3 false σ) = true then (True) else (o_N_faultAlong_36_2 v1 v2 v3 σ))
def o_N_faultAlong_36_0 (v1 : Int32) (v2 : Int32) (v3 : Int32) (σ : nS) : Prop := if v2 ≤ (0 : Int32) then (True) else (if (s_Ar_bars (v1 + (0 : Int32)) v3 false σ) = true then (True) else (o_N_faultAlong_36_1 v1 v2 v3 σ))
def o_N_faultAlong_3_9 (v1 : Int32) (v2 : Int32) (v3 : Int32) (σ : nS) : Prop := v2 ≤ (9 : Int32) ∧ (o_N_faultAlong_36_0 v1 v2 v3 σ)
def o_N_faultAlong_3_8 (v1 : Int32) (v2 : Int32) (v3 : Int32) (σ : nS) : Prop := if v2 ≤ (8 : Int32) then (o_N_faultAlong_36_0 v1 v2 v3 σ) else (if (s_Me_holdsWord (v1 + (32 : Int32))) = true then (o_N_faultAlong_3_9 v1 v2 v3 σ) else (True))
def o_N_faultAlong_3_7 (v1 : Int32) (v2 : Int32) (v3 : Int32) (σ : nS) : Prop := if v2 ≤ (7 : Int32) then (o_N_faultAlong_36_0 v1 v2 v3 σ) else (if (s_Me_holdsWord (v1 + (28 : Int32))) = true then (o_N_faultAlong_3_8 v1 v2 v3 σ) else (True))
def o_N_faultAlong_3_6 (v1 : Int32) (v2 : Int32) (v3 : Int32) (σ : nS) : Prop := if v2 ≤ (6 : Int32) then (o_N_faultAlong_36_0 v1 v2 v3 σ) else (if (s_Me_holdsWord (v1 + (24 : Int32))) = true then (o_N_faultAlong_3_7 v1 v2 v3 σ) else (True))
def o_N_faultAlong_3_5 (v1 : Int32) (v2 : Int32) (v3 : Int32) (σ : nS) : Prop := if v2 ≤ (5 : Int32) then (o_N_faultAlong_36_0 v1 v2 v3 σ) else (if (s_Me_holdsWord (v1 + (20 : Int32))) = true then (o_N_faultAlong_3_6 v1 v2 v3 σ) else (True))
def o_N_faultAlong_3_4 (v1 : Int32) (v2 : Int32) (v3 : Int32) (σ : nS) : Prop := if v2 ≤ (4 : Int32) then (o_N_faultAlong_36_0 v1 v2 v3 σ) else (if (s_Me_holdsWord (v1 + (16 : Int32))) = true then (o_N_faultAlong_3_5 v1 v2 v3 σ) else (True))
def o_N_faultAlong_3_3 (v1 : Int32) (v2 : Int32) (v3 : Int32) (σ : nS) : Prop := if v2 ≤ (3 : Int32) then (o_N_faultAlong_36_0 v1 v2 v3 σ) else (if (s_Me_holdsWord (v1 + (12 : Int32))) = true then (o_N_faultAlong_3_4 v1 v2 v3 σ) else (True))
def o_N_faultAlong_3_2 (v1 : Int32) (v2 : Int32) (v3 : Int32) (σ : nS) : Prop := if v2 ≤ (2 : Int32) then (o_N_faultAlong_36_0 v1 v2 v3 σ) else (if (s_Me_holdsWord (v1 + (8 : Int32))) = true then (o_N_faultAlong_3_3 v1 v2 v3 σ) else (True))
def o_N_faultAlong_3_1 (v1 : Int32) (v2 : Int32) (v3 : Int32) (σ : nS) : Prop := if v2 ≤ (1 : Int32) then (o_N_faultAlong_36_0 v1 v2 v3 σ) else (if (s_Me_holdsWord (v1 + (4 : Int32))) = true then (o_N_faultAlong_3_2 v1 v2 v3 σ) else (True))
def o_N_faultAlong_3_0 (v1 : Int32) (v2 : Int32) (v3 : Int32) (σ : nS) : Prop := if v2 ≤ (0 : Int32) then (o_N_faultAlong_36_0 v1 v2 v3 σ) else (if (s_Me_holdsWord (v1 + (0 : Int32))) = true then (o_N_faultAlong_3_1 v1 v2 v3 σ) else (True))
def o_N_faultAlong (v1 : Int32) (v2 : Int32) (v3 : Int32) (σ : nS) : Prop := o_N_faultAlong_3_0 v1 v2 v3 σ
def s_N_move_78 (σ : nS) : Int32 × nS := ((0 : Int32), σ)
def s_N_move_29 (v2 : Int32) (v3 : Int32) (v4 : Bool) (k1 : Int32) (k3 : Int32) (σ : nS) : Int32 × nS := if (s_N_faultAlong k1 (1 : Int32) k3 σ) = (0 : Int32) then (if v4 = true then (s_N_move_78 (up2 σ 0 (v2).toNatClampNeg (s_Me_load v3 σ))) else (ap1 (s_Me_store v3 (σ 0 (v2).toNatClampNeg) σ) fun σ1 => s_N_move_78 σ1)) else (((s_N_faultAlong k1 (1 : Int32) k3 σ), σ))
def s_N_move_14 (v2 : Int32) (v3 : Int32) (k0 : Bool) (σ : nS) : Int32 × nS := if k0 = true then (s_N_move_29 v2 v3 k0 v3 (1 : Int32) σ) else (s_N_move_29 v2 v3 k0 v3 (2 : Int32) σ)
def s_N_move (v1 : Int32) (v2 : Int32) (v3 : Int32) (σ : nS) : Int32 × nS := if ((v1 >>> ((11 : Int32) &&& 31)) &&& (1 : Int32)) = (0 : Int32) then (s_N_move_14 v2 v3 false σ) else (s_N_move_14 v2 v3 true σ)
def o_N_move_78 (σ : nS) : Prop := True
def o_N_move_29 (v2 : Int32) (v3 : Int32) (v4 : Bool) (k1 : Int32) (k3 : Int32) (σ : nS) : Prop := o_N_faultAlong k1 (1 : Int32) k3 σ ∧ (if (s_N_faultAlong k1 (1 : Int32) k3 σ) = (0 : Int32) then (if v4 = true then (o_N_move_78 (up2 σ 0 (v2).toNatClampNeg (s_Me_load v3 σ))) else (ap1 (s_Me_store v3 (σ 0 (v2).toNatClampNeg) σ) fun σ1 => (o_N_move_78 σ1))) else (True))
def o_N_move_14 (v2 : Int32) (v3 : Int32) (k0 : Bool) (σ : nS) : Prop := if k0 = true then (o_N_move_29 v2 v3 k0 v3 (1 : Int32) σ) else (o_N_move_29 v2 v3 k0 v3 (2 : Int32) σ)
def o_N_move (v1 : Int32) (v2 : Int32) (v3 : Int32) (σ : nS) : Prop := if ((v1 >>> ((11 : Int32) &&& 31)) &&& (1 : Int32)) = (0 : Int32) then (o_N_move_14 v2 v3 false σ) else (o_N_move_14 v2 v3 true σ)
def s_N_push_47_9 (v1 : Int32) (v3 : Int32) (v5 : Int32) (σ : nS) : Int32 × nS := ((0 : Int32), (up2 σ 0 13 v3))
def s_N_push_94_8 (v1 : Int32) (v3 : Int32) (v5 : Int32) (σ : nS) : Int32 × nS := s_N_push_47_9 v1 v3 v5 σ
def s_N_push_87_8 (v1 : Int32) (v3 : Int32) (v5 : Int32) (k1 : Int32) (σ : nS) : Int32 × nS := ap1 (s_Me_store k1 (σ 0 14) σ) fun σ1 => s_N_push_94_8 v1 v3 (v5 + (4 : Int32)) σ1
def s_N_push_47_8 (v1 : Int32) (v3 : Int32) (v5 : Int32) (σ : nS) : Int32 × nS := if ((v1 >>> ((8 : Int32) &&& 31)) &&& (1 : Int32)) = (0 : Int32) then (s_N_push_94_8 v1 v3 v5 σ) else (s_N_push_87_8 v1 v3 v5 v5 σ)
def s_N_push_94_7 (v1 : Int32) (v3 : Int32) (v5 : Int32) (σ : nS) : Int32 × nS := s_N_push_47_8 v1 v3 v5 σ
def s_N_push_87_7 (v1 : Int32) (v3 : Int32) (v5 : Int32) (k1 : Int32) (σ : nS) : Int32 × nS := ap1 (s_Me_store k1 (σ 0 7) σ) fun σ1 => s_N_push_94_7 v1 v3 (v5 + (4 : Int32)) σ1
def s_N_push_47_7 (v1 : Int32) (v3 : Int32) (v5 : Int32) (σ : nS) : Int32 × nS := if ((v1 >>> ((7 : Int32) &&& 31)) &&& (1 : Int32)) = (0 : Int32) then (s_N_push_94_7 v1 v3 v5 σ) else (s_N_push_87_7 v1 v3 v5 v5 σ)
def s_N_push_94_6 (v1 : Int32) (v3 : Int32) (v5 : Int32) (σ : nS) : Int32 × nS := s_N_push_47_7 v1 v3 v5 σ
def s_N_push_87_6 (v1 : Int32) (v3 : Int32) (v5 : Int32) (k1 : Int32) (σ : nS) : Int32 × nS := ap1 (s_Me_store k1 (σ 0 6) σ) fun σ1 => s_N_push_94_6 v1 v3 (v5 + (4 : Int32)) σ1
def s_N_push_47_6 (v1 : Int32) (v3 : Int32) (v5 : Int32) (σ : nS) : Int32 × nS := if ((v1 >>> ((6 : Int32) &&& 31)) &&& (1 : Int32)) = (0 : Int32) then (s_N_push_94_6 v1 v3 v5 σ) else (s_N_push_87_6 v1 v3 v5 v5 σ)
def s_N_push_94_5 (v1 : Int32) (v3 : Int32) (v5 : Int32) (σ : nS) : Int32 × nS := s_N_push_47_6 v1 v3 v5 σ
def s_N_push_87_5 (v1 : Int32) (v3 : Int32) (v5 : Int32) (k1 : Int32) (σ : nS) : Int32 × nS := ap1 (s_Me_store k1 (σ 0 5) σ) fun σ1 => s_N_push_94_5 v1 v3 (v5 + (4 : Int32)) σ1
def s_N_push_47_5 (v1 : Int32) (v3 : Int32) (v5 : Int32) (σ : nS) : Int32 × nS := if ((v1 >>> ((5 : Int32) &&& 31)) &&& (1 : Int32)) = (0 : Int32) then (s_N_push_94_5 v1 v3 v5 σ) else (s_N_push_87_5 v1 v3 v5 v5 σ)
def s_N_push_94_4 (v1 : Int32) (v3 : Int32) (v5 : Int32) (σ : nS) : Int32 × nS := s_N_push_47_5 v1 v3 v5 σ
def s_N_push_87_4 (v1 : Int32) (v3 : Int32) (v5 : Int32) (k1 : Int32) (σ : nS) : Int32 × nS := ap1 (s_Me_store k1 (σ 0 4) σ) fun σ1 => s_N_push_94_4 v1 v3 (v5 + (4 : Int32)) σ1
def s_N_push_47_4 (v1 : Int32) (v3 : Int32) (v5 : Int32) (σ : nS) : Int32 × nS := if ((v1 >>> ((4 : Int32) &&& 31)) &&& (1 : Int32)) = (0 : Int32) then (s_N_push_94_4 v1 v3 v5 σ) else (s_N_push_87_4 v1 v3 v5 v5 σ)
def s_N_push_94_3 (v1 : Int32) (v3 : Int32) (v5 : Int32) (σ : nS) : Int32 × nS := s_N_push_47_4 v1 v3 v5 σ
def s_N_push_87_3 (v1 : Int32) (v3 : Int32) (v5 : Int32) (k1 : Int32) (σ : nS) : Int32 × nS := ap1 (s_Me_store k1 (σ 0 3) σ) fun σ1 => s_N_push_94_3 v1 v3 (v5 + (4 : Int32)) σ1
def s_N_push_47_3 (v1 : Int32) (v3 : Int32) (v5 : Int32) (σ : nS) : Int32 × nS := if ((v1 >>> ((3 : Int32) &&& 31)) &&& (1 : Int32)) = (0 : Int32) then (s_N_push_94_3 v1 v3 v5 σ) else (s_N_push_87_3 v1 v3 v5 v5 σ)
def s_N_push_94_2 (v1 : Int32) (v3 : Int32) (v5 : Int32) (σ : nS) : Int32 × nS := s_N_push_47_3 v1 v3 v5 σ
def s_N_push_87_2 (v1 : Int32) (v3 : Int32) (v5 : Int32) (k1 : Int32) (σ : nS) : Int32 × nS := ap1 (s_Me_store k1 (σ 0 2) σ) fun σ1 => s_N_push_94_2 v1 v3 (v5 + (4 : Int32)) σ1
def s_N_push_47_2 (v1 : Int32) (v3 : Int32) (v5 : Int32) (σ : nS) : Int32 × nS := if ((v1 >>> ((2 : Int32) &&& 31)) &&& (1 : Int32)) = (0 : Int32) then (s_N_push_94_2 v1 v3 v5 σ) else (s_N_push_87_2 v1 v3 v5 v5 σ)
def s_N_push_94_1 (v1 : Int32) (v3 : Int32) (v5 : Int32) (σ : nS) : Int32 × nS := s_N_push_47_2 v1 v3 v5 σ
def s_N_push_87_1 (v1 : Int32) (v3 : Int32) (v5 : Int32) (k1 : Int32) (σ : nS) : Int32 × nS := ap1 (s_Me_store k1 (σ 0 1) σ) fun σ1 => s_N_push_94_1 v1 v3 (v5 + (4 : Int32)) σ1
def s_N_push_47_1 (v1 : Int32) (v3 : Int32) (v5 : Int32) (σ : nS) : Int32 × nS := if ((v1 >>> ((1 : Int32) &&& 31)) &&& (1 : Int32)) = (0 : Int32) then (s_N_push_94_1 v1 v3 v5 σ) else (s_N_push_87_1 v1 v3 v5 v5 σ)
def s_N_push_94_0 (v1 : Int32) (v3 : Int32) (v5 : Int32) (σ : nS) : Int32 × nS := s_N_push_47_1 v1 v3 v5 σ
def s_N_push_87_0 (v1 : Int32) (v3 : Int32) (v5 : Int32) (k1 : Int32) (σ : nS) : Int32 × nS := ap1 (s_Me_store k1 (σ 0 0) σ) fun σ1 => s_N_push_94_0 v1 v3 (v5 + (4 : Int32)) σ1
def s_N_push_47_0 (v1 : Int32) (v3 : Int32) (v5 : Int32) (σ : nS) : Int32 × nS := if ((v1 >>> ((0 : Int32) &&& 31)) &&& (1 : Int32)) = (0 : Int32) then (s_N_push_94_0 v1 v3 v5 σ) else (s_N_push_87_0 v1 v3 v5 v5 σ)
def s_N_push (v1 : Int32) (σ : nS) : Int32 × nS := if (s_In_bitCount v1) = (0 : Int32) then (((6 : Int32), σ)) else (if (s_N_faultAlong ((σ 0 13) - ((4 : Int32) * (s_In_bitCount v1))) (s_In_bitCount v1) (2 : Int32) σ) = (0 : Int32) then (s_N_push_47_0 v1 ((σ 0 13) - ((4 : Int32) * (s_In_bitCount v1))) ((σ 0 13) - ((4 : Int32) * (s_In_bitCount v1))) σ) else (((s_N_faultAlong ((σ 0 13) - ((4 : Int32) * (s_In_bitCount v1))) (s_In_bitCount v1) (2 : Int32) σ), σ)))
def o_N_push_47_9 (v1 : Int32) (v3 : Int32) (v5 : Int32) (σ : nS) : Prop := True
def o_N_push_94_8 (v1 : Int32) (v3 : Int32) (v5 : Int32) (σ : nS) : Prop := o_N_push_47_9 v1 v3 v5 σ
def o_N_push_87_8 (v1 : Int32) (v3 : Int32) (v5 : Int32) (k1 : Int32) (σ : nS) : Prop := ap1 (s_Me_store k1 (σ 0 14) σ) fun σ1 => (o_N_push_94_8 v1 v3 (v5 + (4 : Int32)) σ1)
def o_N_push_47_8 (v1 : Int32) (v3 : Int32) (v5 : Int32) (σ : nS) : Prop := if ((v1 >>> ((8 : Int32) &&& 31)) &&& (1 : Int32)) = (0 : Int32) then (o_N_push_94_8 v1 v3 v5 σ) else (o_N_push_87_8 v1 v3 v5 v5 σ)
def o_N_push_94_7 (v1 : Int32) (v3 : Int32) (v5 : Int32) (σ : nS) : Prop := o_N_push_47_8 v1 v3 v5 σ
def o_N_push_87_7 (v1 : Int32) (v3 : Int32) (v5 : Int32) (k1 : Int32) (σ : nS) : Prop := ap1 (s_Me_store k1 (σ 0 7) σ) fun σ1 => (o_N_push_94_7 v1 v3 (v5 + (4 : Int32)) σ1)
def o_N_push_47_7 (v1 : Int32) (v3 : Int32) (v5 : Int32) (σ : nS) : Prop := if ((v1 >>> ((7 : Int32) &&& 31)) &&& (1 : Int32)) = (0 : Int32) then (o_N_push_94_7 v1 v3 v5 σ) else (o_N_push_87_7 v1 v3 v5 v5 σ)
def o_N_push_94_6 (v1 : Int32) (v3 : Int32) (v5 : Int32) (σ : nS) : Prop := o_N_push_47_7 v1 v3 v5 σ
def o_N_push_87_6 (v1 : Int32) (v3 : Int32) (v5 : Int32) (k1 : Int32) (σ : nS) : Prop := ap1 (s_Me_store k1 (σ 0 6) σ) fun σ1 => (o_N_push_94_6 v1 v3 (v5 + (4 : Int32)) σ1)
def o_N_push_47_6 (v1 : Int32) (v3 : Int32) (v5 : Int32) (σ : nS) : Prop := if ((v1 >>> ((6 : Int32) &&& 31)) &&& (1 : Int32)) = (0 : Int32) then (o_N_push_94_6 v1 v3 v5 σ) else (o_N_push_87_6 v1 v3 v5 v5 σ)
def o_N_push_94_5 (v1 : Int32) (v3 : Int32) (v5 : Int32) (σ : nS) : Prop := o_N_push_47_6 v1 v3 v5 σ
def o_N_push_87_5 (v1 : Int32) (v3 : Int32) (v5 : Int32) (k1 : Int32) (σ : nS) : Prop := ap1 (s_Me_store k1 (σ 0 5) σ) fun σ1 => (o_N_push_94_5 v1 v3 (v5 + (4 : Int32)) σ1)
def o_N_push_47_5 (v1 : Int32) (v3 : Int32) (v5 : Int32) (σ : nS) : Prop := if ((v1 >>> ((5 : Int32) &&& 31)) &&& (1 : Int32)) = (0 : Int32) then (o_N_push_94_5 v1 v3 v5 σ) else (o_N_push_87_5 v1 v3 v5 v5 σ)
def o_N_push_94_4 (v1 : Int32) (v3 : Int32) (v5 : Int32) (σ : nS) : Prop := o_N_push_47_5 v1 v3 v5 σ
def o_N_push_87_4 (v1 : Int32) (v3 : Int32) (v5 : Int32) (k1 : Int32) (σ : nS) : Prop := ap1 (s_Me_store k1 (σ 0 4) σ) fun σ1 => (o_N_push_94_4 v1 v3 (v5 + (4 : Int32)) σ1)
def o_N_push_47_4 (v1 : Int32) (v3 : Int32) (v5 : Int32) (σ : nS) : Prop := if ((v1 >>> ((4 : Int32) &&& 31)) &&& (1 : Int32)) = (0 : Int32) then (o_N_push_94_4 v1 v3 v5 σ) else (o_N_push_87_4 v1 v3 v5 v5 σ)
def o_N_push_94_3 (v1 : Int32) (v3 : Int32) (v5 : Int32) (σ : nS) : Prop := o_N_push_47_4 v1 v3 v5 σ
def o_N_push_87_3 (v1 : Int32) (v3 : Int32) (v5 : Int32) (k1 : Int32) (σ : nS) : Prop := ap1 (s_Me_store k1 (σ 0 3) σ) fun σ1 => (o_N_push_94_3 v1 v3 (v5 + (4 : Int32)) σ1)
def o_N_push_47_3 (v1 : Int32) (v3 : Int32) (v5 : Int32) (σ : nS) : Prop := if ((v1 >>> ((3 : Int32) &&& 31)) &&& (1 : Int32)) = (0 : Int32) then (o_N_push_94_3 v1 v3 v5 σ) else (o_N_push_87_3 v1 v3 v5 v5 σ)
def o_N_push_94_2 (v1 : Int32) (v3 : Int32) (v5 : Int32) (σ : nS) : Prop := o_N_push_47_3 v1 v3 v5 σ
def o_N_push_87_2 (v1 : Int32) (v3 : Int32) (v5 : Int32) (k1 : Int32) (σ : nS) : Prop := ap1 (s_Me_store k1 (σ 0 2) σ) fun σ1 => (o_N_push_94_2 v1 v3 (v5 + (4 : Int32)) σ1)
def o_N_push_47_2 (v1 : Int32) (v3 : Int32) (v5 : Int32) (σ : nS) : Prop := if ((v1 >>> ((2 : Int32) &&& 31)) &&& (1 : Int32)) = (0 : Int32) then (o_N_push_94_2 v1 v3 v5 σ) else (o_N_push_87_2 v1 v3 v5 v5 σ)
def o_N_push_94_1 (v1 : Int32) (v3 : Int32) (v5 : Int32) (σ : nS) : Prop := o_N_push_47_2 v1 v3 v5 σ
def o_N_push_87_1 (v1 : Int32) (v3 : Int32) (v5 : Int32) (k1 : Int32) (σ : nS) : Prop := ap1 (s_Me_store k1 (σ 0 1) σ) fun σ1 => (o_N_push_94_1 v1 v3 (v5 + (4 : Int32)) σ1)
def o_N_push_47_1 (v1 : Int32) (v3 : Int32) (v5 : Int32) (σ : nS) : Prop := if ((v1 >>> ((1 : Int32) &&& 31)) &&& (1 : Int32)) = (0 : Int32) then (o_N_push_94_1 v1 v3 v5 σ) else (o_N_push_87_1 v1 v3 v5 v5 σ)
def o_N_push_94_0 (v1 : Int32) (v3 : Int32) (v5 : Int32) (σ : nS) : Prop := o_N_push_47_1 v1 v3 v5 σ
def o_N_push_87_0 (v1 : Int32) (v3 : Int32) (v5 : Int32) (k1 : Int32) (σ : nS) : Prop := ap1 (s_Me_store k1 (σ 0 0) σ) fun σ1 => (o_N_push_94_0 v1 v3 (v5 + (4 : Int32)) σ1)
def o_N_push_47_0 (v1 : Int32) (v3 : Int32) (v5 : Int32) (σ : nS) : Prop := if ((v1 >>> ((0 : Int32) &&& 31)) &&& (1 : Int32)) = (0 : Int32) then (o_N_push_94_0 v1 v3 v5 σ) else (o_N_push_87_0 v1 v3 v5 v5 σ)
def o_N_push (v1 : Int32) (σ : nS) : Prop := if (s_In_bitCount v1) = (0 : Int32) then (True) else (o_N_faultAlong ((σ 0 13) - ((4 : Int32) * (s_In_bitCount v1))) (s_In_bitCount v1) (2 : Int32) σ ∧ (if (s_N_faultAlong ((σ 0 13) - ((4 : Int32) * (s_In_bitCount v1))) (s_In_bitCount v1) (2 : Int32) σ) = (0 : Int32) then (o_N_push_47_0 v1 ((σ 0 13) - ((4 : Int32) * (s_In_bitCount v1))) ((σ 0 13) - ((4 : Int32) * (s_In_bitCount v1))) σ) else (True)))
def s_N_pop_40_9 (v1 : Int32) (v3 : Int32) (σ : nS) : Int32 × nS := ((0 : Int32), (up2 σ 0 13 v3))
def s_N_pop_86_8 (v1 : Int32) (v3 : Int32) (σ : nS) : Int32 × nS := s_N_pop_40_9 v1 v3 σ
def s_N_pop_74_8 (v1 : Int32) (v3 : Int32) (σ : nS) : Int32 × nS := s_N_pop_86_8 v1 (v3 + (4 : Int32)) (up2 σ 0 15 (s_Me_load v3 σ))
def s_N_pop_40_8 (v1 : Int32) (v3 : Int32) (σ : nS) : Int32 × nS := if ((v1 >>> ((8 : Int32) &&& 31)) &&& (1 : Int32)) = (0 : Int32) then (s_N_pop_86_8 v1 v3 σ) else (s_N_pop_74_8 v1 v3 σ)
def s_N_pop_86_7 (v1 : Int32) (v3 : Int32) (σ : nS) : Int32 × nS := s_N_pop_40_8 v1 v3 σ
def s_N_pop_74_7 (v1 : Int32) (v3 : Int32) (σ : nS) : Int32 × nS := s_N_pop_86_7 v1 (v3 + (4 : Int32)) (up2 σ 0 7 (s_Me_load v3 σ))
def s_N_pop_40_7 (v1 : Int32) (v3 : Int32) (σ : nS) : Int32 × nS := if ((v1 >>> ((7 : Int32) &&& 31)) &&& (1 : Int32)) = (0 : Int32) then (s_N_pop_86_7 v1 v3 σ) else (s_N_pop_74_7 v1 v3 σ)
def s_N_pop_86_6 (v1 : Int32) (v3 : Int32) (σ : nS) : Int32 × nS := s_N_pop_40_7 v1 v3 σ
def s_N_pop_74_6 (v1 : Int32) (v3 : Int32) (σ : nS) : Int32 × nS := s_N_pop_86_6 v1 (v3 + (4 : Int32)) (up2 σ 0 6 (s_Me_load v3 σ))
def s_N_pop_40_6 (v1 : Int32) (v3 : Int32) (σ : nS) : Int32 × nS := if ((v1 >>> ((6 : Int32) &&& 31)) &&& (1 : Int32)) = (0 : Int32) then (s_N_pop_86_6 v1 v3 σ) else (s_N_pop_74_6 v1 v3 σ)
def s_N_pop_86_5 (v1 : Int32) (v3 : Int32) (σ : nS) : Int32 × nS := s_N_pop_40_6 v1 v3 σ
def s_N_pop_74_5 (v1 : Int32) (v3 : Int32) (σ : nS) : Int32 × nS := s_N_pop_86_5 v1 (v3 + (4 : Int32)) (up2 σ 0 5 (s_Me_load v3 σ))
def s_N_pop_40_5 (v1 : Int32) (v3 : Int32) (σ : nS) : Int32 × nS := if ((v1 >>> ((5 : Int32) &&& 31)) &&& (1 : Int32)) = (0 : Int32) then (s_N_pop_86_5 v1 v3 σ) else (s_N_pop_74_5 v1 v3 σ)
def s_N_pop_86_4 (v1 : Int32) (v3 : Int32) (σ : nS) : Int32 × nS := s_N_pop_40_5 v1 v3 σ
def s_N_pop_74_4 (v1 : Int32) (v3 : Int32) (σ : nS) : Int32 × nS := s_N_pop_86_4 v1 (v3 + (4 : Int32)) (up2 σ 0 4 (s_Me_load v3 σ))
def s_N_pop_40_4 (v1 : Int32) (v3 : Int32) (σ : nS) : Int32 × nS := if ((v1 >>> ((4 : Int32) &&& 31)) &&& (1 : Int32)) = (0 : Int32) then (s_N_pop_86_4 v1 v3 σ) else (s_N_pop_74_4 v1 v3 σ)
def s_N_pop_86_3 (v1 : Int32) (v3 : Int32) (σ : nS) : Int32 × nS := s_N_pop_40_4 v1 v3 σ
def s_N_pop_74_3 (v1 : Int32) (v3 : Int32) (σ : nS) : Int32 × nS := s_N_pop_86_3 v1 (v3 + (4 : Int32)) (up2 σ 0 3 (s_Me_load v3 σ))
def s_N_pop_40_3 (v1 : Int32) (v3 : Int32) (σ : nS) : Int32 × nS := if ((v1 >>> ((3 : Int32) &&& 31)) &&& (1 : Int32)) = (0 : Int32) then (s_N_pop_86_3 v1 v3 σ) else (s_N_pop_74_3 v1 v3 σ)
def s_N_pop_86_2 (v1 : Int32) (v3 : Int32) (σ : nS) : Int32 × nS := s_N_pop_40_3 v1 v3 σ
def s_N_pop_74_2 (v1 : Int32) (v3 : Int32) (σ : nS) : Int32 × nS := s_N_pop_86_2 v1 (v3 + (4 : Int32)) (up2 σ 0 2 (s_Me_load v3 σ))
def s_N_pop_40_2 (v1 : Int32) (v3 : Int32) (σ : nS) : Int32 × nS := if ((v1 >>> ((2 : Int32) &&& 31)) &&& (1 : Int32)) = (0 : Int32) then (s_N_pop_86_2 v1 v3 σ) else (s_N_pop_74_2 v1 v3 σ)
def s_N_pop_86_1 (v1 : Int32) (v3 : Int32) (σ : nS) : Int32 × nS := s_N_pop_40_2 v1 v3 σ
def s_N_pop_74_1 (v1 : Int32) (v3 : Int32) (σ : nS) : Int32 × nS := s_N_pop_86_1 v1 (v3 + (4 : Int32)) (up2 σ 0 1 (s_Me_load v3 σ))
def s_N_pop_40_1 (v1 : Int32) (v3 : Int32) (σ : nS) : Int32 × nS := if ((v1 >>> ((1 : Int32) &&& 31)) &&& (1 : Int32)) = (0 : Int32) then (s_N_pop_86_1 v1 v3 σ) else (s_N_pop_74_1 v1 v3 σ)
def s_N_pop_86_0 (v1 : Int32) (v3 : Int32) (σ : nS) : Int32 × nS := s_N_pop_40_1 v1 v3 σ
def s_N_pop_74_0 (v1 : Int32) (v3 : Int32) (σ : nS) : Int32 × nS := s_N_pop_86_0 v1 (v3 + (4 : Int32)) (up2 σ 0 0 (s_Me_load v3 σ))
def s_N_pop_40_0 (v1 : Int32) (v3 : Int32) (σ : nS) : Int32 × nS := if ((v1 >>> ((0 : Int32) &&& 31)) &&& (1 : Int32)) = (0 : Int32) then (s_N_pop_86_0 v1 v3 σ) else (s_N_pop_74_0 v1 v3 σ)
def s_N_pop (v1 : Int32) (σ : nS) : Int32 × nS := if (s_In_bitCount v1) = (0 : Int32) then (((6 : Int32), σ)) else (if (s_N_faultAlong (σ 0 13) (s_In_bitCount v1) (1 : Int32) σ) = (0 : Int32) then (s_N_pop_40_0 v1 (σ 0 13) σ) else (((s_N_faultAlong (σ 0 13) (s_In_bitCount v1) (1 : Int32) σ), σ)))
def o_N_pop_40_9 (v1 : Int32) (v3 : Int32) (σ : nS) : Prop := True
def o_N_pop_86_8 (v1 : Int32) (v3 : Int32) (σ : nS) : Prop := o_N_pop_40_9 v1 v3 σ
def o_N_pop_74_8 (v1 : Int32) (v3 : Int32) (σ : nS) : Prop := o_N_pop_86_8 v1 (v3 + (4 : Int32)) (up2 σ 0 15 (s_Me_load v3 σ))
def o_N_pop_40_8 (v1 : Int32) (v3 : Int32) (σ : nS) : Prop := if ((v1 >>> ((8 : Int32) &&& 31)) &&& (1 : Int32)) = (0 : Int32) then (o_N_pop_86_8 v1 v3 σ) else (o_N_pop_74_8 v1 v3 σ)
def o_N_pop_86_7 (v1 : Int32) (v3 : Int32) (σ : nS) : Prop := o_N_pop_40_8 v1 v3 σ
def o_N_pop_74_7 (v1 : Int32) (v3 : Int32) (σ : nS) : Prop := o_N_pop_86_7 v1 (v3 + (4 : Int32)) (up2 σ 0 7 (s_Me_load v3 σ))
def o_N_pop_40_7 (v1 : Int32) (v3 : Int32) (σ : nS) : Prop := if ((v1 >>> ((7 : Int32) &&& 31)) &&& (1 : Int32)) = (0 : Int32) then (o_N_pop_86_7 v1 v3 σ) else (o_N_pop_74_7 v1 v3 σ)
def o_N_pop_86_6 (v1 : Int32) (v3 : Int32) (σ : nS) : Prop := o_N_pop_40_7 v1 v3 σ
def o_N_pop_74_6 (v1 : Int32) (v3 : Int32) (σ : nS) : Prop := o_N_pop_86_6 v1 (v3 + (4 : Int32)) (up2 σ 0 6 (s_Me_load v3 σ))
def o_N_pop_40_6 (v1 : Int32) (v3 : Int32) (σ : nS) : Prop := if ((v1 >>> ((6 : Int32) &&& 31)) &&& (1 : Int32)) = (0 : Int32) then (o_N_pop_86_6 v1 v3 σ) else (o_N_pop_74_6 v1 v3 σ)
def o_N_pop_86_5 (v1 : Int32) (v3 : Int32) (σ : nS) : Prop := o_N_pop_40_6 v1 v3 σ
def o_N_pop_74_5 (v1 : Int32) (v3 : Int32) (σ : nS) : Prop := o_N_pop_86_5 v1 (v3 + (4 : Int32)) (up2 σ 0 5 (s_Me_load v3 σ))
def o_N_pop_40_5 (v1 : Int32) (v3 : Int32) (σ : nS) : Prop := if ((v1 >>> ((5 : Int32) &&& 31)) &&& (1 : Int32)) = (0 : Int32) then (o_N_pop_86_5 v1 v3 σ) else (o_N_pop_74_5 v1 v3 σ)
def o_N_pop_86_4 (v1 : Int32) (v3 : Int32) (σ : nS) : Prop := o_N_pop_40_5 v1 v3 σ
def o_N_pop_74_4 (v1 : Int32) (v3 : Int32) (σ : nS) : Prop := o_N_pop_86_4 v1 (v3 + (4 : Int32)) (up2 σ 0 4 (s_Me_load v3 σ))
def o_N_pop_40_4 (v1 : Int32) (v3 : Int32) (σ : nS) : Prop := if ((v1 >>> ((4 : Int32) &&& 31)) &&& (1 : Int32)) = (0 : Int32) then (o_N_pop_86_4 v1 v3 σ) else (o_N_pop_74_4 v1 v3 σ)
def o_N_pop_86_3 (v1 : Int32) (v3 : Int32) (σ : nS) : Prop := o_N_pop_40_4 v1 v3 σ
def o_N_pop_74_3 (v1 : Int32) (v3 : Int32) (σ : nS) : Prop := o_N_pop_86_3 v1 (v3 + (4 : Int32)) (up2 σ 0 3 (s_Me_load v3 σ))
def o_N_pop_40_3 (v1 : Int32) (v3 : Int32) (σ : nS) : Prop := if ((v1 >>> ((3 : Int32) &&& 31)) &&& (1 : Int32)) = (0 : Int32) then (o_N_pop_86_3 v1 v3 σ) else (o_N_pop_74_3 v1 v3 σ)
def o_N_pop_86_2 (v1 : Int32) (v3 : Int32) (σ : nS) : Prop := o_N_pop_40_3 v1 v3 σ
def o_N_pop_74_2 (v1 : Int32) (v3 : Int32) (σ : nS) : Prop := o_N_pop_86_2 v1 (v3 + (4 : Int32)) (up2 σ 0 2 (s_Me_load v3 σ))
def o_N_pop_40_2 (v1 : Int32) (v3 : Int32) (σ : nS) : Prop := if ((v1 >>> ((2 : Int32) &&& 31)) &&& (1 : Int32)) = (0 : Int32) then (o_N_pop_86_2 v1 v3 σ) else (o_N_pop_74_2 v1 v3 σ)
def o_N_pop_86_1 (v1 : Int32) (v3 : Int32) (σ : nS) : Prop := o_N_pop_40_2 v1 v3 σ
def o_N_pop_74_1 (v1 : Int32) (v3 : Int32) (σ : nS) : Prop := o_N_pop_86_1 v1 (v3 + (4 : Int32)) (up2 σ 0 1 (s_Me_load v3 σ))
def o_N_pop_40_1 (v1 : Int32) (v3 : Int32) (σ : nS) : Prop := if ((v1 >>> ((1 : Int32) &&& 31)) &&& (1 : Int32)) = (0 : Int32) then (o_N_pop_86_1 v1 v3 σ) else (o_N_pop_74_1 v1 v3 σ)
def o_N_pop_86_0 (v1 : Int32) (v3 : Int32) (σ : nS) : Prop := o_N_pop_40_1 v1 v3 σ
def o_N_pop_74_0 (v1 : Int32) (v3 : Int32) (σ : nS) : Prop := o_N_pop_86_0 v1 (v3 + (4 : Int32)) (up2 σ 0 0 (s_Me_load v3 σ))
def o_N_pop_40_0 (v1 : Int32) (v3 : Int32) (σ : nS) : Prop := if ((v1 >>> ((0 : Int32) &&& 31)) &&& (1 : Int32)) = (0 : Int32) then (o_N_pop_86_0 v1 v3 σ) else (o_N_pop_74_0 v1 v3 σ)
def o_N_pop (v1 : Int32) (σ : nS) : Prop := if (s_In_bitCount v1) = (0 : Int32) then (True) else (o_N_faultAlong (σ 0 13) (s_In_bitCount v1) (1 : Int32) σ ∧ (if (s_N_faultAlong (σ 0 13) (s_In_bitCount v1) (1 : Int32) σ) = (0 : Int32) then (o_N_pop_40_0 v1 (σ 0 13) σ) else (True)))
def s_N_switchOrNothing_103 (σ : nS) : Int32 × nS := ((0 : Int32), σ)
def s_N_switchOrNothing (v1 : Int32) (σ : nS) : Int32 × nS := if v1 = (46689 : Int32) then (((0 : Int32), (up2 σ 8 3 (bI false)))) else if v1 = (46690 : Int32) then (((0 : Int32), (up2 σ 8 2 (bI false)))) else if v1 = (46705 : Int32) then (if (s_Ex_level σ) ≤ (-1 : Int32) then (s_N_switchOrNothing_103 σ) else (s_N_switchOrNothing_103 (up2 σ 8 3 (bI true)))) else if v1 = (46706 : Int32) then (((0 : Int32), (up2 σ 8 2 (bI true)))) else if v1 = (48896 : Int32) then (((0 : Int32), σ)) else (((6 : Int32), σ))
def s_N_stackOrSwitch_105 (k2 : Int32) (k3 : Int32) (σ : nS) : Int32 × nS := ((0 : Int32), (up2 σ 0 13 (k2 + k3)))
def s_N_stackOrSwitch (v1 : Int32) (σ : nS) : Int32 × nS := if ((v1 >>> ((8 : Int32) &&& 31)) &&& (15 : Int32)) = (0 : Int32) then (if (v1 &&& (128 : Int32)) = (0 : Int32) then (s_N_stackOrSwitch_105 (σ 0 13) ((4 : Int32) * (v1 &&& (127 : Int32))) σ) else (s_N_stackOrSwitch_105 (σ 0 13) (-((4 : Int32) * (v1 &&& (127 : Int32)))) σ)) else if ((v1 >>> ((8 : Int32) &&& 31)) &&& (15 : Int32)) = (1 : Int32) then (ap2 (s_N_switchOrNothing v1 σ) fun r1 σ1 => (r1, σ1)) else if ((v1 >>> ((8 : Int32) &&& 31)) &&& (15 : Int32)) = (2 : Int32) then (ap2 (s_N_switchOrNothing v1 σ) fun r1 σ1 => (r1, σ1)) else if ((v1 >>> ((8 : Int32) &&& 31)) &&& (15 : Int32)) = (3 : Int32) then (ap2 (s_N_switchOrNothing v1 σ) fun r1 σ1 => (r1, σ1)) else if ((v1 >>> ((8 : Int32) &&& 31)) &&& (15 : Int32)) = (4 : Int32) then (ap2 (s_N_push (v1 &&& (511 : Int32)) σ) fun r1 σ1 => (r1, σ1)) else if ((v1 >>> ((8 : Int32) &&& 31)) &&& (15 : Int32)) = (5 : Int32) then (ap2 (s_N_push (v1 &&& (511 : Int32)) σ) fun r1 σ1 => (r1, σ1)) else if ((v1 >>> ((8 : Int32) &&& 31)) &&& (15 : Int32)) = (6 : Int32) then (ap2 (s_N_switchOrNothing v1 σ) fun r1 σ1 => (r1, σ1)) else if ((v1 >>> ((8 : Int32) &&& 31)) &&& (15 : Int32)) = (7 : Int32) then (ap2 (s_N_switchOrNothing v1 σ) fun r1 σ1 => (r1, σ1)) else if ((v1 >>> ((8 : Int32) &&& 31)) &&& (15 : Int32)) = (8 : Int32) then (ap2 (s_N_switchOrNothing v1 σ) fun r1 σ1 => (r1, σ1)) else if ((v1 >>> ((8 : Int32) &&& 31)) &&& (15 : Int32)) = (9 : Int32) then (ap2 (s_N_switchOrNothing v1 σ) fun r1 σ1 => (r1, σ1)) else if ((v1 >>> ((8 : Int32) &&& 31)) &&& (15 : Int32)) = (10 : Int32) then (ap2 (s_N_switchOrNothing v1 σ) fun r1 σ1 => (r1, σ1)) else if ((v1 >>> ((8 : Int32) &&& 31)) &&& (15 : Int32)) = (11 : Int32) then (ap2 (s_N_switchOrNothing v1 σ) fun r1 σ1 => (r1, σ1)) else if ((v1 >>> ((8 : Int32) &&& 31)) &&& (15 : Int32)) = (12 : Int32) then (ap2 (s_N_pop (v1 &&& (511 : Int32)) σ) fun r1 σ1 => (r1, σ1)) else if ((v1 >>> ((8 : Int32) &&& 31)) &&& (15 : Int32)) = (13 : Int32) then (ap2 (s_N_pop (v1 &&& (511 : Int32)) σ) fun r1 σ1 => (r1, σ1)) else (ap2 (s_N_switchOrNothing v1 σ) fun r1 σ1 => (r1, σ1))
def o_N_stackOrSwitch_105 (k2 : Int32) (k3 : Int32) (σ : nS) : Prop := True
def o_N_stackOrSwitch (v1 : Int32) (σ : nS) : Prop := if ((v1 >>> ((8 : Int32) &&& 31)) &&& (15 : Int32)) = (0 : Int32) then (if (v1 &&& (128 : Int32)) = (0 : Int32) then (o_N_stackOrSwitch_105 (σ 0 13) ((4 : Int32) * (v1 &&& (127 : Int32))) σ) else (o_N_stackOrSwitch_105 (σ 0 13) (-((4 : Int32) * (v1 &&& (127 : Int32)))) σ)) else if ((v1 >>> ((8 : Int32) &&& 31)) &&& (15 : Int32)) = (1 : Int32) then (ap2 (s_N_switchOrNothing v1 σ) fun r1 σ1 => (True)) else if ((v1 >>> ((8 : Int32) &&& 31)) &&& (15 : Int32)) = (2 : Int32) then (ap2 (s_N_switchOrNothing v1 σ) fun r1 σ1 => (True)) else if ((v1 >>> ((8 : Int32) &&& 31)) &&& (15 : Int32)) = (3 : Int32) then (ap2 (s_N_switchOrNothing v1 σ) fun r1 σ1 => (True)) else if ((v1 >>> ((8 : Int32) &&& 31)) &&& (15 : Int32)) = (4 : Int32) then (o_N_push (v1 &&& (511 : Int32)) σ ∧ (ap2 (s_N_push (v1 &&& (511 : Int32)) σ) fun r1 σ1 => (True))) else if ((v1 >>> ((8 : Int32) &&& 31)) &&& (15 : Int32)) = (5 : Int32) then (o_N_push (v1 &&& (511 : Int32)) σ ∧ (ap2 (s_N_push (v1 &&& (511 : Int32)) σ) fun r1 σ1 => (True))) else if ((v1 >>> ((8 : Int32) &&& 31)) &&& (15 : Int32)) = (6 : Int32) then (ap2 (s_N_switchOrNothing v1 σ) fun r1 σ1 => (True)) else if ((v1 >>> ((8 : Int32) &&& 31)) &&& (15 : Int32)) = (7 : Int32) then (ap2 (s_N_switchOrNothing v1 σ) fun r1 σ1 => (True)) else if ((v1 >>> ((8 : Int32) &&& 31)) &&& (15 : Int32)) = (8 : Int32) then (ap2 (s_N_switchOrNothing v1 σ) fun r1 σ1 => (True)) else if ((v1 >>> ((8 : Int32) &&& 31)) &&& (15 : Int32)) = (9 : Int32) then (ap2 (s_N_switchOrNothing v1 σ) fun r1 σ1 => (True)) else if ((v1 >>> ((8 : Int32) &&& 31)) &&& (15 : Int32)) = (10 : Int32) then (ap2 (s_N_switchOrNothing v1 σ) fun r1 σ1 => (True)) else if ((v1 >>> ((8 : Int32) &&& 31)) &&& (15 : Int32)) = (11 : Int32) then (ap2 (s_N_switchOrNothing v1 σ) fun r1 σ1 => (True)) else if ((v1 >>> ((8 : Int32) &&& 31)) &&& (15 : Int32)) = (12 : Int32) then (o_N_pop (v1 &&& (511 : Int32)) σ ∧ (ap2 (s_N_pop (v1 &&& (511 : Int32)) σ) fun r1 σ1 => (True))) else if ((v1 >>> ((8 : Int32) &&& 31)) &&& (15 : Int32)) = (13 : Int32) then (o_N_pop (v1 &&& (511 : Int32)) σ ∧ (ap2 (s_N_pop (v1 &&& (511 : Int32)) σ) fun r1 σ1 => (True))) else (ap2 (s_N_switchOrNothing v1 σ) fun r1 σ1 => (True))
def s_N_callOut (σ : nS) : Int32 × nS := if (s_Ex_group (7 : Int32) σ) < (s_Ex_level σ) then (((0 : Int32), (up2 σ 2 7 (bI true)))) else (((6 : Int32), σ))
def s_Fl_meet_127 (v2 : Bool) (k0 : Bool) (σ : nS) : Bool := if (bI k0) = (bI v2) then (false) else (true)
def s_Fl_meet_126 (v2 : Bool) (σ : nS) : Bool := s_Fl_meet_127 v2 false σ
def s_Fl_meet_153 (v2 : Bool) (k0 : Bool) (σ : nS) : Bool := if (bI k0) = (bI v2) then (false) else (true)
def s_Fl_meet_186 (v2 : Bool) (k0 : Bool) (σ : nS) : Bool := if (bI k0) = (bI v2) then (false) else (true)
def s_Fl_meet_185 (v2 : Bool) (σ : nS) : Bool := s_Fl_meet_186 v2 false σ
def s_Fl_meet_11 (v1 : Int32) (k0 : Bool) (σ : nS) : Bool := if (v1 >>> ((1 : Int32) &&& 31)) = (0 : Int32) then (if (σ 8 5) = (bI k0) then (false) else (true)) else if (v1 >>> ((1 : Int32) &&& 31)) = (1 : Int32) then (if (σ 8 6) = (bI k0) then (false) else (true)) else if (v1 >>> ((1 : Int32) &&& 31)) = (2 : Int32) then (if (σ 8 4) = (bI k0) then (false) else (true)) else if (v1 >>> ((1 : Int32) &&& 31)) = (3 : Int32) then (if (σ 8 7) = (bI k0) then (false) else (true)) else if (v1 >>> ((1 : Int32) &&& 31)) = (4 : Int32) then (if (σ 8 6) = (0 : Int32) then (s_Fl_meet_126 k0 σ) else (if (σ 8 5) = (0 : Int32) then (s_Fl_meet_127 k0 true σ) else (s_Fl_meet_126 k0 σ))) else if (v1 >>> ((1 : Int32) &&& 31)) = (5 : Int32) then (if (σ 8 4) = (σ 8 7) then (s_Fl_meet_153 k0 true σ) else (s_Fl_meet_153 k0 false σ)) else (if (σ 8 5) = (0 : Int32) then (if (σ 8 4) = (σ 8 7) then (s_Fl_meet_186 k0 true σ) else (s_Fl_meet_185 k0 σ)) else (s_Fl_meet_185 k0 σ))
def s_Fl_meet (v1 : Int32) (σ : nS) : Bool := if (v1 &&& (1 : Int32)) = (0 : Int32) then (s_Fl_meet_11 v1 false σ) else (s_Fl_meet_11 v1 true σ)
def s_N_branchIf_44 (σ : nS) : Int32 × nS := ((0 : Int32), σ)
def s_N_branchIf (v1 : Int32) (σ : nS) : Int32 × nS := if ((v1 >>> ((8 : Int32) &&& 31)) &&& (15 : Int32)) ≤ (13 : Int32) then (if (s_Fl_meet ((v1 >>> ((8 : Int32) &&& 31)) &&& (15 : Int32)) σ) = true then (s_N_branchIf_44 (up2 σ 0 15 ((σ 0 15) + ((2 : Int32) + ((2 : Int32) * (v1).toInt8.toInt32))))) else (s_N_branchIf_44 σ)) else (((6 : Int32), σ))
def s_N_branch (v1 : Int32) (σ : nS) : Int32 × nS := if ((v1 >>> ((11 : Int32) &&& 31)) &&& (1 : Int32)) = (0 : Int32) then (((0 : Int32), (up2 σ 0 15 ((σ 0 15) + ((2 : Int32) + ((2 : Int32) * ((v1 <<< ((21 : Int32) &&& 31)) >>> ((21 : Int32) &&& 31)))))))) else (((6 : Int32), σ))
def s_N_execute (v1 : Int32) (σ : nS) : Int32 × nS := if (v1 >>> ((12 : Int32) &&& 31)) = (0 : Int32) then (if (3 : Int32) ≤ (v1 >>> ((11 : Int32) &&& 31)) then (ap2 (s_N_addThree v1 σ) fun r1 σ1 => (r1, σ1)) else (ap2 (s_N_shift v1 σ) fun r1 σ1 => (r1, σ1))) else if (v1 >>> ((12 : Int32) &&& 31)) = (1 : Int32) then (if (3 : Int32) ≤ (v1 >>> ((11 : Int32) &&& 31)) then (ap2 (s_N_addThree v1 σ) fun r1 σ1 => (r1, σ1)) else (ap2 (s_N_shift v1 σ) fun r1 σ1 => (r1, σ1))) else if (v1 >>> ((12 : Int32) &&& 31)) = (2 : Int32) then (ap2 (s_N_withNumber v1 σ) fun r1 σ1 => (r1, σ1)) else if (v1 >>> ((12 : Int32) &&& 31)) = (3 : Int32) then (ap2 (s_N_withNumber v1 σ) fun r1 σ1 => (r1, σ1)) else if (v1 >>> ((12 : Int32) &&& 31)) = (4 : Int32) then (if (v1 >>> ((10 : Int32) &&& 31)) = (16 : Int32) then (ap2 (s_N_combine v1 σ) fun r1 σ1 => (r1, σ1)) else (ap2 (s_N_copyOrBranch v1 σ) fun r1 σ1 => (r1, σ1))) else if (v1 >>> ((12 : Int32) &&& 31)) = (5 : Int32) then (((6 : Int32), σ)) else if (v1 >>> ((12 : Int32) &&& 31)) = (6 : Int32) then (ap2 (s_N_move v1 (v1 &&& (7 : Int32)) ((σ 0 (((v1 >>> ((3 : Int32) &&& 31)) &&& (7 : Int32))).toNatClampNeg) + ((4 : Int32) * ((v1 >>> ((6 : Int32) &&& 31)) &&& (31 : Int32)))) σ) fun r1 σ1 => (r1, σ1)) else if (v1 >>> ((12 : Int32) &&& 31)) = (7 : Int32) then (((6 : Int32), σ)) else if (v1 >>> ((12 : Int32) &&& 31)) = (8 : Int32) then (((6 : Int32), σ)) else if (v1 >>> ((12 : Int32) &&& 31)) = (9 : Int32) then (ap2 (s_N_move v1 ((v1 >>> ((8 : Int32) &&& 31)) &&& (7 : Int32)) ((σ 0 13) + ((4 : Int32) * (v1 &&& (255 : Int32)))) σ) fun r1 σ1 => (r1, σ1)) else if (v1 >>> ((12 : Int32) &&& 31)) = (10 : Int32) then (((6 : Int32), σ)) else if (v1 >>> ((12 : Int32) &&& 31)) = (11 : Int32) then (ap2 (s_N_stackOrSwitch v1 σ) fun r1 σ1 => (r1, σ1)) else if (v1 >>> ((12 : Int32) &&& 31)) = (12 : Int32) then (((6 : Int32), σ)) else if (v1 >>> ((12 : Int32) &&& 31)) = (13 : Int32) then (if (v1 >>> ((8 : Int32) &&& 31)) = (223 : Int32) then (ap2 (s_N_callOut σ) fun r1 σ1 => (r1, σ1)) else (ap2 (s_N_branchIf v1 σ) fun r1 σ1 => (r1, σ1))) else if (v1 >>> ((12 : Int32) &&& 31)) = (14 : Int32) then (ap2 (s_N_branch v1 σ) fun r1 σ1 => (r1, σ1)) else (((6 : Int32), σ))
def o_N_execute (v1 : Int32) (σ : nS) : Prop := if (v1 >>> ((12 : Int32) &&& 31)) = (0 : Int32) then (if (3 : Int32) ≤ (v1 >>> ((11 : Int32) &&& 31)) then (ap2 (s_N_addThree v1 σ) fun r1 σ1 => (True)) else (ap2 (s_N_shift v1 σ) fun r1 σ1 => (True))) else if (v1 >>> ((12 : Int32) &&& 31)) = (1 : Int32) then (if (3 : Int32) ≤ (v1 >>> ((11 : Int32) &&& 31)) then (ap2 (s_N_addThree v1 σ) fun r1 σ1 => (True)) else (ap2 (s_N_shift v1 σ) fun r1 σ1 => (True))) else if (v1 >>> ((12 : Int32) &&& 31)) = (2 : Int32) then (ap2 (s_N_withNumber v1 σ) fun r1 σ1 => (True)) else if (v1 >>> ((12 : Int32) &&& 31)) = (3 : Int32) then (ap2 (s_N_withNumber v1 σ) fun r1 σ1 => (True)) else if (v1 >>> ((12 : Int32) &&& 31)) = (4 : Int32) then (if (v1 >>> ((10 : Int32) &&& 31)) = (16 : Int32) then (ap2 (s_N_combine v1 σ) fun r1 σ1 => (True)) else (ap2 (s_N_copyOrBranch v1 σ) fun r1 σ1 => (True))) else if (v1 >>> ((12 : Int32) &&& 31)) = (5 : Int32) then (True) else if (v1 >>> ((12 : Int32) &&& 31)) = (6 : Int32) then (o_N_move v1 (v1 &&& (7 : Int32)) ((σ 0 (((v1 >>> ((3 : Int32) &&& 31)) &&& (7 : Int32))).toNatClampNeg) + ((4 : Int32) * ((v1 >>> ((6 : Int32) &&& 31)) &&& (31 : Int32)))) σ ∧ (ap2 (s_N_move v1 (v1 &&& (7 : Int32)) ((σ 0 (((v1 >>> ((3 : Int32) &&& 31)) &&& (7 : Int32))).toNatClampNeg) + ((4 : Int32) * ((v1 >>> ((6 : Int32) &&& 31)) &&& (31 : Int32)))) σ) fun r1 σ1 => (True))) else if (v1 >>> ((12 : Int32) &&& 31)) = (7 : Int32) then (True) else if (v1 >>> ((12 : Int32) &&& 31)) = (8 : Int32) then (True) else if (v1 >>> ((12 : Int32) &&& 31)) = (9 : Int32) then (o_N_move v1 ((v1 >>> ((8 : Int32) &&& 31)) &&& (7 : Int32)) ((σ 0 13) + ((4 : Int32) * (v1 &&& (255 : Int32)))) σ ∧ (ap2 (s_N_move v1 ((v1 >>> ((8 : Int32) &&& 31)) &&& (7 : Int32)) ((σ 0 13) + ((4 : Int32) * (v1 &&& (255 : Int32)))) σ) fun r1 σ1 => (True))) else if (v1 >>> ((12 : Int32) &&& 31)) = (10 : Int32) then (True) else if (v1 >>> ((12 : Int32) &&& 31)) = (11 : Int32) then (o_N_stackOrSwitch v1 σ ∧ (ap2 (s_N_stackOrSwitch v1 σ) fun r1 σ1 => (True))) else if (v1 >>> ((12 : Int32) &&& 31)) = (12 : Int32) then (True) else if (v1 >>> ((12 : Int32) &&& 31)) = (13 : Int32) then (if (v1 >>> ((8 : Int32) &&& 31)) = (223 : Int32) then (ap2 (s_N_callOut σ) fun r1 σ1 => (True)) else (ap2 (s_N_branchIf v1 σ) fun r1 σ1 => (True))) else if (v1 >>> ((12 : Int32) &&& 31)) = (14 : Int32) then (ap2 (s_N_branch v1 σ) fun r1 σ1 => (True)) else (True)
def s_Ex_leave (v1 : Int32) (σ : nS) : nS := if v1 = (2 : Int32) then ((up2 σ 3 (v1).toNatClampNeg (bI false))) else ((up2 (up2 σ 3 (v1).toNatClampNeg (bI false)) 8 3 (bI false)))
def s_Fl_unpack_58 (k1 : Bool) (σ : nS) : nS := (up2 σ 8 7 (bI k1))
def s_Fl_unpack_43 (v1 : Int32) (k1 : Bool) (σ : nS) : nS := if (v1 &&& (1 : Int32)) = (0 : Int32) then (s_Fl_unpack_58 false (up2 σ 8 6 (bI k1))) else (s_Fl_unpack_58 true (up2 σ 8 6 (bI k1)))
def s_Fl_unpack_28 (v1 : Int32) (k1 : Bool) (σ : nS) : nS := if (v1 &&& (2 : Int32)) = (0 : Int32) then (s_Fl_unpack_43 v1 false (up2 σ 8 5 (bI k1))) else (s_Fl_unpack_43 v1 true (up2 σ 8 5 (bI k1)))
def s_Fl_unpack_13 (v1 : Int32) (k1 : Bool) (σ : nS) : nS := if (v1 &&& (4 : Int32)) = (0 : Int32) then (s_Fl_unpack_28 v1 false (up2 σ 8 4 (bI k1))) else (s_Fl_unpack_28 v1 true (up2 σ 8 4 (bI k1)))
def s_Fl_unpack (v1 : Int32) (σ : nS) : nS := if (v1 &&& (8 : Int32)) = (0 : Int32) then (s_Fl_unpack_13 v1 false σ) else (s_Fl_unpack_13 v1 true σ)
def s_N_unstack_78 (v2 : Int32) (k2 : Int32) (k3 : Int32) (σ : nS) : nS := ap1 (s_Fl_unpack (ush v2 (28 : Int32)) (up2 σ 0 13 (k2 + k3))) fun σ1 => (up2 σ1 8 10 (v2 &&& (15 : Int32)))
def s_N_unstack_2_7 (v1 : Int32) (v2 : Int32) (σ : nS) : nS := if (v2 &&& (512 : Int32)) = (0 : Int32) then (s_N_unstack_78 v2 (v1 + (32 : Int32)) (0 : Int32) (up2 σ 0 15 (s_N_even (σ 0 15)))) else (s_N_unstack_78 v2 (v1 + (32 : Int32)) (4 : Int32) (up2 σ 0 15 (s_N_even (σ 0 15))))
def s_N_unstack_2_6 (v1 : Int32) (v2 : Int32) (σ : nS) : nS := s_N_unstack_2_7 v1 v2 (up2 σ 0 15 (s_Me_load (v1 + (24 : Int32)) σ))
def s_N_unstack_2_5 (v1 : Int32) (v2 : Int32) (σ : nS) : nS := s_N_unstack_2_6 v1 v2 (up2 σ 0 14 (s_Me_load (v1 + (20 : Int32)) σ))
def s_N_unstack_2_4 (v1 : Int32) (v2 : Int32) (σ : nS) : nS := s_N_unstack_2_5 v1 v2 (up2 σ 0 12 (s_Me_load (v1 + (16 : Int32)) σ))
def s_N_unstack_2_3 (v1 : Int32) (v2 : Int32) (σ : nS) : nS := s_N_unstack_2_4 v1 v2 (up2 σ 0 3 (s_Me_load (v1 + (12 : Int32)) σ))
def s_N_unstack_2_2 (v1 : Int32) (v2 : Int32) (σ : nS) : nS := s_N_unstack_2_3 v1 v2 (up2 σ 0 2 (s_Me_load (v1 + (8 : Int32)) σ))
def s_N_unstack_2_1 (v1 : Int32) (v2 : Int32) (σ : nS) : nS := s_N_unstack_2_2 v1 v2 (up2 σ 0 1 (s_Me_load (v1 + (4 : Int32)) σ))
def s_N_unstack_2_0 (v1 : Int32) (v2 : Int32) (σ : nS) : nS := s_N_unstack_2_1 v1 v2 (up2 σ 0 0 (s_Me_load (v1 + (0 : Int32)) σ))
def s_N_unstack (v1 : Int32) (v2 : Int32) (σ : nS) : nS := s_N_unstack_2_0 v1 v2 σ
def s_N_comeBack_120 (σ : nS) : Int32 × nS := ((6 : Int32), σ)
def s_N_comeBack_117 (v3 : Int32) (v4 : Int32) (k0 : Bool) (k1 : Bool) (σ : nS) : Int32 × nS := if (bI k0) = (bI k1) then (ap1 (s_N_unstack v3 v4 σ) fun σ1 => ((0 : Int32), σ1)) else (s_N_comeBack_120 σ)
def s_N_comeBack_106 (v1 : Int32) (v3 : Int32) (v4 : Int32) (k0 : Bool) (σ : nS) : Int32 × nS := if v1 = (-7 : Int32) then (s_N_comeBack_117 v3 v4 k0 true σ) else (s_N_comeBack_117 v3 v4 k0 false σ)
def s_N_comeBack (v1 : Int32) (σ : nS) : Int32 × nS := ap1 (s_Ex_leave (σ 8 10) σ) fun σ1 => if (s_Ex_due σ1) = (0 : Int32) then (if (s_Me_holdsFrame (σ1 0 13)) = true then (if ((s_Me_load ((σ1 0 13) + (28 : Int32)) σ1) &&& (15 : Int32)) = (1 : Int32) then (s_N_comeBack_120 σ1) else (if ((s_Me_load ((σ1 0 13) + (28 : Int32)) σ1) &&& (15 : Int32)) = (0 : Int32) then (s_N_comeBack_106 v1 (σ1 0 13) (s_Me_load ((σ1 0 13) + (28 : Int32)) σ1) true σ1) else (s_N_comeBack_106 v1 (σ1 0 13) (s_Me_load ((σ1 0 13) + (28 : Int32)) σ1) false σ1))) else (((6 : Int32), σ1))) else (ap1 (s_N_enter (s_Ex_due σ1) (up2 (up2 σ1 0 14 v1) 8 13 (((up2 σ1 0 14 v1) 8 13) + (1 : Int32)))) fun σ2 => ((0 : Int32), σ2))
def o_N_comeBack_120 (σ : nS) : Prop := True
def o_N_comeBack_117 (v3 : Int32) (v4 : Int32) (k0 : Bool) (k1 : Bool) (σ : nS) : Prop := if (bI k0) = (bI k1) then (ap1 (s_N_unstack v3 v4 σ) fun σ1 => (True)) else (o_N_comeBack_120 σ)
def o_N_comeBack_106 (v1 : Int32) (v3 : Int32) (v4 : Int32) (k0 : Bool) (σ : nS) : Prop := if v1 = (-7 : Int32) then (o_N_comeBack_117 v3 v4 k0 true σ) else (o_N_comeBack_117 v3 v4 k0 false σ)
def o_N_comeBack (v1 : Int32) (σ : nS) : Prop := vp_in (σ 8 10) 16 ∧ (ap1 (s_Ex_leave (σ 8 10) σ) fun σ1 => (if (s_Ex_due σ1) = (0 : Int32) then (if (s_Me_holdsFrame (σ1 0 13)) = true then (if ((s_Me_load ((σ1 0 13) + (28 : Int32)) σ1) &&& (15 : Int32)) = (1 : Int32) then (o_N_comeBack_120 σ1) else (if ((s_Me_load ((σ1 0 13) + (28 : Int32)) σ1) &&& (15 : Int32)) = (0 : Int32) then (o_N_comeBack_106 v1 (σ1 0 13) (s_Me_load ((σ1 0 13) + (28 : Int32)) σ1) true σ1) else (o_N_comeBack_106 v1 (σ1 0 13) (s_Me_load ((σ1 0 13) + (28 : Int32)) σ1) false σ1))) else (True)) else (ap1 (s_N_enter (s_Ex_due σ1) (up2 (up2 σ1 0 14 v1) 8 13 (((up2 σ1 0 14 v1) 8 13) + (1 : Int32)))) fun σ2 => (True))))
def s_N_land_33 (v1 : Int32) (σ : nS) : Int32 × nS := ((0 : Int32), (up2 σ 0 15 (s_N_even v1)))
def s_N_land_27 (v1 : Int32) (σ : nS) : Int32 × nS := ap2 (s_N_comeBack v1 σ) fun r1 σ1 => (r1, σ1)
def s_N_land (σ : nS) : Int32 × nS := if (σ 8 10) = (0 : Int32) then (s_N_land_33 (σ 0 15) σ) else (if (σ 0 15) = (-7 : Int32) then (s_N_land_27 (σ 0 15) σ) else (if (σ 0 15) = (-15 : Int32) then (s_N_land_27 (σ 0 15) σ) else (s_N_land_33 (σ 0 15) σ)))
def o_N_land_33 (v1 : Int32) (σ : nS) : Prop := True
def o_N_land_27 (v1 : Int32) (σ : nS) : Prop := o_N_comeBack v1 σ ∧ (ap2 (s_N_comeBack v1 σ) fun r1 σ1 => (True))
def o_N_land (σ : nS) : Prop := if (σ 8 10) = (0 : Int32) then (o_N_land_33 (σ 0 15) σ) else (if (σ 0 15) = (-7 : Int32) then (o_N_land_27 (σ 0 15) σ) else (if (σ 0 15) = (-15 : Int32) then (o_N_land_27 (σ 0 15) σ) else (o_N_land_33 (σ 0 15) σ)))
def s_N_raise_55 (v2 : Int32) (σ : nS) : nS := if v2 ≤ (-1 : Int32) then ((up2 σ 8 11 (1 : Int32))) else ((up2 σ 2 3 (bI true)))
def s_N_raise (v1 : Int32) (σ : nS) : nS := if ((up2 σ 8 14 ((σ 8 14) + (1 : Int32))) 1 (v1).toNatClampNeg) = (0 : Int32) then (s_N_raise_55 (s_Ex_level (up2 σ 8 14 ((σ 8 14) + (1 : Int32)))) (up2 σ 8 14 ((σ 8 14) + (1 : Int32)))) else (if (s_Ex_level (up2 σ 8 14 ((σ 8 14) + (1 : Int32)))) ≤ (s_Ex_group v1 (up2 σ 8 14 ((σ 8 14) + (1 : Int32)))) then (s_N_raise_55 (s_Ex_level (up2 σ 8 14 ((σ 8 14) + (1 : Int32)))) (up2 σ 8 14 ((σ 8 14) + (1 : Int32)))) else ((up2 (up2 σ 8 14 ((σ 8 14) + (1 : Int32))) 2 (v1).toNatClampNeg (bI true))))
def s_N_step_81 (v2 : Int32) (σ : nS) : nS := if v2 = (0 : Int32) then (σ) else (ap1 (s_N_raise v2 (upC σ 11 0)) fun σ1 => σ1)
def s_N_step_72 (v2 : Int32) (σ : nS) : nS := if v2 = (0 : Int32) then (ap2 (s_N_land σ) fun r1 σ1 => s_N_step_81 r1 σ1) else (s_N_step_81 v2 σ)
def s_N_step_21 (σ : nS) : nS := if (s_Ex_due σ) = (0 : Int32) then (if (s_N_fetchFault (upC σ 0 11)) = (0 : Int32) then (ap2 (s_N_fetch (upC σ 0 11)) fun r1 σ1 => ap2 (s_N_execute r1 σ1) fun r2 σ2 => s_N_step_72 r2 σ2) else (s_N_step_72 (s_N_fetchFault (upC σ 0 11)) (upC σ 0 11))) else (ap1 (s_N_take (s_Ex_due σ) σ) fun σ1 => σ1)
def s_N_step (σ : nS) : nS := ap2 (s_Ti_fires σ) fun r1 σ1 => if r1 = true then (s_N_step_21 (up2 σ1 2 9 (bI true))) else (s_N_step_21 σ1)
def o_N_step_81 (v2 : Int32) (σ : nS) : Prop := if v2 = (0 : Int32) then (True) else (ap1 (s_N_raise v2 (upC σ 11 0)) fun σ1 => (True))
def o_N_step_72 (v2 : Int32) (σ : nS) : Prop := if v2 = (0 : Int32) then (o_N_land σ ∧ (ap2 (s_N_land σ) fun r1 σ1 => (vp_in r1 16 ∧ (o_N_step_81 r1 σ1)))) else (o_N_step_81 v2 σ)
def o_N_step_21 (σ : nS) : Prop := if (s_Ex_due σ) = (0 : Int32) then (if (s_N_fetchFault (upC σ 0 11)) = (0 : Int32) then (ap2 (s_N_fetch (upC σ 0 11)) fun r1 σ1 => (o_N_execute r1 σ1 ∧ (ap2 (s_N_execute r1 σ1) fun r2 σ2 => (vp_in r2 16 ∧ (o_N_step_72 r2 σ2))))) else (vp_in (s_N_fetchFault (upC σ 0 11)) 16 ∧ (o_N_step_72 (s_N_fetchFault (upC σ 0 11)) (upC σ 0 11)))) else (ap1 (s_N_take (s_Ex_due σ) σ) fun σ1 => (True))
def o_N_step (σ : nS) : Prop := ap2 (s_Ti_fires σ) fun r1 σ1 => (if r1 = true then (o_N_step_21 (up2 σ1 2 9 (bI true))) else (o_N_step_21 σ1))
def s_N_run_11 (σ : nS) : Option (Int32 × nS) := none
def s_N_run_45_0 (σ : nS) : Option (Int32 × nS) := some ((0 : Int32), σ)
def s_N_run_45_1 (σ : nS) : Option (Int32 × nS) := some ((1 : Int32), σ)
def s_N_run_45_2 (σ : nS) : Option (Int32 × nS) := some ((2 : Int32), σ)
def s_N_run_45_3 (σ : nS) : Option (Int32 × nS) := some ((3 : Int32), σ)
def s_N_run_45_4 (σ : nS) : Option (Int32 × nS) := some ((4 : Int32), σ)
def s_N_run_45_5 (σ : nS) : Option (Int32 × nS) := some ((5 : Int32), σ)
def s_N_run_45_6 (σ : nS) : Option (Int32 × nS) := some ((6 : Int32), σ)
def s_N_run_45_7 (σ : nS) : Option (Int32 × nS) := some ((7 : Int32), σ)
def s_N_run_45_8 (σ : nS) : Option (Int32 × nS) := some ((8 : Int32), σ)
def s_N_run_45_9 (σ : nS) : Option (Int32 × nS) := some ((9 : Int32), σ)
def s_N_run_45_10 (σ : nS) : Option (Int32 × nS) := some ((10 : Int32), σ)
def s_N_run_45_11 (σ : nS) : Option (Int32 × nS) := some ((11 : Int32), σ)
def s_N_run_45_12 (σ : nS) : Option (Int32 × nS) := some ((12 : Int32), σ)
def s_N_run_45_13 (σ : nS) : Option (Int32 × nS) := some ((13 : Int32), σ)
def s_N_run_45_14 (σ : nS) : Option (Int32 × nS) := some ((14 : Int32), σ)
def s_N_run_45_15 (σ : nS) : Option (Int32 × nS) := some ((15 : Int32), σ)
def s_N_run_45_16 (σ : nS) : Option (Int32 × nS) := some ((16 : Int32), σ)
def s_N_run_45_17 (σ : nS) : Option (Int32 × nS) := some ((17 : Int32), σ)
def s_N_run_45_18 (σ : nS) : Option (Int32 × nS) := some ((18 : Int32), σ)
def s_N_run_45_19 (σ : nS) : Option (Int32 × nS) := some ((19 : Int32), σ)
def s_N_run_45_20 (σ : nS) : Option (Int32 × nS) := some ((20 : Int32), σ)
def s_N_run_45_21 (σ : nS) : Option (Int32 × nS) := some ((21 : Int32), σ)
def s_N_run_45_22 (σ : nS) : Option (Int32 × nS) := some ((22 : Int32), σ)
def s_N_run_45_23 (σ : nS) : Option (Int32 × nS) := some ((23 : Int32), σ)
def s_N_run_45_24 (σ : nS) : Option (Int32 × nS) := some ((24 : Int32), σ)
def s_N_run_45_25 (σ : nS) : Option (Int32 × nS) := some ((25 : Int32), σ)
def s_N_run_23_25 (v1 : Int32) (σ : nS) : Option (Int32 × nS) := s_N_run_45_25 σ
def s_N_run_23_24 (v1 : Int32) (σ : nS) : Option (Int32 × nS) := if v1 ≤ (24 : Int32) then (s_N_run_45_24 σ) else (if (σ 8 11) = (0 : Int32) then (ap1 (s_N_step σ) fun σ1 => s_N_run_23_25 v1 σ1) else (s_N_run_45_24 σ))
def s_N_run_23_23 (v1 : Int32) (σ : nS) : Option (Int32 × nS) := if v1 ≤ (23 : Int32) then (s_N_run_45_23 σ) else (if (σ 8 11) = (0 : Int32) then (ap1 (s_N_step σ) fun σ1 => s_N_run_23_24 v1 σ1) else (s_N_run_45_23 σ))
def s_N_run_23_22 (v1 : Int32) (σ : nS) : Option (Int32 × nS) := if v1 ≤ (22 : Int32) then (s_N_run_45_22 σ) else (if (σ 8 11) = (0 : Int32) then (ap1 (s_N_step σ) fun σ1 => s_N_run_23_23 v1 σ1) else (s_N_run_45_22 σ))
def s_N_run_23_21 (v1 : Int32) (σ : nS) : Option (Int32 × nS) := if v1 ≤ (21 : Int32) then (s_N_run_45_21 σ) else (if (σ 8 11) = (0 : Int32) then (ap1 (s_N_step σ) fun σ1 => s_N_run_23_22 v1 σ1) else (s_N_run_45_21 σ))
def s_N_run_23_20 (v1 : Int32) (σ : nS) : Option (Int32 × nS) := if v1 ≤ (20 : Int32) then (s_N_run_45_20 σ) else (if (σ 8 11) = (0 : Int32) then (ap1 (s_N_step σ) fun σ1 => s_N_run_23_21 v1 σ1) else (s_N_run_45_20 σ))
def s_N_run_23_19 (v1 : Int32) (σ : nS) : Option (Int32 × nS) := if v1 ≤ (19 : Int32) then (s_N_run_45_19 σ) else (if (σ 8 11) = (0 : Int32) then (ap1 (s_N_step σ) fun σ1 => s_N_run_23_20 v1 σ1) else (s_N_run_45_19 σ))
def s_N_run_23_18 (v1 : Int32) (σ : nS) : Option (Int32 × nS) := if v1 ≤ (18 : Int32) then (s_N_run_45_18 σ) else (if (σ 8 11) = (0 : Int32) then (ap1 (s_N_step σ) fun σ1 => s_N_run_23_19 v1 σ1) else (s_N_run_45_18 σ))
def s_N_run_23_17 (v1 : Int32) (σ : nS) : Option (Int32 × nS) := if v1 ≤ (17 : Int32) then (s_N_run_45_17 σ) else (if (σ 8 11) = (0 : Int32) then (ap1 (s_N_step σ) fun σ1 => s_N_run_23_18 v1 σ1) else (s_N_run_45_17 σ))
def s_N_run_23_16 (v1 : Int32) (σ : nS) : Option (Int32 × nS) := if v1 ≤ (16 : Int32) then (s_N_run_45_16 σ) else (if (σ 8 11) = (0 : Int32) then (ap1 (s_N_step σ) fun σ1 => s_N_run_23_17 v1 σ1) else (s_N_run_45_16 σ))
def s_N_run_23_15 (v1 : Int32) (σ : nS) : Option (Int32 × nS) := if v1 ≤ (15 : Int32) then (s_N_run_45_15 σ) else (if (σ 8 11) = (0 : Int32) then (ap1 (s_N_step σ) fun σ1 => s_N_run_23_16 v1 σ1) else (s_N_run_45_15 σ))
def s_N_run_23_14 (v1 : Int32) (σ : nS) : Option (Int32 × nS) := if v1 ≤ (14 : Int32) then (s_N_run_45_14 σ) else (if (σ 8 11) = (0 : Int32) then (ap1 (s_N_step σ) fun σ1 => s_N_run_23_15 v1 σ1) else (s_N_run_45_14 σ))
def s_N_run_23_13 (v1 : Int32) (σ : nS) : Option (Int32 × nS) := if v1 ≤ (13 : Int32) then (s_N_run_45_13 σ) else (if (σ 8 11) = (0 : Int32) then (ap1 (s_N_step σ) fun σ1 => s_N_run_23_14 v1 σ1) else (s_N_run_45_13 σ))
def s_N_run_23_12 (v1 : Int32) (σ : nS) : Option (Int32 × nS) := if v1 ≤ (12 : Int32) then (s_N_run_45_12 σ) else (if (σ 8 11) = (0 : Int32) then (ap1 (s_N_step σ) fun σ1 => s_N_run_23_13 v1 σ1) else (s_N_run_45_12 σ))
def s_N_run_23_11 (v1 : Int32) (σ : nS) : Option (Int32 × nS) := if v1 ≤ (11 : Int32) then (s_N_run_45_11 σ) else (if (σ 8 11) = (0 : Int32) then (ap1 (s_N_step σ) fun σ1 => s_N_run_23_12 v1 σ1) else (s_N_run_45_11 σ))
def s_N_run_23_10 (v1 : Int32) (σ : nS) : Option (Int32 × nS) := if v1 ≤ (10 : Int32) then (s_N_run_45_10 σ) else (if (σ 8 11) = (0 : Int32) then (ap1 (s_N_step σ) fun σ1 => s_N_run_23_11 v1 σ1) else (s_N_run_45_10 σ))
def s_N_run_23_9 (v1 : Int32) (σ : nS) : Option (Int32 × nS) := if v1 ≤ (9 : Int32) then (s_N_run_45_9 σ) else (if (σ 8 11) = (0 : Int32) then (ap1 (s_N_step σ) fun σ1 => s_N_run_23_10 v1 σ1) else (s_N_run_45_9 σ))
def s_N_run_23_8 (v1 : Int32) (σ : nS) : Option (Int32 × nS) := if v1 ≤ (8 : Int32) then (s_N_run_45_8 σ) else (if (σ 8 11) = (0 : Int32) then (ap1 (s_N_step σ) fun σ1 => s_N_run_23_9 v1 σ1) else (s_N_run_45_8 σ))
def s_N_run_23_7 (v1 : Int32) (σ : nS) : Option (Int32 × nS) := if v1 ≤ (7 : Int32) then (s_N_run_45_7 σ) else (if (σ 8 11) = (0 : Int32) then (ap1 (s_N_step σ) fun σ1 => s_N_run_23_8 v1 σ1) else (s_N_run_45_7 σ))
def s_N_run_23_6 (v1 : Int32) (σ : nS) : Option (Int32 × nS) := if v1 ≤ (6 : Int32) then (s_N_run_45_6 σ) else (if (σ 8 11) = (0 : Int32) then (ap1 (s_N_step σ) fun σ1 => s_N_run_23_7 v1 σ1) else (s_N_run_45_6 σ))
def s_N_run_23_5 (v1 : Int32) (σ : nS) : Option (Int32 × nS) := if v1 ≤ (5 : Int32) then (s_N_run_45_5 σ) else (if (σ 8 11) = (0 : Int32) then (ap1 (s_N_step σ) fun σ1 => s_N_run_23_6 v1 σ1) else (s_N_run_45_5 σ))
def s_N_run_23_4 (v1 : Int32) (σ : nS) : Option (Int32 × nS) := if v1 ≤ (4 : Int32) then (s_N_run_45_4 σ) else (if (σ 8 11) = (0 : Int32) then (ap1 (s_N_step σ) fun σ1 => s_N_run_23_5 v1 σ1) else (s_N_run_45_4 σ))
def s_N_run_23_3 (v1 : Int32) (σ : nS) : Option (Int32 × nS) := if v1 ≤ (3 : Int32) then (s_N_run_45_3 σ) else (if (σ 8 11) = (0 : Int32) then (ap1 (s_N_step σ) fun σ1 => s_N_run_23_4 v1 σ1) else (s_N_run_45_3 σ))
def s_N_run_23_2 (v1 : Int32) (σ : nS) : Option (Int32 × nS) := if v1 ≤ (2 : Int32) then (s_N_run_45_2 σ) else (if (σ 8 11) = (0 : Int32) then (ap1 (s_N_step σ) fun σ1 => s_N_run_23_3 v1 σ1) else (s_N_run_45_2 σ))
def s_N_run_23_1 (v1 : Int32) (σ : nS) : Option (Int32 × nS) := if v1 ≤ (1 : Int32) then (s_N_run_45_1 σ) else (if (σ 8 11) = (0 : Int32) then (ap1 (s_N_step σ) fun σ1 => s_N_run_23_2 v1 σ1) else (s_N_run_45_1 σ))
def s_N_run_23_0 (v1 : Int32) (σ : nS) : Option (Int32 × nS) := if v1 ≤ (0 : Int32) then (s_N_run_45_0 σ) else (if (σ 8 11) = (0 : Int32) then (ap1 (s_N_step σ) fun σ1 => s_N_run_23_1 v1 σ1) else (s_N_run_45_0 σ))
def s_N_run (v1 : Int32) (σ : nS) : Option (Int32 × nS) := if v1 < (1 : Int32) then (s_N_run_11 σ) else (if v1 ≤ (25 : Int32) then (s_N_run_23_0 v1 σ) else (s_N_run_11 σ))
def o_N_run_11 (σ : nS) : Prop := True
def o_N_run_45_0 (σ : nS) : Prop := True
def o_N_run_45_1 (σ : nS) : Prop := True
def o_N_run_45_2 (σ : nS) : Prop := True
def o_N_run_45_3 (σ : nS) : Prop := True
def o_N_run_45_4 (σ : nS) : Prop := True
def o_N_run_45_5 (σ : nS) : Prop := True
def o_N_run_45_6 (σ : nS) : Prop := True
def o_N_run_45_7 (σ : nS) : Prop := True
def o_N_run_45_8 (σ : nS) : Prop := True
def o_N_run_45_9 (σ : nS) : Prop := True
def o_N_run_45_10 (σ : nS) : Prop := True
def o_N_run_45_11 (σ : nS) : Prop := True
def o_N_run_45_12 (σ : nS) : Prop := True
def o_N_run_45_13 (σ : nS) : Prop := True
def o_N_run_45_14 (σ : nS) : Prop := True
def o_N_run_45_15 (σ : nS) : Prop := True
def o_N_run_45_16 (σ : nS) : Prop := True
def o_N_run_45_17 (σ : nS) : Prop := True
def o_N_run_45_18 (σ : nS) : Prop := True
def o_N_run_45_19 (σ : nS) : Prop := True
def o_N_run_45_20 (σ : nS) : Prop := True
def o_N_run_45_21 (σ : nS) : Prop := True
def o_N_run_45_22 (σ : nS) : Prop := True
def o_N_run_45_23 (σ : nS) : Prop := True
def o_N_run_45_24 (σ : nS) : Prop := True
def o_N_run_45_25 (σ : nS) : Prop := True
def o_N_run_23_25 (v1 : Int32) (σ : nS) : Prop := v1 ≤ (25 : Int32) ∧ (o_N_run_45_25 σ)
def o_N_run_23_24 (v1 : Int32) (σ : nS) : Prop := if v1 ≤ (24 : Int32) then (o_N_run_45_24 σ) else (if (σ 8 11) = (0 : Int32) then (o_N_step σ ∧ (ap1 (s_N_step σ) fun σ1 => (o_N_run_23_25 v1 σ1))) else (o_N_run_45_24 σ))
def o_N_run_23_23 (v1 : Int32) (σ : nS) : Prop := if v1 ≤ (23 : Int32) then (o_N_run_45_23 σ) else (if (σ 8 11) = (0 : Int32) then (o_N_step σ ∧ (ap1 (s_N_step σ) fun σ1 => (o_N_run_23_24 v1 σ1))) else (o_N_run_45_23 σ))
def o_N_run_23_22 (v1 : Int32) (σ : nS) : Prop := if v1 ≤ (22 : Int32) then (o_N_run_45_22 σ) else (if (σ 8 11) = (0 : Int32) then (o_N_step σ ∧ (ap1 (s_N_step σ) fun σ1 => (o_N_run_23_23 v1 σ1))) else (o_N_run_45_22 σ))
def o_N_run_23_21 (v1 : Int32) (σ : nS) : Prop := if v1 ≤ (21 : Int32) then (o_N_run_45_21 σ) else (if (σ 8 11) = (0 : Int32) then (o_N_step σ ∧ (ap1 (s_N_step σ) fun σ1 => (o_N_run_23_22 v1 σ1))) else (o_N_run_45_21 σ))
def o_N_run_23_20 (v1 : Int32) (σ : nS) : Prop := if v1 ≤ (20 : Int32) then (o_N_run_45_20 σ) else (if (σ 8 11) = (0 : Int32) then (o_N_step σ ∧ (ap1 (s_N_step σ) fun σ1 => (o_N_run_23_21 v1 σ1))) else (o_N_run_45_20 σ))
def o_N_run_23_19 (v1 : Int32) (σ : nS) : Prop := if v1 ≤ (19 : Int32) then (o_N_run_45_19 σ) else (if (σ 8 11) = (0 : Int32) then (o_N_step σ ∧ (ap1 (s_N_step σ) fun σ1 => (o_N_run_23_20 v1 σ1))) else (o_N_run_45_19 σ))
def o_N_run_23_18 (v1 : Int32) (σ : nS) : Prop := if v1 ≤ (18 : Int32) then (o_N_run_45_18 σ) else (if (σ 8 11) = (0 : Int32) then (o_N_step σ ∧ (ap1 (s_N_step σ) fun σ1 => (o_N_run_23_19 v1 σ1))) else (o_N_run_45_18 σ))
def o_N_run_23_17 (v1 : Int32) (σ : nS) : Prop := if v1 ≤ (17 : Int32) then (o_N_run_45_17 σ) else (if (σ 8 11) = (0 : Int32) then (o_N_step σ ∧ (ap1 (s_N_step σ) fun σ1 => (o_N_run_23_18 v1 σ1))) else (o_N_run_45_17 σ))
def o_N_run_23_16 (v1 : Int32) (σ : nS) : Prop := if v1 ≤ (16 : Int32) then (o_N_run_45_16 σ) else (if (σ 8 11) = (0 : Int32) then (o_N_step σ ∧ (ap1 (s_N_step σ) fun σ1 => (o_N_run_23_17 v1 σ1))) else (o_N_run_45_16 σ))
def o_N_run_23_15 (v1 : Int32) (σ : nS) : Prop := if v1 ≤ (15 : Int32) then (o_N_run_45_15 σ) else (if (σ 8 11) = (0 : Int32) then (o_N_step σ ∧ (ap1 (s_N_step σ) fun σ1 => (o_N_run_23_16 v1 σ1))) else (o_N_run_45_15 σ))
def o_N_run_23_14 (v1 : Int32) (σ : nS) : Prop := if v1 ≤ (14 : Int32) then (o_N_run_45_14 σ) else (if (σ 8 11) = (0 : Int32) then (o_N_step σ ∧ (ap1 (s_N_step σ) fun σ1 => (o_N_run_23_15 v1 σ1))) else (o_N_run_45_14 σ))
def o_N_run_23_13 (v1 : Int32) (σ : nS) : Prop := if v1 ≤ (13 : Int32) then (o_N_run_45_13 σ) else (if (σ 8 11) = (0 : Int32) then (o_N_step σ ∧ (ap1 (s_N_step σ) fun σ1 => (o_N_run_23_14 v1 σ1))) else (o_N_run_45_13 σ))
def o_N_run_23_12 (v1 : Int32) (σ : nS) : Prop := if v1 ≤ (12 : Int32) then (o_N_run_45_12 σ) else (if (σ 8 11) = (0 : Int32) then (o_N_step σ ∧ (ap1 (s_N_step σ) fun σ1 => (o_N_run_23_13 v1 σ1))) else (o_N_run_45_12 σ))
def o_N_run_23_11 (v1 : Int32) (σ : nS) : Prop := if v1 ≤ (11 : Int32) then (o_N_run_45_11 σ) else (if (σ 8 11) = (0 : Int32) then (o_N_step σ ∧ (ap1 (s_N_step σ) fun σ1 => (o_N_run_23_12 v1 σ1))) else (o_N_run_45_11 σ))
def o_N_run_23_10 (v1 : Int32) (σ : nS) : Prop := if v1 ≤ (10 : Int32) then (o_N_run_45_10 σ) else (if (σ 8 11) = (0 : Int32) then (o_N_step σ ∧ (ap1 (s_N_step σ) fun σ1 => (o_N_run_23_11 v1 σ1))) else (o_N_run_45_10 σ))
def o_N_run_23_9 (v1 : Int32) (σ : nS) : Prop := if v1 ≤ (9 : Int32) then (o_N_run_45_9 σ) else (if (σ 8 11) = (0 : Int32) then (o_N_step σ ∧ (ap1 (s_N_step σ) fun σ1 => (o_N_run_23_10 v1 σ1))) else (o_N_run_45_9 σ))
def o_N_run_23_8 (v1 : Int32) (σ : nS) : Prop := if v1 ≤ (8 : Int32) then (o_N_run_45_8 σ) else (if (σ 8 11) = (0 : Int32) then (o_N_step σ ∧ (ap1 (s_N_step σ) fun σ1 => (o_N_run_23_9 v1 σ1))) else (o_N_run_45_8 σ))
def o_N_run_23_7 (v1 : Int32) (σ : nS) : Prop := if v1 ≤ (7 : Int32) then (o_N_run_45_7 σ) else (if (σ 8 11) = (0 : Int32) then (o_N_step σ ∧ (ap1 (s_N_step σ) fun σ1 => (o_N_run_23_8 v1 σ1))) else (o_N_run_45_7 σ))
def o_N_run_23_6 (v1 : Int32) (σ : nS) : Prop := if v1 ≤ (6 : Int32) then (o_N_run_45_6 σ) else (if (σ 8 11) = (0 : Int32) then (o_N_step σ ∧ (ap1 (s_N_step σ) fun σ1 => (o_N_run_23_7 v1 σ1))) else (o_N_run_45_6 σ))
def o_N_run_23_5 (v1 : Int32) (σ : nS) : Prop := if v1 ≤ (5 : Int32) then (o_N_run_45_5 σ) else (if (σ 8 11) = (0 : Int32) then (o_N_step σ ∧ (ap1 (s_N_step σ) fun σ1 => (o_N_run_23_6 v1 σ1))) else (o_N_run_45_5 σ))
def o_N_run_23_4 (v1 : Int32) (σ : nS) : Prop := if v1 ≤ (4 : Int32) then (o_N_run_45_4 σ) else (if (σ 8 11) = (0 : Int32) then (o_N_step σ ∧ (ap1 (s_N_step σ) fun σ1 => (o_N_run_23_5 v1 σ1))) else (o_N_run_45_4 σ))
def o_N_run_23_3 (v1 : Int32) (σ : nS) : Prop := if v1 ≤ (3 : Int32) then (o_N_run_45_3 σ) else (if (σ 8 11) = (0 : Int32) then (o_N_step σ ∧ (ap1 (s_N_step σ) fun σ1 => (o_N_run_23_4 v1 σ1))) else (o_N_run_45_3 σ))
def o_N_run_23_2 (v1 : Int32) (σ : nS) : Prop := if v1 ≤ (2 : Int32) then (o_N_run_45_2 σ) else (if (σ 8 11) = (0 : Int32) then (o_N_step σ ∧ (ap1 (s_N_step σ) fun σ1 => (o_N_run_23_3 v1 σ1))) else (o_N_run_45_2 σ))
def o_N_run_23_1 (v1 : Int32) (σ : nS) : Prop := if v1 ≤ (1 : Int32) then (o_N_run_45_1 σ) else (if (σ 8 11) = (0 : Int32) then (o_N_step σ ∧ (ap1 (s_N_step σ) fun σ1 => (o_N_run_23_2 v1 σ1))) else (o_N_run_45_1 σ))
def o_N_run_23_0 (v1 : Int32) (σ : nS) : Prop := if v1 ≤ (0 : Int32) then (o_N_run_45_0 σ) else (if (σ 8 11) = (0 : Int32) then (o_N_step σ ∧ (ap1 (s_N_step σ) fun σ1 => (o_N_run_23_1 v1 σ1))) else (o_N_run_45_0 σ))
def o_N_run (v1 : Int32) (σ : nS) : Prop := if v1 < (1 : Int32) then (o_N_run_11 σ) else (if v1 ≤ (25 : Int32) then (o_N_run_23_0 v1 σ) else (o_N_run_11 σ))
def s_Ex_packed_43 (k0 : Int32) (k1 : Int32) (σ : nS) : Int32 := (k0 + k1)
def s_Ex_packed_28 (v1 : Int32) (k0 : Bool) (k1 : Int32) (σ : nS) : Int32 := if (σ 1 (v1).toNatClampNeg) = (0 : Int32) then (s_Ex_packed_43 ((bI k0) + k1) (0 : Int32) σ) else (s_Ex_packed_43 ((bI k0) + k1) (4 : Int32) σ)
def s_Ex_packed_14 (v1 : Int32) (k0 : Bool) (σ : nS) : Int32 := if (σ 3 (v1).toNatClampNeg) = (0 : Int32) then (s_Ex_packed_28 v1 k0 (0 : Int32) σ) else (s_Ex_packed_28 v1 k0 (2 : Int32) σ)
def s_Ex_packed (v1 : Int32) (σ : nS) : Int32 := if (σ 2 (v1).toNatClampNeg) = (0 : Int32) then (s_Ex_packed_14 v1 false σ) else (s_Ex_packed_14 v1 true σ)
def s_N_state_121 (σ : nS) : Option (Int32 × nS) := none
def s_N_state (v1 : Int32) (σ : nS) : Option (Int32 × nS) := if v1 = (0 : Int32) then (some ((s_Fl_packed σ), σ)) else if v1 = (1 : Int32) then (some ((σ 8 10), σ)) else if v1 = (2 : Int32) then (some ((s_Ex_level σ), σ)) else if v1 = (3 : Int32) then (some ((s_Ex_due σ), σ)) else if v1 = (4 : Int32) then (some ((σ 8 12), σ)) else if v1 = (5 : Int32) then (some ((σ 8 13), σ)) else if v1 = (6 : Int32) then (some ((σ 8 11), σ)) else if v1 = (7 : Int32) then (some ((σ 8 14), σ)) else if v1 = (8 : Int32) then (some ((σ 8 9), σ)) else (if v1 < (18 : Int32) then (s_N_state_121 σ) else (if v1 ≤ (31 : Int32) then (some ((s_Ex_packed (v1 - (16 : Int32)) σ), σ)) else (s_N_state_121 σ)))
def o_N_state_121 (σ : nS) : Prop := True
def o_N_state (v1 : Int32) (σ : nS) : Prop := if v1 = (0 : Int32) then (True) else if v1 = (1 : Int32) then (True) else if v1 = (2 : Int32) then (True) else if v1 = (3 : Int32) then (True) else if v1 = (4 : Int32) then (True) else if v1 = (5 : Int32) then (True) else if v1 = (6 : Int32) then (True) else if v1 = (7 : Int32) then (True) else if v1 = (8 : Int32) then (True) else (if v1 < (18 : Int32) then (o_N_state_121 σ) else (if v1 ≤ (31 : Int32) then (vp_in (v1 - (16 : Int32)) 16 ∧ (True)) else (o_N_state_121 σ)))
def s_Mo_thrown (σ : nS) : Int32 := (σ 8 15)
def s_Mo_fails_10 (v1 : Bool) (k1 : Bool) (σ : nS) : Bool × nS := (v1, (up2 σ 8 15 (bI k1)))
def s_Mo_fails (v1 : Bool) (σ : nS) : Bool × nS := if v1 = true then (s_Mo_fails_10 v1 true σ) else (s_Mo_fails_10 v1 false σ)
def s_Mo_isWord_21 : Bool := false
def s_Mo_isWord (v0 : Int32) : Bool := if v0 < (0 : Int32) then (s_Mo_isWord_21) else (if (1020 : Int32) < v0 then (s_Mo_isWord_21) else (if (v0 &&& (3 : Int32)) = (0 : Int32) then (true) else (s_Mo_isWord_21)))
def s_Mo_load (v1 : Int32) (σ : nS) : Int32 := ((((σ 9 (v1).toNatClampNeg) ||| ((σ 9 ((v1 + (1 : Int32))).toNatClampNeg) <<< ((8 : Int32) &&& 31))) ||| ((σ 9 ((v1 + (2 : Int32))).toNatClampNeg) <<< ((16 : Int32) &&& 31))) ||| ((σ 9 ((v1 + (3 : Int32))).toNatClampNeg) <<< ((24 : Int32) &&& 31)))
def o_Mo_load (v1 : Int32) (σ : nS) : Prop := vp_in v1 1024 ∧ (vp_in (v1 + (1 : Int32)) 1024 ∧ (vp_in (v1 + (2 : Int32)) 1024 ∧ (vp_in (v1 + (3 : Int32)) 1024 ∧ (True))))
def s_Mo_store_2_4 (v1 : Int32) (v2 : Int32) (σ : nS) : nS := σ
def s_Mo_store_2_3 (v1 : Int32) (v2 : Int32) (σ : nS) : nS := s_Mo_store_2_4 v1 v2 (up2 σ 9 ((v1 + (3 : Int32))).toNatClampNeg ((v2 >>> ((24 : Int32) &&& 31)) &&& (255 : Int32)))
def s_Mo_store_2_2 (v1 : Int32) (v2 : Int32) (σ : nS) : nS := s_Mo_store_2_3 v1 v2 (up2 σ 9 ((v1 + (2 : Int32))).toNatClampNeg ((v2 >>> ((16 : Int32) &&& 31)) &&& (255 : Int32)))
def s_Mo_store_2_1 (v1 : Int32) (v2 : Int32) (σ : nS) : nS := s_Mo_store_2_2 v1 v2 (up2 σ 9 ((v1 + (1 : Int32))).toNatClampNeg ((v2 >>> ((8 : Int32) &&& 31)) &&& (255 : Int32)))
def s_Mo_store_2_0 (v1 : Int32) (v2 : Int32) (σ : nS) : nS := s_Mo_store_2_1 v1 v2 (up2 σ 9 ((v1 + (0 : Int32))).toNatClampNeg ((v2 >>> ((0 : Int32) &&& 31)) &&& (255 : Int32)))
def s_Mo_store (v1 : Int32) (v2 : Int32) (σ : nS) : nS := s_Mo_store_2_0 v1 v2 σ
def o_Mo_store_2_4 (v1 : Int32) (v2 : Int32) (σ : nS) : Prop := True
def o_Mo_store_2_3 (v1 : Int32) (v2 : Int32) (σ : nS) : Prop := vp_in (v1 + (3 : Int32)) 1024 ∧ (o_Mo_store_2_4 v1 v2 (up2 σ 9 ((v1 + (3 : Int32))).toNatClampNeg ((v2 >>> ((24 : Int32) &&& 31)) &&& (255 : Int32))))
def o_Mo_store_2_2 (v1 : Int32) (v2 : Int32) (σ : nS) : Prop := vp_in (v1 + (2 : Int32)) 1024 ∧ (o_Mo_store_2_3 v1 v2 (up2 σ 9 ((v1 + (2 : Int32))).toNatClampNeg ((v2 >>> ((16 : Int32) &&& 31)) &&& (255 : Int32))))
def o_Mo_store_2_1 (v1 : Int32) (v2 : Int32) (σ : nS) : Prop := vp_in (v1 + (1 : Int32)) 1024 ∧ (o_Mo_store_2_2 v1 v2 (up2 σ 9 ((v1 + (1 : Int32))).toNatClampNeg ((v2 >>> ((8 : Int32) &&& 31)) &&& (255 : Int32))))
def o_Mo_store_2_0 (v1 : Int32) (v2 : Int32) (σ : nS) : Prop := vp_in (v1 + (0 : Int32)) 1024 ∧ (o_Mo_store_2_1 v1 v2 (up2 σ 9 ((v1 + (0 : Int32))).toNatClampNeg ((v2 >>> ((0 : Int32) &&& 31)) &&& (255 : Int32))))
def o_Mo_store (v1 : Int32) (v2 : Int32) (σ : nS) : Prop := o_Mo_store_2_0 v1 v2 σ
def s_Mo_barred_5_4 (v1 : Int32) (v2 : Int32) (v3 : Bool) (σ : nS) : Bool := v3
def s_Mo_barred_84_3 (v1 : Int32) (v2 : Int32) (v3 : Bool) (σ : nS) : Bool := s_Mo_barred_5_4 v1 v2 v3 σ
def s_Mo_barred_83_3 (v1 : Int32) (v2 : Int32) (k0 : Bool) (σ : nS) : Bool := s_Mo_barred_84_3 v1 v2 k0 σ
def s_Mo_barred_59_3 (v1 : Int32) (v2 : Int32) (σ : nS) : Bool := s_Mo_barred_83_3 v1 v2 true σ
def s_Mo_barred_5_3 (v1 : Int32) (v2 : Int32) (v3 : Bool) (σ : nS) : Bool := if v1 < (σ 5 3) then (s_Mo_barred_84_3 v1 v2 v3 σ) else (if (σ 10 3) ≤ v1 then (s_Mo_barred_84_3 v1 v2 v3 σ) else (if v2 = (3 : Int32) then (if (σ 6 3) < (1 : Int32) then (s_Mo_barred_59_3 v1 v2 σ) else (if (σ 7 3) = (0 : Int32) then (s_Mo_barred_83_3 v1 v2 false σ) else (s_Mo_barred_59_3 v1 v2 σ))) else (if v2 ≤ (σ 6 3) then (s_Mo_barred_83_3 v1 v2 false σ) else (s_Mo_barred_83_3 v1 v2 true σ))))
def s_Mo_barred_84_2 (v1 : Int32) (v2 : Int32) (v3 : Bool) (σ : nS) : Bool := s_Mo_barred_5_3 v1 v2 v3 σ
def s_Mo_barred_83_2 (v1 : Int32) (v2 : Int32) (k0 : Bool) (σ : nS) : Bool := s_Mo_barred_84_2 v1 v2 k0 σ
def s_Mo_barred_59_2 (v1 : Int32) (v2 : Int32) (σ : nS) : Bool := s_Mo_barred_83_2 v1 v2 true σ
def s_Mo_barred_5_2 (v1 : Int32) (v2 : Int32) (v3 : Bool) (σ : nS) : Bool := if v1 < (σ 5 2) then (s_Mo_barred_84_2 v1 v2 v3 σ) else (if (σ 10 2) ≤ v1 then (s_Mo_barred_84_2 v1 v2 v3 σ) else (if v2 = (3 : Int32) then (if (σ 6 2) < (1 : Int32) then (s_Mo_barred_59_2 v1 v2 σ) else (if (σ 7 2) = (0 : Int32) then (s_Mo_barred_83_2 v1 v2 false σ) else (s_Mo_barred_59_2 v1 v2 σ))) else (if v2 ≤ (σ 6 2) then (s_Mo_barred_83_2 v1 v2 false σ) else (s_Mo_barred_83_2 v1 v2 true σ))))
def s_Mo_barred_84_1 (v1 : Int32) (v2 : Int32) (v3 : Bool) (σ : nS) : Bool := s_Mo_barred_5_2 v1 v2 v3 σ
def s_Mo_barred_83_1 (v1 : Int32) (v2 : Int32) (k0 : Bool) (σ : nS) : Bool := s_Mo_barred_84_1 v1 v2 k0 σ
def s_Mo_barred_59_1 (v1 : Int32) (v2 : Int32) (σ : nS) : Bool := s_Mo_barred_83_1 v1 v2 true σ
def s_Mo_barred_5_1 (v1 : Int32) (v2 : Int32) (v3 : Bool) (σ : nS) : Bool := if v1 < (σ 5 1) then (s_Mo_barred_84_1 v1 v2 v3 σ) else (if (σ 10 1) ≤ v1 then (s_Mo_barred_84_1 v1 v2 v3 σ) else (if v2 = (3 : Int32) then (if (σ 6 1) < (1 : Int32) then (s_Mo_barred_59_1 v1 v2 σ) else (if (σ 7 1) = (0 : Int32) then (s_Mo_barred_83_1 v1 v2 false σ) else (s_Mo_barred_59_1 v1 v2 σ))) else (if v2 ≤ (σ 6 1) then (s_Mo_barred_83_1 v1 v2 false σ) else (s_Mo_barred_83_1 v1 v2 true σ))))
def s_Mo_barred_84_0 (v1 : Int32) (v2 : Int32) (v3 : Bool) (σ : nS) : Bool := s_Mo_barred_5_1 v1 v2 v3 σ
def s_Mo_barred_83_0 (v1 : Int32) (v2 : Int32) (k0 : Bool) (σ : nS) : Bool := s_Mo_barred_84_0 v1 v2 k0 σ
def s_Mo_barred_59_0 (v1 : Int32) (v2 : Int32) (σ : nS) : Bool := s_Mo_barred_83_0 v1 v2 true σ
def s_Mo_barred_5_0 (v1 : Int32) (v2 : Int32) (σ : nS) : Bool := if v1 < (σ 5 0) then (s_Mo_barred_84_0 v1 v2 false σ) else (if (σ 10 0) ≤ v1 then (s_Mo_barred_84_0 v1 v2 false σ) else (if v2 = (3 : Int32) then (if (σ 6 0) < (1 : Int32) then (s_Mo_barred_59_0 v1 v2 σ) else (if (σ 7 0) = (0 : Int32) then (s_Mo_barred_83_0 v1 v2 false σ) else (s_Mo_barred_59_0 v1 v2 σ))) else (if v2 ≤ (σ 6 0) then (s_Mo_barred_83_0 v1 v2 false σ) else (s_Mo_barred_83_0 v1 v2 true σ))))
def s_Mo_barred (v1 : Int32) (v2 : Int32) (σ : nS) : Bool := s_Mo_barred_5_0 v1 v2 σ
def s_Mo_faultOf_32_9 (v1 : Int32) (v2 : Int32) (v3 : Int32) (σ : nS) : Int32 := (0 : Int32)
def s_Mo_faultOf_32_8 (v1 : Int32) (v2 : Int32) (v3 : Int32) (σ : nS) : Int32 := if v2 ≤ (8 : Int32) then ((0 : Int32)) else (if (s_Mo_barred (v1 + (32 : Int32)) v3 σ) = true then ((4 : Int32)) else (s_Mo_faultOf_32_9 v1 v2 v3 σ))
def s_Mo_faultOf_32_7 (v1 : Int32) (v2 : Int32) (v3 : Int32) (σ : nS) : Int32 := if v2 ≤ (7 : Int32) then ((0 : Int32)) else (if (s_Mo_barred (v1 + (28 : Int32)) v3 σ) = true then ((4 : Int32)) else (s_Mo_faultOf_32_8 v1 v2 v3 σ))
def s_Mo_faultOf_32_6 (v1 : Int32) (v2 : Int32) (v3 : Int32) (σ : nS) : Int32 := if v2 ≤ (6 : Int32) then ((0 : Int32)) else (if (s_Mo_barred (v1 + (24 : Int32)) v3 σ) = true then ((4 : Int32)) else (s_Mo_faultOf_32_7 v1 v2 v3 σ))
def s_Mo_faultOf_32_5 (v1 : Int32) (v2 : Int32) (v3 : Int32) (σ : nS) : Int32 := if v2 ≤ (5 : Int32) then ((0 : Int32)) else (if (s_Mo_barred (v1 + (20 : Int32)) v3 σ) = true then ((4 : Int32)) else (s_Mo_faultOf_32_6 v1 v2 v3 σ))
def s_Mo_faultOf_32_4 (v1 : Int32) (v2 : Int32) (v3 : Int32) (σ : nS) : Int32 := if v2 ≤ (4 : Int32) then ((0 : Int32)) else (if (s_Mo_barred (v1 + (16 : Int32)) v3 σ) = true then ((4 : Int32)) else (s_Mo_faultOf_32_5 v1 v2 v3 σ))
def s_Mo_faultOf_32_3 (v1 : Int32) (v2 : Int32) (v3 : Int32) (σ : nS) : Int32 := if v2 ≤ (3 : Int32) then ((0 : Int32)) else (if (s_Mo_barred (v1 + (12 : Int32)) v3 σ) = true then ((4 : Int32)) else (s_Mo_faultOf_32_4 v1 v2 v3 σ))
def s_Mo_faultOf_32_2 (v1 : Int32) (v2 : Int32) (v3 : Int32) (σ : nS) : Int32 := if v2 ≤ (2 : Int32) then ((0 : Int32)) else (if (s_Mo_barred (v1 + (8 : Int32)) v3 σ) = true then ((4 : Int32)) else (s_Mo_faultOf_32_3 v1 v2 v3 σ))
def s_Mo_faultOf_32_1 (v1 : Int32) (v2 : Int32) (v3 : Int32) (σ : nS) : Int32 := if v2 ≤ (1 : Int32) then ((0 : Int32)) else (if (s_Mo_barred (v1 + (4 : Int32)) v3 σ) = true then ((4 : Int32)) else (s_Mo_faultOf_32_2 v1 v2 v3 σ))
def s_Mo_faultOf_32_0 (v1 : Int32) (v2 : Int32) (v3 : Int32) (σ : nS) : Int32 := if v2 ≤ (0 : Int32) then ((0 : Int32)) else (if (s_Mo_barred (v1 + (0 : Int32)) v3 σ) = true then ((4 : Int32)) else (s_Mo_faultOf_32_1 v1 v2 v3 σ))
def s_Mo_faultOf_3_9 (v1 : Int32) (v2 : Int32) (v3 : Int32) (σ : nS) : Int32 := s_Mo_faultOf_32_0 v1 v2 v3 σ
def s_Mo_faultOf_3_8 (v1 : Int32) (v2 : Int32) (v3 : Int32) (σ : nS) : Int32 := if v2 ≤ (8 : Int32) then (s_Mo_faultOf_32_0 v1 v2 v3 σ) else (if (s_Mo_isWord (v1 + (32 : Int32))) = true then (s_Mo_faultOf_3_9 v1 v2 v3 σ) else ((5 : Int32)))
def s_Mo_faultOf_3_7 (v1 : Int32) (v2 : Int32) (v3 : Int32) (σ : nS) : Int32 := if v2 ≤ (7 : Int32) then (s_Mo_faultOf_32_0 v1 v2 v3 σ) else (if (s_Mo_isWord (v1 + (28 : Int32))) = true then (s_Mo_faultOf_3_8 v1 v2 v3 σ) else ((5 : Int32)))
def s_Mo_faultOf_3_6 (v1 : Int32) (v2 : Int32) (v3 : Int32) (σ : nS) : Int32 := if v2 ≤ (6 : Int32) then (s_Mo_faultOf_32_0 v1 v2 v3 σ) else (if (s_Mo_isWord (v1 + (24 : Int32))) = true then (s_Mo_faultOf_3_7 v1 v2 v3 σ) else ((5 : Int32)))
def s_Mo_faultOf_3_5 (v1 : Int32) (v2 : Int32) (v3 : Int32) (σ : nS) : Int32 := if v2 ≤ (5 : Int32) then (s_Mo_faultOf_32_0 v1 v2 v3 σ) else (if (s_Mo_isWord (v1 + (20 : Int32))) = true then (s_Mo_faultOf_3_6 v1 v2 v3 σ) else ((5 : Int32)))
def s_Mo_faultOf_3_4 (v1 : Int32) (v2 : Int32) (v3 : Int32) (σ : nS) : Int32 := if v2 ≤ (4 : Int32) then (s_Mo_faultOf_32_0 v1 v2 v3 σ) else (if (s_Mo_isWord (v1 + (16 : Int32))) = true then (s_Mo_faultOf_3_5 v1 v2 v3 σ) else ((5 : Int32)))
def s_Mo_faultOf_3_3 (v1 : Int32) (v2 : Int32) (v3 : Int32) (σ : nS) : Int32 := if v2 ≤ (3 : Int32) then (s_Mo_faultOf_32_0 v1 v2 v3 σ) else (if (s_Mo_isWord (v1 + (12 : Int32))) = true then (s_Mo_faultOf_3_4 v1 v2 v3 σ) else ((5 : Int32)))
def s_Mo_faultOf_3_2 (v1 : Int32) (v2 : Int32) (v3 : Int32) (σ : nS) : Int32 := if v2 ≤ (2 : Int32) then (s_Mo_faultOf_32_0 v1 v2 v3 σ) else (if (s_Mo_isWord (v1 + (8 : Int32))) = true then (s_Mo_faultOf_3_3 v1 v2 v3 σ) else ((5 : Int32)))
def s_Mo_faultOf_3_1 (v1 : Int32) (v2 : Int32) (v3 : Int32) (σ : nS) : Int32 := if v2 ≤ (1 : Int32) then (s_Mo_faultOf_32_0 v1 v2 v3 σ) else (if (s_Mo_isWord (v1 + (4 : Int32))) = true then (s_Mo_faultOf_3_2 v1 v2 v3 σ) else ((5 : Int32)))
def s_Mo_faultOf_3_0 (v1 : Int32) (v2 : Int32) (v3 : Int32) (σ : nS) : Int32 := if v2 ≤ (0 : Int32) then (s_Mo_faultOf_32_0 v1 v2 v3 σ) else (if (s_Mo_isWord (v1 + (0 : Int32))) = true then (s_Mo_faultOf_3_1 v1 v2 v3 σ) else ((5 : Int32)))
def s_Mo_faultOf (v1 : Int32) (v2 : Int32) (v3 : Int32) (σ : nS) : Int32 := s_Mo_faultOf_3_0 v1 v2 v3 σ
def o_Mo_faultOf_32_9 (v1 : Int32) (v2 : Int32) (v3 : Int32) (σ : nS) : Prop := v2 ≤ (9 : Int32) ∧ (True)
def o_Mo_faultOf_32_8 (v1 : Int32) (v2 : Int32) (v3 : Int32) (σ : nS) : Prop := if v2 ≤ (8 : Int32) then (True) else (if (s_Mo_barred (v1 + (32 : Int32)) v3 σ) = true then (True) else (o_Mo_faultOf_32_9 v1 v2 v3 σ))
def o_Mo_faultOf_32_7 (v1 : Int32) (v2 : Int32) (v3 : Int32) (σ : nS) : Prop := if v2 ≤ (7 : Int32) then (True) else (if (s_Mo_barred (v1 + (28 : Int32)) v3 σ) = true then (True) else (o_Mo_faultOf_32_8 v1 v2 v3 σ))
def o_Mo_faultOf_32_6 (v1 : Int32) (v2 : Int32) (v3 : Int32) (σ : nS) : Prop := if v2 ≤ (6 : Int32) then (True) else (if (s_Mo_barred (v1 + (24 : Int32)) v3 σ) = true then (True) else (o_Mo_faultOf_32_7 v1 v2 v3 σ))
def o_Mo_faultOf_32_5 (v1 : Int32) (v2 : Int32) (v3 : Int32) (σ : nS) : Prop := if v2 ≤ (5 : Int32) then (True) else (if (s_Mo_barred (v1 + (20 : Int32)) v3 σ) = true then (True) else (o_Mo_faultOf_32_6 v1 v2 v3 σ))
def o_Mo_faultOf_32_4 (v1 : Int32) (v2 : Int32) (v3 : Int32) (σ : nS) : Prop := if v2 ≤ (4 : Int32) then (True) else (if (s_Mo_barred (v1 + (16 : Int32)) v3 σ) = true then (True) else (o_Mo_faultOf_32_5 v1 v2 v3 σ))
def o_Mo_faultOf_32_3 (v1 : Int32) (v2 : Int32) (v3 : Int32) (σ : nS) : Prop := if v2 ≤ (3 : Int32) then (True) else (if (s_Mo_barred (v1 + (12 : Int32)) v3 σ) = true then (True) else (o_Mo_faultOf_32_4 v1 v2 v3 σ))
def o_Mo_faultOf_32_2 (v1 : Int32) (v2 : Int32) (v3 : Int32) (σ : nS) : Prop := if v2 ≤ (2 : Int32) then (True) else (if (s_Mo_barred (v1 + (8 : Int32)) v3 σ) = true then (True) else (o_Mo_faultOf_32_3 v1 v2 v3 σ))
def o_Mo_faultOf_32_1 (v1 : Int32) (v2 : Int32) (v3 : Int32) (σ : nS) : Prop := if v2 ≤ (1 : Int32) then (True) else (if (s_Mo_barred (v1 + (4 : Int32)) v3 σ) = true then (True) else (o_Mo_faultOf_32_2 v1 v2 v3 σ))
def o_Mo_faultOf_32_0 (v1 : Int32) (v2 : Int32) (v3 : Int32) (σ : nS) : Prop := if v2 ≤ (0 : Int32) then (True) else (if (s_Mo_barred (v1 + (0 : Int32)) v3 σ) = true then (True) else (o_Mo_faultOf_32_1 v1 v2 v3 σ))
def o_Mo_faultOf_3_9 (v1 : Int32) (v2 : Int32) (v3 : Int32) (σ : nS) : Prop := v2 ≤ (9 : Int32) ∧ (o_Mo_faultOf_32_0 v1 v2 v3 σ)
def o_Mo_faultOf_3_8 (v1 : Int32) (v2 : Int32) (v3 : Int32) (σ : nS) : Prop := if v2 ≤ (8 : Int32) then (o_Mo_faultOf_32_0 v1 v2 v3 σ) else (if (s_Mo_isWord (v1 + (32 : Int32))) = true then (o_Mo_faultOf_3_9 v1 v2 v3 σ) else (True))
def o_Mo_faultOf_3_7 (v1 : Int32) (v2 : Int32) (v3 : Int32) (σ : nS) : Prop := if v2 ≤ (7 : Int32) then (o_Mo_faultOf_32_0 v1 v2 v3 σ) else (if (s_Mo_isWord (v1 + (28 : Int32))) = true then (o_Mo_faultOf_3_8 v1 v2 v3 σ) else (True))
def o_Mo_faultOf_3_6 (v1 : Int32) (v2 : Int32) (v3 : Int32) (σ : nS) : Prop := if v2 ≤ (6 : Int32) then (o_Mo_faultOf_32_0 v1 v2 v3 σ) else (if (s_Mo_isWord (v1 + (24 : Int32))) = true then (o_Mo_faultOf_3_7 v1 v2 v3 σ) else (True))
def o_Mo_faultOf_3_5 (v1 : Int32) (v2 : Int32) (v3 : Int32) (σ : nS) : Prop := if v2 ≤ (5 : Int32) then (o_Mo_faultOf_32_0 v1 v2 v3 σ) else (if (s_Mo_isWord (v1 + (20 : Int32))) = true then (o_Mo_faultOf_3_6 v1 v2 v3 σ) else (True))
def o_Mo_faultOf_3_4 (v1 : Int32) (v2 : Int32) (v3 : Int32) (σ : nS) : Prop := if v2 ≤ (4 : Int32) then (o_Mo_faultOf_32_0 v1 v2 v3 σ) else (if (s_Mo_isWord (v1 + (16 : Int32))) = true then (o_Mo_faultOf_3_5 v1 v2 v3 σ) else (True))
def o_Mo_faultOf_3_3 (v1 : Int32) (v2 : Int32) (v3 : Int32) (σ : nS) : Prop := if v2 ≤ (3 : Int32) then (o_Mo_faultOf_32_0 v1 v2 v3 σ) else (if (s_Mo_isWord (v1 + (12 : Int32))) = true then (o_Mo_faultOf_3_4 v1 v2 v3 σ) else (True))
def o_Mo_faultOf_3_2 (v1 : Int32) (v2 : Int32) (v3 : Int32) (σ : nS) : Prop := if v2 ≤ (2 : Int32) then (o_Mo_faultOf_32_0 v1 v2 v3 σ) else (if (s_Mo_isWord (v1 + (8 : Int32))) = true then (o_Mo_faultOf_3_3 v1 v2 v3 σ) else (True))
def o_Mo_faultOf_3_1 (v1 : Int32) (v2 : Int32) (v3 : Int32) (σ : nS) : Prop := if v2 ≤ (1 : Int32) then (o_Mo_faultOf_32_0 v1 v2 v3 σ) else (if (s_Mo_isWord (v1 + (4 : Int32))) = true then (o_Mo_faultOf_3_2 v1 v2 v3 σ) else (True))
def o_Mo_faultOf_3_0 (v1 : Int32) (v2 : Int32) (v3 : Int32) (σ : nS) : Prop := if v2 ≤ (0 : Int32) then (o_Mo_faultOf_32_0 v1 v2 v3 σ) else (if (s_Mo_isWord (v1 + (0 : Int32))) = true then (o_Mo_faultOf_3_1 v1 v2 v3 σ) else (True))
def o_Mo_faultOf (v1 : Int32) (v2 : Int32) (v3 : Int32) (σ : nS) : Prop := o_Mo_faultOf_3_0 v1 v2 v3 σ
def s_Mo_group (v1 : Int32) (σ : nS) : Int32 := if (0 : Int32) ≤ v1 then ((v1 >>> ((σ 8 0) &&& 31))) else (v1)
def s_Mo_level_108 (v1 : Int32) (σ : nS) : Int32 := v1
def s_Mo_level_92 (v1 : Int32) (σ : nS) : Int32 := if (σ 8 3) = (0 : Int32) then (s_Mo_level_108 v1 σ) else (if v1 ≤ (-1 : Int32) then (s_Mo_level_108 v1 σ) else ((-1 : Int32)))
def s_Mo_level_79 (v1 : Int32) (σ : nS) : Int32 := if (σ 8 2) = (0 : Int32) then (s_Mo_level_92 v1 σ) else (if v1 ≤ (0 : Int32) then (s_Mo_level_92 v1 σ) else (s_Mo_level_92 (0 : Int32) σ))
def s_Mo_level_5_16 (v1 : Int32) (σ : nS) : Int32 := if (σ 8 1) = (0 : Int32) then (s_Mo_level_79 v1 σ) else (if v1 ≤ (s_Mo_group (σ 8 1) σ) then (s_Mo_level_79 v1 σ) else (s_Mo_level_79 (s_Mo_group (σ 8 1) σ) σ))
def s_Mo_level_45_15 (v1 : Int32) (σ : nS) : Int32 := s_Mo_level_5_16 v1 σ
def s_Mo_level_5_15 (v1 : Int32) (σ : nS) : Int32 := if (σ 3 15) = (0 : Int32) then (s_Mo_level_45_15 v1 σ) else (if v1 ≤ (s_Mo_group (σ 4 15) σ) then (s_Mo_level_45_15 v1 σ) else (s_Mo_level_45_15 (s_Mo_group (σ 4 15) σ) σ))
def s_Mo_level_45_14 (v1 : Int32) (σ : nS) : Int32 := s_Mo_level_5_15 v1 σ
def s_Mo_level_5_14 (v1 : Int32) (σ : nS) : Int32 := if (σ 3 14) = (0 : Int32) then (s_Mo_level_45_14 v1 σ) else (if v1 ≤ (s_Mo_group (σ 4 14) σ) then (s_Mo_level_45_14 v1 σ) else (s_Mo_level_45_14 (s_Mo_group (σ 4 14) σ) σ))
def s_Mo_level_45_13 (v1 : Int32) (σ : nS) : Int32 := s_Mo_level_5_14 v1 σ
def s_Mo_level_5_13 (v1 : Int32) (σ : nS) : Int32 := if (σ 3 13) = (0 : Int32) then (s_Mo_level_45_13 v1 σ) else (if v1 ≤ (s_Mo_group (σ 4 13) σ) then (s_Mo_level_45_13 v1 σ) else (s_Mo_level_45_13 (s_Mo_group (σ 4 13) σ) σ))
def s_Mo_level_45_12 (v1 : Int32) (σ : nS) : Int32 := s_Mo_level_5_13 v1 σ
def s_Mo_level_5_12 (v1 : Int32) (σ : nS) : Int32 := if (σ 3 12) = (0 : Int32) then (s_Mo_level_45_12 v1 σ) else (if v1 ≤ (s_Mo_group (σ 4 12) σ) then (s_Mo_level_45_12 v1 σ) else (s_Mo_level_45_12 (s_Mo_group (σ 4 12) σ) σ))
def s_Mo_level_45_11 (v1 : Int32) (σ : nS) : Int32 := s_Mo_level_5_12 v1 σ
def s_Mo_level_5_11 (v1 : Int32) (σ : nS) : Int32 := if (σ 3 11) = (0 : Int32) then (s_Mo_level_45_11 v1 σ) else (if v1 ≤ (s_Mo_group (σ 4 11) σ) then (s_Mo_level_45_11 v1 σ) else (s_Mo_level_45_11 (s_Mo_group (σ 4 11) σ) σ))
def s_Mo_level_45_10 (v1 : Int32) (σ : nS) : Int32 := s_Mo_level_5_11 v1 σ
def s_Mo_level_5_10 (v1 : Int32) (σ : nS) : Int32 := if (σ 3 10) = (0 : Int32) then (s_Mo_level_45_10 v1 σ) else (if v1 ≤ (s_Mo_group (σ 4 10) σ) then (s_Mo_level_45_10 v1 σ) else (s_Mo_level_45_10 (s_Mo_group (σ 4 10) σ) σ))
def s_Mo_level_45_9 (v1 : Int32) (σ : nS) : Int32 := s_Mo_level_5_10 v1 σ
def s_Mo_level_5_9 (v1 : Int32) (σ : nS) : Int32 := if (σ 3 9) = (0 : Int32) then (s_Mo_level_45_9 v1 σ) else (if v1 ≤ (s_Mo_group (σ 4 9) σ) then (s_Mo_level_45_9 v1 σ) else (s_Mo_level_45_9 (s_Mo_group (σ 4 9) σ) σ))
def s_Mo_level_45_8 (v1 : Int32) (σ : nS) : Int32 := s_Mo_level_5_9 v1 σ
def s_Mo_level_5_8 (v1 : Int32) (σ : nS) : Int32 := if (σ 3 8) = (0 : Int32) then (s_Mo_level_45_8 v1 σ) else (if v1 ≤ (s_Mo_group (σ 4 8) σ) then (s_Mo_level_45_8 v1 σ) else (s_Mo_level_45_8 (s_Mo_group (σ 4 8) σ) σ))
def s_Mo_level_45_7 (v1 : Int32) (σ : nS) : Int32 := s_Mo_level_5_8 v1 σ
def s_Mo_level_5_7 (v1 : Int32) (σ : nS) : Int32 := if (σ 3 7) = (0 : Int32) then (s_Mo_level_45_7 v1 σ) else (if v1 ≤ (s_Mo_group (σ 4 7) σ) then (s_Mo_level_45_7 v1 σ) else (s_Mo_level_45_7 (s_Mo_group (σ 4 7) σ) σ))
def s_Mo_level_45_6 (v1 : Int32) (σ : nS) : Int32 := s_Mo_level_5_7 v1 σ
def s_Mo_level_5_6 (v1 : Int32) (σ : nS) : Int32 := if (σ 3 6) = (0 : Int32) then (s_Mo_level_45_6 v1 σ) else (if v1 ≤ (s_Mo_group (σ 4 6) σ) then (s_Mo_level_45_6 v1 σ) else (s_Mo_level_45_6 (s_Mo_group (σ 4 6) σ) σ))
def s_Mo_level_45_5 (v1 : Int32) (σ : nS) : Int32 := s_Mo_level_5_6 v1 σ
def s_Mo_level_5_5 (v1 : Int32) (σ : nS) : Int32 := if (σ 3 5) = (0 : Int32) then (s_Mo_level_45_5 v1 σ) else (if v1 ≤ (s_Mo_group (σ 4 5) σ) then (s_Mo_level_45_5 v1 σ) else (s_Mo_level_45_5 (s_Mo_group (σ 4 5) σ) σ))
def s_Mo_level_45_4 (v1 : Int32) (σ : nS) : Int32 := s_Mo_level_5_5 v1 σ
def s_Mo_level_5_4 (v1 : Int32) (σ : nS) : Int32 := if (σ 3 4) = (0 : Int32) then (s_Mo_level_45_4 v1 σ) else (if v1 ≤ (s_Mo_group (σ 4 4) σ) then (s_Mo_level_45_4 v1 σ) else (s_Mo_level_45_4 (s_Mo_group (σ 4 4) σ) σ))
def s_Mo_level_45_3 (v1 : Int32) (σ : nS) : Int32 := s_Mo_level_5_4 v1 σ
def s_Mo_level_5_3 (v1 : Int32) (σ : nS) : Int32 := if (σ 3 3) = (0 : Int32) then (s_Mo_level_45_3 v1 σ) else (if v1 ≤ (s_Mo_group (σ 4 3) σ) then (s_Mo_level_45_3 v1 σ) else (s_Mo_level_45_3 (s_Mo_group (σ 4 3) σ) σ))
def s_Mo_level_45_2 (v1 : Int32) (σ : nS) : Int32 := s_Mo_level_5_3 v1 σ
def s_Mo_level_5_2 (σ : nS) : Int32 := if (σ 3 2) = (0 : Int32) then (s_Mo_level_45_2 (8 : Int32) σ) else (if (8 : Int32) ≤ (s_Mo_group (σ 4 2) σ) then (s_Mo_level_45_2 (8 : Int32) σ) else (s_Mo_level_45_2 (s_Mo_group (σ 4 2) σ) σ))
def s_Mo_level (σ : nS) : Int32 := s_Mo_level_5_2 σ
def s_Mo_due_80 (σ : nS) : Int32 := (0 : Int32)
def s_Mo_due_5_1 (v1 : Int32) (σ : nS) : Int32 := if v1 ≤ (0 : Int32) then (s_Mo_due_80 σ) else (if (s_Mo_level σ) ≤ (s_Mo_group (σ 4 (v1).toNatClampNeg) σ) then (s_Mo_due_80 σ) else (v1))
def s_Mo_due_49_2 (v1 : Int32) (σ : nS) : Int32 := s_Mo_due_5_1 v1 σ
def s_Mo_due_47_2 (σ : nS) : Int32 := s_Mo_due_49_2 (2 : Int32) σ
def s_Mo_due_5_2 (v1 : Int32) (σ : nS) : Int32 := if (σ 2 2) = (0 : Int32) then (s_Mo_due_49_2 v1 σ) else (if (σ 1 2) = (0 : Int32) then (s_Mo_due_49_2 v1 σ) else (if v1 = (0 : Int32) then (s_Mo_due_47_2 σ) else (if (σ 4 (v1).toNatClampNeg) < (σ 4 2) then (s_Mo_due_49_2 v1 σ) else (s_Mo_due_47_2 σ))))
def s_Mo_due_49_3 (v1 : Int32) (σ : nS) : Int32 := s_Mo_due_5_2 v1 σ
def s_Mo_due_47_3 (σ : nS) : Int32 := s_Mo_due_49_3 (3 : Int32) σ
def s_Mo_due_5_3 (v1 : Int32) (σ : nS) : Int32 := if (σ 2 3) = (0 : Int32) then (s_Mo_due_49_3 v1 σ) else (if (σ 1 3) = (0 : Int32) then (s_Mo_due_49_3 v1 σ) else (if v1 = (0 : Int32) then (s_Mo_due_47_3 σ) else (if (σ 4 (v1).toNatClampNeg) < (σ 4 3) then (s_Mo_due_49_3 v1 σ) else (s_Mo_due_47_3 σ))))
def s_Mo_due_49_4 (v1 : Int32) (σ : nS) : Int32 := s_Mo_due_5_3 v1 σ
def s_Mo_due_47_4 (σ : nS) : Int32 := s_Mo_due_49_4 (4 : Int32) σ
def s_Mo_due_5_4 (v1 : Int32) (σ : nS) : Int32 := if (σ 2 4) = (0 : Int32) then (s_Mo_due_49_4 v1 σ) else (if (σ 1 4) = (0 : Int32) then (s_Mo_due_49_4 v1 σ) else (if v1 = (0 : Int32) then (s_Mo_due_47_4 σ) else (if (σ 4 (v1).toNatClampNeg) < (σ 4 4) then (s_Mo_due_49_4 v1 σ) else (s_Mo_due_47_4 σ))))
def s_Mo_due_49_5 (v1 : Int32) (σ : nS) : Int32 := s_Mo_due_5_4 v1 σ
def s_Mo_due_47_5 (σ : nS) : Int32 := s_Mo_due_49_5 (5 : Int32) σ
def s_Mo_due_5_5 (v1 : Int32) (σ : nS) : Int32 := if (σ 2 5) = (0 : Int32) then (s_Mo_due_49_5 v1 σ) else (if (σ 1 5) = (0 : Int32) then (s_Mo_due_49_5 v1 σ) else (if v1 = (0 : Int32) then (s_Mo_due_47_5 σ) else (if (σ 4 (v1).toNatClampNeg) < (σ 4 5) then (s_Mo_due_49_5 v1 σ) else (s_Mo_due_47_5 σ))))
def s_Mo_due_49_6 (v1 : Int32) (σ : nS) : Int32 := s_Mo_due_5_5 v1 σ
def s_Mo_due_47_6 (σ : nS) : Int32 := s_Mo_due_49_6 (6 : Int32) σ
def s_Mo_due_5_6 (v1 : Int32) (σ : nS) : Int32 := if (σ 2 6) = (0 : Int32) then (s_Mo_due_49_6 v1 σ) else (if (σ 1 6) = (0 : Int32) then (s_Mo_due_49_6 v1 σ) else (if v1 = (0 : Int32) then (s_Mo_due_47_6 σ) else (if (σ 4 (v1).toNatClampNeg) < (σ 4 6) then (s_Mo_due_49_6 v1 σ) else (s_Mo_due_47_6 σ))))
def s_Mo_due_49_7 (v1 : Int32) (σ : nS) : Int32 := s_Mo_due_5_6 v1 σ
def s_Mo_due_47_7 (σ : nS) : Int32 := s_Mo_due_49_7 (7 : Int32) σ
def s_Mo_due_5_7 (v1 : Int32) (σ : nS) : Int32 := if (σ 2 7) = (0 : Int32) then (s_Mo_due_49_7 v1 σ) else (if (σ 1 7) = (0 : Int32) then (s_Mo_due_49_7 v1 σ) else (if v1 = (0 : Int32) then (s_Mo_due_47_7 σ) else (if (σ 4 (v1).toNatClampNeg) < (σ 4 7) then (s_Mo_due_49_7 v1 σ) else (s_Mo_due_47_7 σ))))
def s_Mo_due_49_8 (v1 : Int32) (σ : nS) : Int32 := s_Mo_due_5_7 v1 σ
def s_Mo_due_47_8 (σ : nS) : Int32 := s_Mo_due_49_8 (8 : Int32) σ
def s_Mo_due_5_8 (v1 : Int32) (σ : nS) : Int32 := if (σ 2 8) = (0 : Int32) then (s_Mo_due_49_8 v1 σ) else (if (σ 1 8) = (0 : Int32) then (s_Mo_due_49_8 v1 σ) else (if v1 = (0 : Int32) then (s_Mo_due_47_8 σ) else (if (σ 4 (v1).toNatClampNeg) < (σ 4 8) then (s_Mo_due_49_8 v1 σ) else (s_Mo_due_47_8 σ))))
def s_Mo_due_49_9 (v1 : Int32) (σ : nS) : Int32 := s_Mo_due_5_8 v1 σ
def s_Mo_due_47_9 (σ : nS) : Int32 := s_Mo_due_49_9 (9 : Int32) σ
def s_Mo_due_5_9 (v1 : Int32) (σ : nS) : Int32 := if (σ 2 9) = (0 : Int32) then (s_Mo_due_49_9 v1 σ) else (if (σ 1 9) = (0 : Int32) then (s_Mo_due_49_9 v1 σ) else (if v1 = (0 : Int32) then (s_Mo_due_47_9 σ) else (if (σ 4 (v1).toNatClampNeg) < (σ 4 9) then (s_Mo_due_49_9 v1 σ) else (s_Mo_due_47_9 σ))))
def s_Mo_due_49_10 (v1 : Int32) (σ : nS) : Int32 := s_Mo_due_5_9 v1 σ
def s_Mo_due_47_10 (σ : nS) : Int32 := s_Mo_due_49_10 (10 : Int32) σ
def s_Mo_due_5_10 (v1 : Int32) (σ : nS) : Int32 := if (σ 2 10) = (0 : Int32) then (s_Mo_due_49_10 v1 σ) else (if (σ 1 10) = (0 : Int32) then (s_Mo_due_49_10 v1 σ) else (if v1 = (0 : Int32) then (s_Mo_due_47_10 σ) else (if (σ 4 (v1).toNatClampNeg) < (σ 4 10) then (s_Mo_due_49_10 v1 σ) else (s_Mo_due_47_10 σ))))
def s_Mo_due_49_11 (v1 : Int32) (σ : nS) : Int32 := s_Mo_due_5_10 v1 σ
def s_Mo_due_47_11 (σ : nS) : Int32 := s_Mo_due_49_11 (11 : Int32) σ
def s_Mo_due_5_11 (v1 : Int32) (σ : nS) : Int32 := if (σ 2 11) = (0 : Int32) then (s_Mo_due_49_11 v1 σ) else (if (σ 1 11) = (0 : Int32) then (s_Mo_due_49_11 v1 σ) else (if v1 = (0 : Int32) then (s_Mo_due_47_11 σ) else (if (σ 4 (v1).toNatClampNeg) < (σ 4 11) then (s_Mo_due_49_11 v1 σ) else (s_Mo_due_47_11 σ))))
def s_Mo_due_49_12 (v1 : Int32) (σ : nS) : Int32 := s_Mo_due_5_11 v1 σ
def s_Mo_due_47_12 (σ : nS) : Int32 := s_Mo_due_49_12 (12 : Int32) σ
def s_Mo_due_5_12 (v1 : Int32) (σ : nS) : Int32 := if (σ 2 12) = (0 : Int32) then (s_Mo_due_49_12 v1 σ) else (if (σ 1 12) = (0 : Int32) then (s_Mo_due_49_12 v1 σ) else (if v1 = (0 : Int32) then (s_Mo_due_47_12 σ) else (if (σ 4 (v1).toNatClampNeg) < (σ 4 12) then (s_Mo_due_49_12 v1 σ) else (s_Mo_due_47_12 σ))))
def s_Mo_due_49_13 (v1 : Int32) (σ : nS) : Int32 := s_Mo_due_5_12 v1 σ
def s_Mo_due_47_13 (σ : nS) : Int32 := s_Mo_due_49_13 (13 : Int32) σ
def s_Mo_due_5_13 (v1 : Int32) (σ : nS) : Int32 := if (σ 2 13) = (0 : Int32) then (s_Mo_due_49_13 v1 σ) else (if (σ 1 13) = (0 : Int32) then (s_Mo_due_49_13 v1 σ) else (if v1 = (0 : Int32) then (s_Mo_due_47_13 σ) else (if (σ 4 (v1).toNatClampNeg) < (σ 4 13) then (s_Mo_due_49_13 v1 σ) else (s_Mo_due_47_13 σ))))
def s_Mo_due_49_14 (v1 : Int32) (σ : nS) : Int32 := s_Mo_due_5_13 v1 σ
def s_Mo_due_47_14 (σ : nS) : Int32 := s_Mo_due_49_14 (14 : Int32) σ
def s_Mo_due_5_14 (v1 : Int32) (σ : nS) : Int32 := if (σ 2 14) = (0 : Int32) then (s_Mo_due_49_14 v1 σ) else (if (σ 1 14) = (0 : Int32) then (s_Mo_due_49_14 v1 σ) else (if v1 = (0 : Int32) then (s_Mo_due_47_14 σ) else (if (σ 4 (v1).toNatClampNeg) < (σ 4 14) then (s_Mo_due_49_14 v1 σ) else (s_Mo_due_47_14 σ))))
def s_Mo_due_49_15 (v1 : Int32) (σ : nS) : Int32 := s_Mo_due_5_14 v1 σ
def s_Mo_due_47_15 (σ : nS) : Int32 := s_Mo_due_49_15 (15 : Int32) σ
def s_Mo_due_5_15 (σ : nS) : Int32 := if (σ 2 15) = (0 : Int32) then (s_Mo_due_49_15 (0 : Int32) σ) else (if (σ 1 15) = (0 : Int32) then (s_Mo_due_49_15 (0 : Int32) σ) else (s_Mo_due_47_15 σ))
def s_Mo_due (σ : nS) : Int32 := s_Mo_due_5_15 σ
def s_Mo_enter (v1 : Int32) (σ : nS) : nS := (up2 (up2 (up2 (up2 σ 3 (v1).toNatClampNeg (bI true)) 2 (v1).toNatClampNeg (bI false)) 8 10 v1) 0 15 ((s_Mo_load ((4 : Int32) * v1) (up2 (up2 (up2 σ 3 (v1).toNatClampNeg (bI true)) 2 (v1).toNatClampNeg (bI false)) 8 10 v1)) &&& (-2 : Int32)))
def o_Mo_enter (v1 : Int32) (σ : nS) : Prop := o_Mo_load ((4 : Int32) * v1) (up2 (up2 (up2 σ 3 (v1).toNatClampNeg (bI true)) 2 (v1).toNatClampNeg (bI false)) 8 10 v1) ∧ (True)
def s_Mo_status_66 (k0 : Int32) (k1 : Int32) (σ : nS) : Int32 := ((k0 ||| k1) ||| (σ 8 10))
def s_Mo_status_54 (v1 : Bool) (k0 : Int32) (k1 : Int32) (σ : nS) : Int32 := if v1 = true then (s_Mo_status_66 (k0 ||| k1) (512 : Int32) σ) else (s_Mo_status_66 (k0 ||| k1) (0 : Int32) σ)
def s_Mo_status_40 (v1 : Bool) (k0 : Int32) (k1 : Int32) (σ : nS) : Int32 := if (σ 8 7) = (0 : Int32) then (s_Mo_status_54 v1 (k0 ||| k1) (0 : Int32) σ) else (s_Mo_status_54 v1 (k0 ||| k1) (268435456 : Int32) σ)
def s_Mo_status_26 (v1 : Bool) (k0 : Int32) (k1 : Int32) (σ : nS) : Int32 := if (σ 8 6) = (0 : Int32) then (s_Mo_status_40 v1 (k0 ||| k1) (0 : Int32) σ) else (s_Mo_status_40 v1 (k0 ||| k1) (536870912 : Int32) σ)
def s_Mo_status_13 (v1 : Bool) (k0 : Int32) (σ : nS) : Int32 := if (σ 8 5) = (0 : Int32) then (s_Mo_status_26 v1 k0 (0 : Int32) σ) else (s_Mo_status_26 v1 k0 (1073741824 : Int32) σ)
def s_Mo_status (v1 : Bool) (σ : nS) : Int32 := if (σ 8 4) = (0 : Int32) then (s_Mo_status_13 v1 (0 : Int32) σ) else (s_Mo_status_13 v1 (-2147483648 : Int32) σ)
def s_Mo_isFrame_21 : Bool := false
def s_Mo_isFrame (v0 : Int32) : Bool := if v0 < (0 : Int32) then (s_Mo_isFrame_21) else (if (992 : Int32) < v0 then (s_Mo_isFrame_21) else (if (v0 &&& (3 : Int32)) = (0 : Int32) then (true) else (s_Mo_isFrame_21)))
def s_Mo_take_170 (v1 : Int32) (k2 : Int32) (σ : nS) : nS := ap1 (s_Mo_enter v1 (up2 σ 0 14 k2)) fun σ1 => (up2 σ1 8 12 ((σ1 8 12) + (1 : Int32)))
def s_Mo_take_55_4 (v1 : Int32) (v2 : Bool) (v3 : Int32) (σ : nS) : nS := ap1 (s_Mo_store (v3 + (16 : Int32)) (σ 0 12) σ) fun σ1 => ap1 (s_Mo_store (v3 + (20 : Int32)) (σ1 0 14) σ1) fun σ2 => ap1 (s_Mo_store (v3 + (24 : Int32)) (σ2 0 15) σ2) fun σ3 => ap1 (s_Mo_store (v3 + (28 : Int32)) (s_Mo_status v2 σ3) σ3) fun σ4 => if ((up2 σ4 0 13 v3) 8 10) = (0 : Int32) then (s_Mo_take_170 v1 (-7 : Int32) (up2 σ4 0 13 v3)) else (s_Mo_take_170 v1 (-15 : Int32) (up2 σ4 0 13 v3))
def s_Mo_take_55_3 (v1 : Int32) (v2 : Bool) (v3 : Int32) (σ : nS) : nS := ap1 (s_Mo_store (v3 + (12 : Int32)) (σ 0 3) σ) fun σ1 => s_Mo_take_55_4 v1 v2 v3 σ1
def s_Mo_take_55_2 (v1 : Int32) (v2 : Bool) (v3 : Int32) (σ : nS) : nS := ap1 (s_Mo_store (v3 + (8 : Int32)) (σ 0 2) σ) fun σ1 => s_Mo_take_55_3 v1 v2 v3 σ1
def s_Mo_take_55_1 (v1 : Int32) (v2 : Bool) (v3 : Int32) (σ : nS) : nS := ap1 (s_Mo_store (v3 + (4 : Int32)) (σ 0 1) σ) fun σ1 => s_Mo_take_55_2 v1 v2 v3 σ1
def s_Mo_take_55_0 (v1 : Int32) (v2 : Bool) (v3 : Int32) (σ : nS) : nS := ap1 (s_Mo_store (v3 + (0 : Int32)) (σ 0 0) σ) fun σ1 => s_Mo_take_55_1 v1 v2 v3 σ1
def s_Mo_take_37 (v1 : Int32) (v2 : Bool) (k0 : Int32) (k1 : Int32) (σ : nS) : nS := if (s_Mo_isFrame (k0 - k1)) = true then (s_Mo_take_55_0 v1 v2 (k0 - k1) σ) else ((up2 σ 8 11 (2 : Int32)))
def s_Mo_take_18 (v1 : Int32) (k0 : Bool) (σ : nS) : nS := if k0 = true then (s_Mo_take_37 v1 k0 (σ 0 13) (36 : Int32) σ) else (s_Mo_take_37 v1 k0 (σ 0 13) (32 : Int32) σ)
def s_Mo_take (v1 : Int32) (σ : nS) : nS := if ((σ 0 13) &&& (7 : Int32)) = (0 : Int32) then (s_Mo_take_18 v1 false σ) else (s_Mo_take_18 v1 true σ)
def o_Mo_take_170 (v1 : Int32) (k2 : Int32) (σ : nS) : Prop := o_Mo_enter v1 (up2 σ 0 14 k2) ∧ (ap1 (s_Mo_enter v1 (up2 σ 0 14 k2)) fun σ1 => (True))
def o_Mo_take_55_4 (v1 : Int32) (v2 : Bool) (v3 : Int32) (σ : nS) : Prop := o_Mo_store (v3 + (16 : Int32)) (σ 0 12) σ ∧ (ap1 (s_Mo_store (v3 + (16 : Int32)) (σ 0 12) σ) fun σ1 => (o_Mo_store (v3 + (20 : Int32)) (σ1 0 14) σ1 ∧ (ap1 (s_Mo_store (v3 + (20 : Int32)) (σ1 0 14) σ1) fun σ2 => (o_Mo_store (v3 + (24 : Int32)) (σ2 0 15) σ2 ∧ (ap1 (s_Mo_store (v3 + (24 : Int32)) (σ2 0 15) σ2) fun σ3 => (o_Mo_store (v3 + (28 : Int32)) (s_Mo_status v2 σ3) σ3 ∧ (ap1 (s_Mo_store (v3 + (28 : Int32)) (s_Mo_status v2 σ3) σ3) fun σ4 => (if ((up2 σ4 0 13 v3) 8 10) = (0 : Int32) then (o_Mo_take_170 v1 (-7 : Int32) (up2 σ4 0 13 v3)) else (o_Mo_take_170 v1 (-15 : Int32) (up2 σ4 0 13 v3))))))))))
def o_Mo_take_55_3 (v1 : Int32) (v2 : Bool) (v3 : Int32) (σ : nS) : Prop := o_Mo_store (v3 + (12 : Int32)) (σ 0 3) σ ∧ (ap1 (s_Mo_store (v3 + (12 : Int32)) (σ 0 3) σ) fun σ1 => (o_Mo_take_55_4 v1 v2 v3 σ1))
def o_Mo_take_55_2 (v1 : Int32) (v2 : Bool) (v3 : Int32) (σ : nS) : Prop := o_Mo_store (v3 + (8 : Int32)) (σ 0 2) σ ∧ (ap1 (s_Mo_store (v3 + (8 : Int32)) (σ 0 2) σ) fun σ1 => (o_Mo_take_55_3 v1 v2 v3 σ1))
def o_Mo_take_55_1 (v1 : Int32) (v2 : Bool) (v3 : Int32) (σ : nS) : Prop := o_Mo_store (v3 + (4 : Int32)) (σ 0 1) σ ∧ (ap1 (s_Mo_store (v3 + (4 : Int32)) (σ 0 1) σ) fun σ1 => (o_Mo_take_55_2 v1 v2 v3 σ1))
def o_Mo_take_55_0 (v1 : Int32) (v2 : Bool) (v3 : Int32) (σ : nS) : Prop := o_Mo_store (v3 + (0 : Int32)) (σ 0 0) σ ∧ (ap1 (s_Mo_store (v3 + (0 : Int32)) (σ 0 0) σ) fun σ1 => (o_Mo_take_55_1 v1 v2 v3 σ1))
def o_Mo_take_37 (v1 : Int32) (v2 : Bool) (k0 : Int32) (k1 : Int32) (σ : nS) : Prop := if (s_Mo_isFrame (k0 - k1)) = true then (o_Mo_take_55_0 v1 v2 (k0 - k1) σ) else (True)
def o_Mo_take_18 (v1 : Int32) (k0 : Bool) (σ : nS) : Prop := if k0 = true then (o_Mo_take_37 v1 k0 (σ 0 13) (36 : Int32) σ) else (o_Mo_take_37 v1 k0 (σ 0 13) (32 : Int32) σ)
def o_Mo_take (v1 : Int32) (σ : nS) : Prop := if ((σ 0 13) &&& (7 : Int32)) = (0 : Int32) then (o_Mo_take_18 v1 false σ) else (o_Mo_take_18 v1 true σ)
def s_Mo_isBack_53 (σ : nS) : Bool := false
def s_Mo_isBack_46 (k0 : Bool) (k1 : Bool) (σ : nS) : Bool := if (bI k0) = (bI k1) then (true) else (s_Mo_isBack_53 σ)
def s_Mo_isBack_35 (v2 : Int32) (k0 : Bool) (σ : nS) : Bool := if v2 = (-7 : Int32) then (s_Mo_isBack_46 k0 true σ) else (s_Mo_isBack_46 k0 false σ)
def s_Mo_isBack (v1 : Int32) (v2 : Int32) (σ : nS) : Bool := if (s_Mo_isFrame v1) = true then (if ((s_Mo_load (v1 + (28 : Int32)) σ) &&& (15 : Int32)) = (1 : Int32) then (s_Mo_isBack_53 σ) else (if ((s_Mo_load (v1 + (28 : Int32)) σ) &&& (15 : Int32)) = (0 : Int32) then (s_Mo_isBack_35 v2 true σ) else (s_Mo_isBack_35 v2 false σ))) else (false)
def o_Mo_isBack_53 (σ : nS) : Prop := True
def o_Mo_isBack_46 (k0 : Bool) (k1 : Bool) (σ : nS) : Prop := if (bI k0) = (bI k1) then (True) else (o_Mo_isBack_53 σ)
def o_Mo_isBack_35 (v2 : Int32) (k0 : Bool) (σ : nS) : Prop := if v2 = (-7 : Int32) then (o_Mo_isBack_46 k0 true σ) else (o_Mo_isBack_46 k0 false σ)
def o_Mo_isBack (v1 : Int32) (v2 : Int32) (σ : nS) : Prop := if (s_Mo_isFrame v1) = true then (o_Mo_load (v1 + (28 : Int32)) σ ∧ (if ((s_Mo_load (v1 + (28 : Int32)) σ) &&& (15 : Int32)) = (1 : Int32) then (o_Mo_isBack_53 σ) else (if ((s_Mo_load (v1 + (28 : Int32)) σ) &&& (15 : Int32)) = (0 : Int32) then (o_Mo_isBack_35 v2 true σ) else (o_Mo_isBack_35 v2 false σ)))) else (True)
def s_Mo_flags_58 (k1 : Bool) (σ : nS) : nS := (up2 σ 8 7 (bI k1))
def s_Mo_flags_43 (v1 : Int32) (k1 : Bool) (σ : nS) : nS := if (v1 &&& (1 : Int32)) = (0 : Int32) then (s_Mo_flags_58 false (up2 σ 8 6 (bI k1))) else (s_Mo_flags_58 true (up2 σ 8 6 (bI k1)))
def s_Mo_flags_28 (v1 : Int32) (k1 : Bool) (σ : nS) : nS := if (v1 &&& (2 : Int32)) = (0 : Int32) then (s_Mo_flags_43 v1 false (up2 σ 8 5 (bI k1))) else (s_Mo_flags_43 v1 true (up2 σ 8 5 (bI k1)))
def s_Mo_flags_13 (v1 : Int32) (k1 : Bool) (σ : nS) : nS := if (v1 &&& (4 : Int32)) = (0 : Int32) then (s_Mo_flags_28 v1 false (up2 σ 8 4 (bI k1))) else (s_Mo_flags_28 v1 true (up2 σ 8 4 (bI k1)))
def s_Mo_flags (v1 : Int32) (σ : nS) : nS := if (v1 &&& (8 : Int32)) = (0 : Int32) then (s_Mo_flags_13 v1 false σ) else (s_Mo_flags_13 v1 true σ)
def s_Mo_comeBack_123 (k2 : Int32) (k3 : Int32) (σ : nS) : nS := (up2 σ 0 13 (k2 + k3))
def s_Mo_comeBack_11_4 (v1 : Int32) (v2 : Int32) (σ : nS) : nS := ap1 (s_Mo_flags (ush v2 (28 : Int32)) (up2 (up2 (up2 σ 0 12 (s_Mo_load (v1 + (16 : Int32)) σ)) 0 14 (s_Mo_load (v1 + (20 : Int32)) (up2 σ 0 12 (s_Mo_load (v1 + (16 : Int32)) σ)))) 0 15 ((s_Mo_load (v1 + (24 : Int32)) (up2 (up2 σ 0 12 (s_Mo_load (v1 + (16 : Int32)) σ)) 0 14 (s_Mo_load (v1 + (20 : Int32)) (up2 σ 0 12 (s_Mo_load (v1 + (16 : Int32)) σ))))) &&& (-2 : Int32)))) fun σ1 => if (v2 &&& (512 : Int32)) = (0 : Int32) then (s_Mo_comeBack_123 v1 (32 : Int32) (up2 σ1 8 10 (v2 &&& (15 : Int32)))) else (s_Mo_comeBack_123 v1 (36 : Int32) (up2 σ1 8 10 (v2 &&& (15 : Int32))))
def s_Mo_comeBack_11_3 (v1 : Int32) (v2 : Int32) (σ : nS) : nS := s_Mo_comeBack_11_4 v1 v2 (up2 σ 0 3 (s_Mo_load (v1 + (12 : Int32)) σ))
def s_Mo_comeBack_11_2 (v1 : Int32) (v2 : Int32) (σ : nS) : nS := s_Mo_comeBack_11_3 v1 v2 (up2 σ 0 2 (s_Mo_load (v1 + (8 : Int32)) σ))
def s_Mo_comeBack_11_1 (v1 : Int32) (v2 : Int32) (σ : nS) : nS := s_Mo_comeBack_11_2 v1 v2 (up2 σ 0 1 (s_Mo_load (v1 + (4 : Int32)) σ))
def s_Mo_comeBack_11_0 (v1 : Int32) (v2 : Int32) (σ : nS) : nS := s_Mo_comeBack_11_1 v1 v2 (up2 σ 0 0 (s_Mo_load (v1 + (0 : Int32)) σ))
def s_Mo_comeBack (v1 : Int32) (σ : nS) : nS := s_Mo_comeBack_11_0 v1 (s_Mo_load (v1 + (28 : Int32)) σ) σ
def o_Mo_comeBack_123 (k2 : Int32) (k3 : Int32) (σ : nS) : Prop := True
def o_Mo_comeBack_11_4 (v1 : Int32) (v2 : Int32) (σ : nS) : Prop := o_Mo_load (v1 + (16 : Int32)) σ ∧ (o_Mo_load (v1 + (20 : Int32)) (up2 σ 0 12 (s_Mo_load (v1 + (16 : Int32)) σ)) ∧ (o_Mo_load (v1 + (24 : Int32)) (up2 (up2 σ 0 12 (s_Mo_load (v1 + (16 : Int32)) σ)) 0 14 (s_Mo_load (v1 + (20 : Int32)) (up2 σ 0 12 (s_Mo_load (v1 + (16 : Int32)) σ)))) ∧ (ap1 (s_Mo_flags (ush v2 (28 : Int32)) (up2 (up2 (up2 σ 0 12 (s_Mo_load (v1 + (16 : Int32)) σ)) 0 14 (s_Mo_load (v1 + (20 : Int32)) (up2 σ 0 12 (s_Mo_load (v1 + (16 : Int32)) σ)))) 0 15 ((s_Mo_load (v1 + (24 : Int32)) (up2 (up2 σ 0 12 (s_Mo_load (v1 + (16 : Int32)) σ)) 0 14 (s_Mo_load (v1 + (20 : Int32)) (up2 σ 0 12 (s_Mo_load (v1 + (16 : Int32)) σ))))) &&& (-2 : Int32)))) fun σ1 => (if (v2 &&& (512 : Int32)) = (0 : Int32) then (o_Mo_comeBack_123 v1 (32 : Int32) (up2 σ1 8 10 (v2 &&& (15 : Int32)))) else (o_Mo_comeBack_123 v1 (36 : Int32) (up2 σ1 8 10 (v2 &&& (15 : Int32))))))))
def o_Mo_comeBack_11_3 (v1 : Int32) (v2 : Int32) (σ : nS) : Prop := o_Mo_load (v1 + (12 : Int32)) σ ∧ (o_Mo_comeBack_11_4 v1 v2 (up2 σ 0 3 (s_Mo_load (v1 + (12 : Int32)) σ)))
def o_Mo_comeBack_11_2 (v1 : Int32) (v2 : Int32) (σ : nS) : Prop := o_Mo_load (v1 + (8 : Int32)) σ ∧ (o_Mo_comeBack_11_3 v1 v2 (up2 σ 0 2 (s_Mo_load (v1 + (8 : Int32)) σ)))
def o_Mo_comeBack_11_1 (v1 : Int32) (v2 : Int32) (σ : nS) : Prop := o_Mo_load (v1 + (4 : Int32)) σ ∧ (o_Mo_comeBack_11_2 v1 v2 (up2 σ 0 1 (s_Mo_load (v1 + (4 : Int32)) σ)))
def o_Mo_comeBack_11_0 (v1 : Int32) (v2 : Int32) (σ : nS) : Prop := o_Mo_load (v1 + (0 : Int32)) σ ∧ (o_Mo_comeBack_11_1 v1 v2 (up2 σ 0 0 (s_Mo_load (v1 + (0 : Int32)) σ)))
def o_Mo_comeBack (v1 : Int32) (σ : nS) : Prop := o_Mo_load (v1 + (28 : Int32)) σ ∧ (o_Mo_comeBack_11_0 v1 (s_Mo_load (v1 + (28 : Int32)) σ) σ)
def s_Mo_isReturn_23 (σ : nS) : Bool := false
def s_Mo_isReturn_19 (σ : nS) : Bool := true
def s_Mo_isReturn (v1 : Int32) (σ : nS) : Bool := if (σ 8 10) = (0 : Int32) then (s_Mo_isReturn_23 σ) else (if v1 = (-7 : Int32) then (s_Mo_isReturn_19 σ) else (if v1 = (-15 : Int32) then (s_Mo_isReturn_19 σ) else (s_Mo_isReturn_23 σ)))
def s_Mo_fault_48 (v2 : Int32) (σ : nS) : nS := if v2 ≤ (-1 : Int32) then ((up2 σ 8 11 (1 : Int32))) else ((up2 σ 2 3 (bI true)))
def s_Mo_fault (v1 : Int32) (σ : nS) : nS := if ((up2 σ 8 14 ((σ 8 14) + (1 : Int32))) 1 (v1).toNatClampNeg) = (0 : Int32) then (s_Mo_fault_48 (s_Mo_level (up2 σ 8 14 ((σ 8 14) + (1 : Int32)))) (up2 σ 8 14 ((σ 8 14) + (1 : Int32)))) else (if (s_Mo_level (up2 σ 8 14 ((σ 8 14) + (1 : Int32)))) ≤ (s_Mo_group ((up2 σ 8 14 ((σ 8 14) + (1 : Int32))) 4 (v1).toNatClampNeg) (up2 σ 8 14 ((σ 8 14) + (1 : Int32)))) then (s_Mo_fault_48 (s_Mo_level (up2 σ 8 14 ((σ 8 14) + (1 : Int32)))) (up2 σ 8 14 ((σ 8 14) + (1 : Int32)))) else ((up2 (up2 σ 8 14 ((σ 8 14) + (1 : Int32))) 2 (v1).toNatClampNeg (bI true))))
def s_Mo_test_23 (k1 : Bool) (σ : nS) : nS := (up2 σ 8 5 (bI k1))
def s_Mo_test_10 (v1 : Int32) (k1 : Bool) (σ : nS) : nS := if v1 = (0 : Int32) then (s_Mo_test_23 true (up2 σ 8 4 (bI k1))) else (s_Mo_test_23 false (up2 σ 8 4 (bI k1)))
def s_Mo_test (v1 : Int32) (σ : nS) : nS := if (0 : Int32) ≤ v1 then (s_Mo_test_10 v1 false σ) else (s_Mo_test_10 v1 true σ)
def s_Mo_sum_73 (v8 : Int32) (k1 : Bool) (σ : nS) : Int32 × nS := (v8, (up2 σ 8 7 (bI k1)))
def s_Mo_sum_55 (v6 : Int64) (v8 : Int32) (k1 : Bool) (σ : nS) : Int32 × nS := if (lg_cmp v6 (v8).toInt64) = (0 : Int32) then (s_Mo_sum_73 v8 false (up2 σ 8 6 (bI k1))) else (s_Mo_sum_73 v8 true (up2 σ 8 6 (bI k1)))
def s_Mo_sum (v1 : Int32) (v2 : Int32) (v3 : Int32) (σ : nS) : Int32 × nS := ap1 (s_Mo_test (((((v1).toInt64 &&& (4294967295 : Int64)) + ((v2).toInt64 &&& (4294967295 : Int64))) + (v3).toInt64)).toInt32 σ) fun σ1 => if (lg_cmp (((((v1).toInt64 &&& (4294967295 : Int64)) + ((v2).toInt64 &&& (4294967295 : Int64))) + (v3).toInt64) >>> (((32 : Int32)).toInt64 &&& 63)) (0 : Int64)) = (0 : Int32) then (s_Mo_sum_55 (((v1).toInt64 + (v2).toInt64) + (v3).toInt64) (((((v1).toInt64 &&& (4294967295 : Int64)) + ((v2).toInt64 &&& (4294967295 : Int64))) + (v3).toInt64)).toInt32 false σ1) else (s_Mo_sum_55 (((v1).toInt64 + (v2).toInt64) + (v3).toInt64) (((((v1).toInt64 &&& (4294967295 : Int64)) + ((v2).toInt64 &&& (4294967295 : Int64))) + (v3).toInt64)).toInt32 true σ1)
def s_Mo_shift_98 (v1 : Int32) (k0 : Int32) (σ : nS) : Int32 × nS := ap1 (s_Mo_test k0 σ) fun σ1 => ((0 : Int32), (up2 σ1 0 ((v1 &&& (7 : Int32))).toNatClampNeg k0))
def s_Mo_shift_64 (v1 : Int32) (v2 : Int32) (v3 : Int32) (v4 : Int32) (σ : nS) : Int32 × nS := if v2 = (0 : Int32) then (s_Mo_shift_98 v1 v3 σ) else (if v4 = (0 : Int32) then (s_Mo_shift_98 v1 (v3 <<< (v2 &&& 31)) σ) else (if v4 = (1 : Int32) then (s_Mo_shift_98 v1 (ush v3 v2) σ) else (s_Mo_shift_98 v1 (v3 >>> (v2 &&& 31)) σ)))
def s_Mo_shift_61 (v1 : Int32) (v2 : Int32) (v3 : Int32) (v4 : Int32) (k1 : Bool) (σ : nS) : Int32 × nS := s_Mo_shift_64 v1 v2 v3 v4 (up2 σ 8 6 (bI k1))
def s_Mo_shift_50 (v1 : Int32) (v2 : Int32) (v3 : Int32) (v4 : Int32) (k1 : Int32) (σ : nS) : Int32 × nS := if (k1 &&& (1 : Int32)) = (1 : Int32) then (s_Mo_shift_61 v1 v2 v3 v4 true σ) else (s_Mo_shift_61 v1 v2 v3 v4 false σ)
def s_Mo_shift (v1 : Int32) (σ : nS) : Int32 × nS := if ((v1 >>> ((6 : Int32) &&& 31)) &&& (31 : Int32)) ≤ (0 : Int32) then (s_Mo_shift_64 v1 ((v1 >>> ((6 : Int32) &&& 31)) &&& (31 : Int32)) (σ 0 (((v1 >>> ((3 : Int32) &&& 31)) &&& (7 : Int32))).toNatClampNeg) (v1 >>> ((11 : Int32) &&& 31)) σ) else (if (v1 >>> ((11 : Int32) &&& 31)) = (0 : Int32) then (s_Mo_shift_50 v1 ((v1 >>> ((6 : Int32) &&& 31)) &&& (31 : Int32)) (σ 0 (((v1 >>> ((3 : Int32) &&& 31)) &&& (7 : Int32))).toNatClampNeg) (v1 >>> ((11 : Int32) &&& 31)) (ush (σ 0 (((v1 >>> ((3 : Int32) &&& 31)) &&& (7 : Int32))).toNatClampNeg) ((32 : Int32) - ((v1 >>> ((6 : Int32) &&& 31)) &&& (31 : Int32)))) σ) else (s_Mo_shift_50 v1 ((v1 >>> ((6 : Int32) &&& 31)) &&& (31 : Int32)) (σ 0 (((v1 >>> ((3 : Int32) &&& 31)) &&& (7 : Int32))).toNatClampNeg) (v1 >>> ((11 : Int32) &&& 31)) ((σ 0 (((v1 >>> ((3 : Int32) &&& 31)) &&& (7 : Int32))).toNatClampNeg) >>> ((((v1 >>> ((6 : Int32) &&& 31)) &&& (31 : Int32)) - (1 : Int32)) &&& 31)) σ))
def s_Mo_immediate_92 (σ : nS) : Int32 × nS := ((0 : Int32), σ)
def s_Mo_immediate_76 (v2 : Int32) (v4 : Int32) (k0 : Int32) (σ : nS) : Int32 × nS := if v4 = (1 : Int32) then (s_Mo_immediate_92 σ) else (s_Mo_immediate_92 (up2 σ 0 (v2).toNatClampNeg k0))
def s_Mo_immediate_32 (v2 : Int32) (v3 : Int32) (v4 : Int32) (σ : nS) : Int32 × nS := if v4 = (0 : Int32) then (s_Mo_immediate_76 v2 v4 v3 σ) else (if v4 = (2 : Int32) then (ap2 (s_Mo_sum (σ 0 (v2).toNatClampNeg) v3 (0 : Int32) σ) fun r1 σ1 => s_Mo_immediate_76 v2 v4 r1 σ1) else (ap2 (s_Mo_sum (σ 0 (v2).toNatClampNeg) (v3 ^^^ (-1 : Int32)) (1 : Int32) σ) fun r1 σ1 => s_Mo_immediate_76 v2 v4 r1 σ1))
def s_Mo_immediate (v1 : Int32) (σ : nS) : Int32 × nS := if ((v1 >>> ((11 : Int32) &&& 31)) &&& (3 : Int32)) = (0 : Int32) then (ap1 (s_Mo_test (v1 &&& (255 : Int32)) σ) fun σ1 => s_Mo_immediate_32 ((v1 >>> ((8 : Int32) &&& 31)) &&& (7 : Int32)) (v1 &&& (255 : Int32)) ((v1 >>> ((11 : Int32) &&& 31)) &&& (3 : Int32)) σ1) else (s_Mo_immediate_32 ((v1 >>> ((8 : Int32) &&& 31)) &&& (7 : Int32)) (v1 &&& (255 : Int32)) ((v1 >>> ((11 : Int32) &&& 31)) &&& (3 : Int32)) σ)
def s_Mo_logic_269 (σ : nS) : Int32 × nS := ((0 : Int32), σ)
def s_Mo_logic_252 (v3 : Int32) (k1 : Int32) (k2 : Int32) (σ : nS) : Int32 × nS := ap1 (s_Mo_test ((up2 σ 0 (k1).toNatClampNeg k2) 0 (v3).toNatClampNeg) (up2 σ 0 (k1).toNatClampNeg k2)) fun σ1 => s_Mo_logic_269 σ1
def s_Mo_logic_174 (v2 : Int32) (v3 : Int32) (v4 : Int32) (v5 : Int32) (σ : nS) : Int32 × nS := if v2 = (0 : Int32) then (s_Mo_logic_252 v3 v3 (v4 &&& v5) σ) else (if v2 = (1 : Int32) then (s_Mo_logic_252 v3 v3 (v4 ^^^ v5) σ) else (if v2 = (12 : Int32) then (s_Mo_logic_252 v3 v3 (v4 ||| v5) σ) else (if v2 = (13 : Int32) then (s_Mo_logic_252 v3 v3 (v4 * v5) σ) else (if v2 = (14 : Int32) then (s_Mo_logic_252 v3 v3 (v4 &&& (v5 ^^^ (-1 : Int32))) σ) else (s_Mo_logic_252 v3 v3 (v5 ^^^ (-1 : Int32)) σ)))))
def s_Mo_logic_46 (v2 : Int32) (v3 : Int32) (v4 : Int32) (v5 : Int32) (k0 : Bool) (σ : nS) : Int32 × nS := if v2 = (5 : Int32) then (ap2 (s_Mo_sum v4 v5 (bI k0) σ) fun r1 σ1 => s_Mo_logic_269 (up2 σ1 0 (v3).toNatClampNeg r1)) else (if v2 = (6 : Int32) then (ap2 (s_Mo_sum v4 (v5 ^^^ (-1 : Int32)) (bI k0) σ) fun r1 σ1 => s_Mo_logic_269 (up2 σ1 0 (v3).toNatClampNeg r1)) else (if v2 = (9 : Int32) then (ap2 (s_Mo_sum (0 : Int32) (v5 ^^^ (-1 : Int32)) (1 : Int32) σ) fun r1 σ1 => s_Mo_logic_269 (up2 σ1 0 (v3).toNatClampNeg r1)) else (if v2 = (10 : Int32) then (ap2 (s_Mo_sum v4 (v5 ^^^ (-1 : Int32)) (1 : Int32) σ) fun r1 σ1 => s_Mo_logic_269 σ1) else (if v2 = (8 : Int32) then (ap1 (s_Mo_test (v4 &&& v5) σ) fun σ1 => s_Mo_logic_269 σ1) else (if v2 < (2 : Int32) then (s_Mo_logic_174 v2 v3 v4 v5 σ) else (if v2 ≤ (11 : Int32) then (((6 : Int32), σ)) else (s_Mo_logic_174 v2 v3 v4 v5 σ)))))))
def s_Mo_logic (v1 : Int32) (σ : nS) : Int32 × nS := if (σ 8 6) = (0 : Int32) then (s_Mo_logic_46 ((v1 >>> ((6 : Int32) &&& 31)) &&& (15 : Int32)) (v1 &&& (7 : Int32)) (σ 0 ((v1 &&& (7 : Int32))).toNatClampNeg) (σ 0 (((v1 >>> ((3 : Int32) &&& 31)) &&& (7 : Int32))).toNatClampNeg) false σ) else (s_Mo_logic_46 ((v1 >>> ((6 : Int32) &&& 31)) &&& (15 : Int32)) (v1 &&& (7 : Int32)) (σ 0 ((v1 &&& (7 : Int32))).toNatClampNeg) (σ 0 (((v1 >>> ((3 : Int32) &&& 31)) &&& (7 : Int32))).toNatClampNeg) true σ)
def s_Mo_moveHigh_57 (k1 : Int32) (k2 : Int32) (σ : nS) : Int32 × nS := ((0 : Int32), (up2 σ 0 (k1).toNatClampNeg k2))
def s_Mo_moveHigh (v1 : Int32) (σ : nS) : Int32 × nS := if (((v1 >>> ((4 : Int32) &&& 31)) &&& (8 : Int32)) ||| (v1 &&& (7 : Int32))) = (15 : Int32) then (((6 : Int32), σ)) else (if ((v1 >>> ((3 : Int32) &&& 31)) &&& (15 : Int32)) = (15 : Int32) then (s_Mo_moveHigh_57 (((v1 >>> ((4 : Int32) &&& 31)) &&& (8 : Int32)) ||| (v1 &&& (7 : Int32))) ((σ 0 15) + (4 : Int32)) σ) else (s_Mo_moveHigh_57 (((v1 >>> ((4 : Int32) &&& 31)) &&& (8 : Int32)) ||| (v1 &&& (7 : Int32))) (σ 0 (((v1 >>> ((3 : Int32) &&& 31)) &&& (15 : Int32))).toNatClampNeg) σ))
def s_Mo_jump_116 (σ : nS) : Int32 × nS := ((0 : Int32), σ)
def s_Mo_jump_73 (v1 : Int32) (v2 : Int32) (v3 : Int32) (σ : nS) : Int32 × nS := if v3 ≤ (0 : Int32) then (ap1 (s_Mo_comeBack v2 (up2 σ 0 13 v2)) fun σ1 => s_Mo_jump_116 σ1) else (ap1 (s_Mo_enter v3 (up2 (up2 (up2 σ 0 13 v2) 8 13 (((up2 σ 0 13 v2) 8 13) + (1 : Int32))) 0 14 v1)) fun σ1 => s_Mo_jump_116 σ1)
def s_Mo_jump_52 (v1 : Int32) (v2 : Int32) (σ : nS) : Int32 × nS := if (s_Mo_due σ) = (0 : Int32) then (if (s_Mo_isBack v2 v1 σ) = true then (s_Mo_jump_73 v1 v2 (s_Mo_due σ) σ) else (((6 : Int32), σ))) else (s_Mo_jump_73 v1 v2 (s_Mo_due σ) σ)
def s_Mo_jump (v1 : Int32) (v2 : Int32) (σ : nS) : Int32 × nS := if (s_Mo_isReturn v1 σ) = true then (if ((up2 σ 3 ((σ 8 10)).toNatClampNeg (bI false)) 8 10) = (2 : Int32) then (s_Mo_jump_52 v1 v2 (up2 σ 3 ((σ 8 10)).toNatClampNeg (bI false))) else (s_Mo_jump_52 v1 v2 (up2 (up2 σ 3 ((σ 8 10)).toNatClampNeg (bI false)) 8 3 (bI false)))) else (((0 : Int32), (up2 (up2 σ 0 13 v2) 0 15 (v1 &&& (-2 : Int32)))))
def o_Mo_jump_116 (σ : nS) : Prop := True
def o_Mo_jump_73 (v1 : Int32) (v2 : Int32) (v3 : Int32) (σ : nS) : Prop := if v3 ≤ (0 : Int32) then (o_Mo_comeBack v2 (up2 σ 0 13 v2) ∧ (ap1 (s_Mo_comeBack v2 (up2 σ 0 13 v2)) fun σ1 => (o_Mo_jump_116 σ1))) else (o_Mo_enter v3 (up2 (up2 (up2 σ 0 13 v2) 8 13 (((up2 σ 0 13 v2) 8 13) + (1 : Int32))) 0 14 v1) ∧ (ap1 (s_Mo_enter v3 (up2 (up2 (up2 σ 0 13 v2) 8 13 (((up2 σ 0 13 v2) 8 13) + (1 : Int32))) 0 14 v1)) fun σ1 => (o_Mo_jump_116 σ1)))
def o_Mo_jump_52 (v1 : Int32) (v2 : Int32) (σ : nS) : Prop := if (s_Mo_due σ) = (0 : Int32) then (o_Mo_isBack v2 v1 σ ∧ (if (s_Mo_isBack v2 v1 σ) = true then (o_Mo_jump_73 v1 v2 (s_Mo_due σ) σ) else (True))) else (o_Mo_jump_73 v1 v2 (s_Mo_due σ) σ)
def o_Mo_jump (v1 : Int32) (v2 : Int32) (σ : nS) : Prop := if (s_Mo_isReturn v1 σ) = true then (vp_in (σ 8 10) 16 ∧ (if ((up2 σ 3 ((σ 8 10)).toNatClampNeg (bI false)) 8 10) = (2 : Int32) then (o_Mo_jump_52 v1 v2 (up2 σ 3 ((σ 8 10)).toNatClampNeg (bI false))) else (o_Mo_jump_52 v1 v2 (up2 (up2 σ 3 ((σ 8 10)).toNatClampNeg (bI false)) 8 3 (bI false))))) else (True)
def s_Mo_exchange (v1 : Int32) (σ : nS) : Int32 × nS := if ((v1 >>> ((3 : Int32) &&& 31)) &&& (15 : Int32)) = (15 : Int32) then (((6 : Int32), σ)) else (ap2 (s_Mo_jump (σ 0 (((v1 >>> ((3 : Int32) &&& 31)) &&& (15 : Int32))).toNatClampNeg) (σ 0 13) σ) fun r1 σ1 => (r1, σ1))
def o_Mo_exchange (v1 : Int32) (σ : nS) : Prop := if ((v1 >>> ((3 : Int32) &&& 31)) &&& (15 : Int32)) = (15 : Int32) then (True) else (o_Mo_jump (σ 0 (((v1 >>> ((3 : Int32) &&& 31)) &&& (15 : Int32))).toNatClampNeg) (σ 0 13) σ ∧ (ap2 (s_Mo_jump (σ 0 (((v1 >>> ((3 : Int32) &&& 31)) &&& (15 : Int32))).toNatClampNeg) (σ 0 13) σ) fun r1 σ1 => (True)))
def s_Mo_move_54 (σ : nS) : Int32 × nS := ((0 : Int32), σ)
def s_Mo_move_12 (v1 : Int32) (v2 : Int32) (v3 : Bool) (k1 : Int32) (k3 : Int32) (σ : nS) : Int32 × nS := if (s_Mo_faultOf k1 (1 : Int32) k3 σ) ≤ (0 : Int32) then (if v3 = true then (s_Mo_move_54 (up2 σ 0 (v1).toNatClampNeg (s_Mo_load v2 σ))) else (ap1 (s_Mo_store v2 (σ 0 (v1).toNatClampNeg) σ) fun σ1 => s_Mo_move_54 σ1)) else (((s_Mo_faultOf k1 (1 : Int32) k3 σ), σ))
def s_Mo_move (v1 : Int32) (v2 : Int32) (v3 : Bool) (σ : nS) : Int32 × nS := if v3 = true then (s_Mo_move_12 v1 v2 v3 v2 (1 : Int32) σ) else (s_Mo_move_12 v1 v2 v3 v2 (2 : Int32) σ)
def o_Mo_move_54 (σ : nS) : Prop := True
def o_Mo_move_12 (v1 : Int32) (v2 : Int32) (v3 : Bool) (k1 : Int32) (k3 : Int32) (σ : nS) : Prop := o_Mo_faultOf k1 (1 : Int32) k3 σ ∧ (if (s_Mo_faultOf k1 (1 : Int32) k3 σ) ≤ (0 : Int32) then (if v3 = true then (o_Mo_load v2 σ ∧ (o_Mo_move_54 (up2 σ 0 (v1).toNatClampNeg (s_Mo_load v2 σ)))) else (o_Mo_store v2 (σ 0 (v1).toNatClampNeg) σ ∧ (ap1 (s_Mo_store v2 (σ 0 (v1).toNatClampNeg) σ) fun σ1 => (o_Mo_move_54 σ1)))) else (True))
def o_Mo_move (v1 : Int32) (v2 : Int32) (v3 : Bool) (σ : nS) : Prop := if v3 = true then (o_Mo_move_12 v1 v2 v3 v2 (1 : Int32) σ) else (o_Mo_move_12 v1 v2 v3 v2 (2 : Int32) σ)
def s_Mo_ones_4_9 (v0 : Int32) (v1 : Int32) : Int32 := v1
def s_Mo_ones_4_8 (v0 : Int32) (v1 : Int32) : Int32 := s_Mo_ones_4_9 v0 (v1 + ((v0 >>> ((8 : Int32) &&& 31)) &&& (1 : Int32)))
def s_Mo_ones_4_7 (v0 : Int32) (v1 : Int32) : Int32 := s_Mo_ones_4_8 v0 (v1 + ((v0 >>> ((7 : Int32) &&& 31)) &&& (1 : Int32)))
def s_Mo_ones_4_6 (v0 : Int32) (v1 : Int32) : Int32 := s_Mo_ones_4_7 v0 (v1 + ((v0 >>> ((6 : Int32) &&& 31)) &&& (1 : Int32)))
def s_Mo_ones_4_5 (v0 : Int32) (v1 : Int32) : Int32 := s_Mo_ones_4_6 v0 (v1 + ((v0 >>> ((5 : Int32) &&& 31)) &&& (1 : Int32)))
def s_Mo_ones_4_4 (v0 : Int32) (v1 : Int32) : Int32 := s_Mo_ones_4_5 v0 (v1 + ((v0 >>> ((4 : Int32) &&& 31)) &&& (1 : Int32)))
def s_Mo_ones_4_3 (v0 : Int32) (v1 : Int32) : Int32 := s_Mo_ones_4_4 v0 (v1 + ((v0 >>> ((3 : Int32) &&& 31)) &&& (1 : Int32)))
def s_Mo_ones_4_2 (v0 : Int32) (v1 : Int32) : Int32 := s_Mo_ones_4_3 v0 (v1 + ((v0 >>> ((2 : Int32) &&& 31)) &&& (1 : Int32)))
def s_Mo_ones_4_1 (v0 : Int32) (v1 : Int32) : Int32 := s_Mo_ones_4_2 v0 (v1 + ((v0 >>> ((1 : Int32) &&& 31)) &&& (1 : Int32)))
def s_Mo_ones_4_0 (v0 : Int32) : Int32 := s_Mo_ones_4_1 v0 ((0 : Int32) + ((v0 >>> ((0 : Int32) &&& 31)) &&& (1 : Int32)))
def s_Mo_ones (v0 : Int32) : Int32 := s_Mo_ones_4_0 v0
def s_Mo_push_54_9 (v1 : Int32) (v3 : Int32) (σ : nS) : Int32 × nS := ((0 : Int32), σ)
def s_Mo_push_98_8 (v1 : Int32) (v3 : Int32) (σ : nS) : Int32 × nS := s_Mo_push_54_9 v1 v3 σ
def s_Mo_push_91_8 (v1 : Int32) (v3 : Int32) (k1 : Int32) (σ : nS) : Int32 × nS := ap1 (s_Mo_store k1 (σ 0 14) σ) fun σ1 => s_Mo_push_98_8 v1 (v3 + (4 : Int32)) σ1
def s_Mo_push_54_8 (v1 : Int32) (v3 : Int32) (σ : nS) : Int32 × nS := if ((v1 >>> ((8 : Int32) &&& 31)) &&& (1 : Int32)) = (1 : Int32) then (s_Mo_push_91_8 v1 v3 v3 σ) else (s_Mo_push_98_8 v1 v3 σ)
def s_Mo_push_98_7 (v1 : Int32) (v3 : Int32) (σ : nS) : Int32 × nS := s_Mo_push_54_8 v1 v3 σ
def s_Mo_push_91_7 (v1 : Int32) (v3 : Int32) (k1 : Int32) (σ : nS) : Int32 × nS := ap1 (s_Mo_store k1 (σ 0 7) σ) fun σ1 => s_Mo_push_98_7 v1 (v3 + (4 : Int32)) σ1
def s_Mo_push_54_7 (v1 : Int32) (v3 : Int32) (σ : nS) : Int32 × nS := if ((v1 >>> ((7 : Int32) &&& 31)) &&& (1 : Int32)) = (1 : Int32) then (s_Mo_push_91_7 v1 v3 v3 σ) else (s_Mo_push_98_7 v1 v3 σ)
def s_Mo_push_98_6 (v1 : Int32) (v3 : Int32) (σ : nS) : Int32 × nS := s_Mo_push_54_7 v1 v3 σ
def s_Mo_push_91_6 (v1 : Int32) (v3 : Int32) (k1 : Int32) (σ : nS) : Int32 × nS := ap1 (s_Mo_store k1 (σ 0 6) σ) fun σ1 => s_Mo_push_98_6 v1 (v3 + (4 : Int32)) σ1
def s_Mo_push_54_6 (v1 : Int32) (v3 : Int32) (σ : nS) : Int32 × nS := if ((v1 >>> ((6 : Int32) &&& 31)) &&& (1 : Int32)) = (1 : Int32) then (s_Mo_push_91_6 v1 v3 v3 σ) else (s_Mo_push_98_6 v1 v3 σ)
def s_Mo_push_98_5 (v1 : Int32) (v3 : Int32) (σ : nS) : Int32 × nS := s_Mo_push_54_6 v1 v3 σ
def s_Mo_push_91_5 (v1 : Int32) (v3 : Int32) (k1 : Int32) (σ : nS) : Int32 × nS := ap1 (s_Mo_store k1 (σ 0 5) σ) fun σ1 => s_Mo_push_98_5 v1 (v3 + (4 : Int32)) σ1
def s_Mo_push_54_5 (v1 : Int32) (v3 : Int32) (σ : nS) : Int32 × nS := if ((v1 >>> ((5 : Int32) &&& 31)) &&& (1 : Int32)) = (1 : Int32) then (s_Mo_push_91_5 v1 v3 v3 σ) else (s_Mo_push_98_5 v1 v3 σ)
def s_Mo_push_98_4 (v1 : Int32) (v3 : Int32) (σ : nS) : Int32 × nS := s_Mo_push_54_5 v1 v3 σ
def s_Mo_push_91_4 (v1 : Int32) (v3 : Int32) (k1 : Int32) (σ : nS) : Int32 × nS := ap1 (s_Mo_store k1 (σ 0 4) σ) fun σ1 => s_Mo_push_98_4 v1 (v3 + (4 : Int32)) σ1
def s_Mo_push_54_4 (v1 : Int32) (v3 : Int32) (σ : nS) : Int32 × nS := if ((v1 >>> ((4 : Int32) &&& 31)) &&& (1 : Int32)) = (1 : Int32) then (s_Mo_push_91_4 v1 v3 v3 σ) else (s_Mo_push_98_4 v1 v3 σ)
def s_Mo_push_98_3 (v1 : Int32) (v3 : Int32) (σ : nS) : Int32 × nS := s_Mo_push_54_4 v1 v3 σ
def s_Mo_push_91_3 (v1 : Int32) (v3 : Int32) (k1 : Int32) (σ : nS) : Int32 × nS := ap1 (s_Mo_store k1 (σ 0 3) σ) fun σ1 => s_Mo_push_98_3 v1 (v3 + (4 : Int32)) σ1
def s_Mo_push_54_3 (v1 : Int32) (v3 : Int32) (σ : nS) : Int32 × nS := if ((v1 >>> ((3 : Int32) &&& 31)) &&& (1 : Int32)) = (1 : Int32) then (s_Mo_push_91_3 v1 v3 v3 σ) else (s_Mo_push_98_3 v1 v3 σ)
def s_Mo_push_98_2 (v1 : Int32) (v3 : Int32) (σ : nS) : Int32 × nS := s_Mo_push_54_3 v1 v3 σ
def s_Mo_push_91_2 (v1 : Int32) (v3 : Int32) (k1 : Int32) (σ : nS) : Int32 × nS := ap1 (s_Mo_store k1 (σ 0 2) σ) fun σ1 => s_Mo_push_98_2 v1 (v3 + (4 : Int32)) σ1
def s_Mo_push_54_2 (v1 : Int32) (v3 : Int32) (σ : nS) : Int32 × nS := if ((v1 >>> ((2 : Int32) &&& 31)) &&& (1 : Int32)) = (1 : Int32) then (s_Mo_push_91_2 v1 v3 v3 σ) else (s_Mo_push_98_2 v1 v3 σ)
def s_Mo_push_98_1 (v1 : Int32) (v3 : Int32) (σ : nS) : Int32 × nS := s_Mo_push_54_2 v1 v3 σ
def s_Mo_push_91_1 (v1 : Int32) (v3 : Int32) (k1 : Int32) (σ : nS) : Int32 × nS := ap1 (s_Mo_store k1 (σ 0 1) σ) fun σ1 => s_Mo_push_98_1 v1 (v3 + (4 : Int32)) σ1
def s_Mo_push_54_1 (v1 : Int32) (v3 : Int32) (σ : nS) : Int32 × nS := if ((v1 >>> ((1 : Int32) &&& 31)) &&& (1 : Int32)) = (1 : Int32) then (s_Mo_push_91_1 v1 v3 v3 σ) else (s_Mo_push_98_1 v1 v3 σ)
def s_Mo_push_98_0 (v1 : Int32) (v3 : Int32) (σ : nS) : Int32 × nS := s_Mo_push_54_1 v1 v3 σ
def s_Mo_push_91_0 (v1 : Int32) (v3 : Int32) (k1 : Int32) (σ : nS) : Int32 × nS := ap1 (s_Mo_store k1 (σ 0 0) σ) fun σ1 => s_Mo_push_98_0 v1 (v3 + (4 : Int32)) σ1
def s_Mo_push_54_0 (v1 : Int32) (v3 : Int32) (σ : nS) : Int32 × nS := if ((v1 >>> ((0 : Int32) &&& 31)) &&& (1 : Int32)) = (1 : Int32) then (s_Mo_push_91_0 v1 v3 v3 σ) else (s_Mo_push_98_0 v1 v3 σ)
def s_Mo_push_33 (v1 : Int32) (v3 : Int32) (k0 : Int32) (σ : nS) : Int32 × nS := if k0 ≤ (0 : Int32) then (s_Mo_push_54_0 v1 v3 (up2 σ 0 13 v3)) else ((k0, σ))
def s_Mo_push (v1 : Int32) (σ : nS) : Int32 × nS := if (s_Mo_ones v1) = (0 : Int32) then (s_Mo_push_33 v1 ((σ 0 13) - ((4 : Int32) * (s_Mo_ones v1))) (6 : Int32) σ) else (s_Mo_push_33 v1 ((σ 0 13) - ((4 : Int32) * (s_Mo_ones v1))) (s_Mo_faultOf ((σ 0 13) - ((4 : Int32) * (s_Mo_ones v1))) (s_Mo_ones v1) (2 : Int32) σ) σ)
def o_Mo_push_54_9 (v1 : Int32) (v3 : Int32) (σ : nS) : Prop := True
def o_Mo_push_98_8 (v1 : Int32) (v3 : Int32) (σ : nS) : Prop := o_Mo_push_54_9 v1 v3 σ
def o_Mo_push_91_8 (v1 : Int32) (v3 : Int32) (k1 : Int32) (σ : nS) : Prop := o_Mo_store k1 (σ 0 14) σ ∧ (ap1 (s_Mo_store k1 (σ 0 14) σ) fun σ1 => (o_Mo_push_98_8 v1 (v3 + (4 : Int32)) σ1))
def o_Mo_push_54_8 (v1 : Int32) (v3 : Int32) (σ : nS) : Prop := if ((v1 >>> ((8 : Int32) &&& 31)) &&& (1 : Int32)) = (1 : Int32) then (o_Mo_push_91_8 v1 v3 v3 σ) else (o_Mo_push_98_8 v1 v3 σ)
def o_Mo_push_98_7 (v1 : Int32) (v3 : Int32) (σ : nS) : Prop := o_Mo_push_54_8 v1 v3 σ
def o_Mo_push_91_7 (v1 : Int32) (v3 : Int32) (k1 : Int32) (σ : nS) : Prop := o_Mo_store k1 (σ 0 7) σ ∧ (ap1 (s_Mo_store k1 (σ 0 7) σ) fun σ1 => (o_Mo_push_98_7 v1 (v3 + (4 : Int32)) σ1))
def o_Mo_push_54_7 (v1 : Int32) (v3 : Int32) (σ : nS) : Prop := if ((v1 >>> ((7 : Int32) &&& 31)) &&& (1 : Int32)) = (1 : Int32) then (o_Mo_push_91_7 v1 v3 v3 σ) else (o_Mo_push_98_7 v1 v3 σ)
def o_Mo_push_98_6 (v1 : Int32) (v3 : Int32) (σ : nS) : Prop := o_Mo_push_54_7 v1 v3 σ
def o_Mo_push_91_6 (v1 : Int32) (v3 : Int32) (k1 : Int32) (σ : nS) : Prop := o_Mo_store k1 (σ 0 6) σ ∧ (ap1 (s_Mo_store k1 (σ 0 6) σ) fun σ1 => (o_Mo_push_98_6 v1 (v3 + (4 : Int32)) σ1))
def o_Mo_push_54_6 (v1 : Int32) (v3 : Int32) (σ : nS) : Prop := if ((v1 >>> ((6 : Int32) &&& 31)) &&& (1 : Int32)) = (1 : Int32) then (o_Mo_push_91_6 v1 v3 v3 σ) else (o_Mo_push_98_6 v1 v3 σ)
def o_Mo_push_98_5 (v1 : Int32) (v3 : Int32) (σ : nS) : Prop := o_Mo_push_54_6 v1 v3 σ
def o_Mo_push_91_5 (v1 : Int32) (v3 : Int32) (k1 : Int32) (σ : nS) : Prop := o_Mo_store k1 (σ 0 5) σ ∧ (ap1 (s_Mo_store k1 (σ 0 5) σ) fun σ1 => (o_Mo_push_98_5 v1 (v3 + (4 : Int32)) σ1))
def o_Mo_push_54_5 (v1 : Int32) (v3 : Int32) (σ : nS) : Prop := if ((v1 >>> ((5 : Int32) &&& 31)) &&& (1 : Int32)) = (1 : Int32) then (o_Mo_push_91_5 v1 v3 v3 σ) else (o_Mo_push_98_5 v1 v3 σ)
def o_Mo_push_98_4 (v1 : Int32) (v3 : Int32) (σ : nS) : Prop := o_Mo_push_54_5 v1 v3 σ
def o_Mo_push_91_4 (v1 : Int32) (v3 : Int32) (k1 : Int32) (σ : nS) : Prop := o_Mo_store k1 (σ 0 4) σ ∧ (ap1 (s_Mo_store k1 (σ 0 4) σ) fun σ1 => (o_Mo_push_98_4 v1 (v3 + (4 : Int32)) σ1))
def o_Mo_push_54_4 (v1 : Int32) (v3 : Int32) (σ : nS) : Prop := if ((v1 >>> ((4 : Int32) &&& 31)) &&& (1 : Int32)) = (1 : Int32) then (o_Mo_push_91_4 v1 v3 v3 σ) else (o_Mo_push_98_4 v1 v3 σ)
def o_Mo_push_98_3 (v1 : Int32) (v3 : Int32) (σ : nS) : Prop := o_Mo_push_54_4 v1 v3 σ
def o_Mo_push_91_3 (v1 : Int32) (v3 : Int32) (k1 : Int32) (σ : nS) : Prop := o_Mo_store k1 (σ 0 3) σ ∧ (ap1 (s_Mo_store k1 (σ 0 3) σ) fun σ1 => (o_Mo_push_98_3 v1 (v3 + (4 : Int32)) σ1))
def o_Mo_push_54_3 (v1 : Int32) (v3 : Int32) (σ : nS) : Prop := if ((v1 >>> ((3 : Int32) &&& 31)) &&& (1 : Int32)) = (1 : Int32) then (o_Mo_push_91_3 v1 v3 v3 σ) else (o_Mo_push_98_3 v1 v3 σ)
def o_Mo_push_98_2 (v1 : Int32) (v3 : Int32) (σ : nS) : Prop := o_Mo_push_54_3 v1 v3 σ
def o_Mo_push_91_2 (v1 : Int32) (v3 : Int32) (k1 : Int32) (σ : nS) : Prop := o_Mo_store k1 (σ 0 2) σ ∧ (ap1 (s_Mo_store k1 (σ 0 2) σ) fun σ1 => (o_Mo_push_98_2 v1 (v3 + (4 : Int32)) σ1))
def o_Mo_push_54_2 (v1 : Int32) (v3 : Int32) (σ : nS) : Prop := if ((v1 >>> ((2 : Int32) &&& 31)) &&& (1 : Int32)) = (1 : Int32) then (o_Mo_push_91_2 v1 v3 v3 σ) else (o_Mo_push_98_2 v1 v3 σ)
def o_Mo_push_98_1 (v1 : Int32) (v3 : Int32) (σ : nS) : Prop := o_Mo_push_54_2 v1 v3 σ
def o_Mo_push_91_1 (v1 : Int32) (v3 : Int32) (k1 : Int32) (σ : nS) : Prop := o_Mo_store k1 (σ 0 1) σ ∧ (ap1 (s_Mo_store k1 (σ 0 1) σ) fun σ1 => (o_Mo_push_98_1 v1 (v3 + (4 : Int32)) σ1))
def o_Mo_push_54_1 (v1 : Int32) (v3 : Int32) (σ : nS) : Prop := if ((v1 >>> ((1 : Int32) &&& 31)) &&& (1 : Int32)) = (1 : Int32) then (o_Mo_push_91_1 v1 v3 v3 σ) else (o_Mo_push_98_1 v1 v3 σ)
def o_Mo_push_98_0 (v1 : Int32) (v3 : Int32) (σ : nS) : Prop := o_Mo_push_54_1 v1 v3 σ
def o_Mo_push_91_0 (v1 : Int32) (v3 : Int32) (k1 : Int32) (σ : nS) : Prop := o_Mo_store k1 (σ 0 0) σ ∧ (ap1 (s_Mo_store k1 (σ 0 0) σ) fun σ1 => (o_Mo_push_98_0 v1 (v3 + (4 : Int32)) σ1))
def o_Mo_push_54_0 (v1 : Int32) (v3 : Int32) (σ : nS) : Prop := if ((v1 >>> ((0 : Int32) &&& 31)) &&& (1 : Int32)) = (1 : Int32) then (o_Mo_push_91_0 v1 v3 v3 σ) else (o_Mo_push_98_0 v1 v3 σ)
def o_Mo_push_33 (v1 : Int32) (v3 : Int32) (k0 : Int32) (σ : nS) : Prop := if k0 ≤ (0 : Int32) then (o_Mo_push_54_0 v1 v3 (up2 σ 0 13 v3)) else (True)
def o_Mo_push (v1 : Int32) (σ : nS) : Prop := if (s_Mo_ones v1) = (0 : Int32) then (o_Mo_push_33 v1 ((σ 0 13) - ((4 : Int32) * (s_Mo_ones v1))) (6 : Int32) σ) else (o_Mo_faultOf ((σ 0 13) - ((4 : Int32) * (s_Mo_ones v1))) (s_Mo_ones v1) (2 : Int32) σ ∧ (o_Mo_push_33 v1 ((σ 0 13) - ((4 : Int32) * (s_Mo_ones v1))) (s_Mo_faultOf ((σ 0 13) - ((4 : Int32) * (s_Mo_ones v1))) (s_Mo_ones v1) (2 : Int32) σ) σ))
def s_Mo_pop_215 (σ : nS) : Int32 × nS := ((0 : Int32), σ)
def s_Mo_pop_122_8 (v1 : Int32) (v3 : Int32) (v5 : Int32) (v6 : Int32) (v7 : Bool) (v8 : Int32) (σ : nS) : Int32 × nS := if v7 = true then (((0 : Int32), σ)) else (if v1 ≤ (255 : Int32) then (s_Mo_pop_215 (up2 σ 0 13 v5)) else (s_Mo_pop_215 (up2 (up2 σ 0 13 v5) 0 15 (v6 &&& (-2 : Int32)))))
def s_Mo_pop_174_7 (v1 : Int32) (v3 : Int32) (v5 : Int32) (v6 : Int32) (v7 : Bool) (v8 : Int32) (σ : nS) : Int32 × nS := s_Mo_pop_122_8 v1 v3 v5 v6 v7 v8 σ
def s_Mo_pop_171_7 (v1 : Int32) (v3 : Int32) (v5 : Int32) (v6 : Int32) (v7 : Bool) (v8 : Int32) (σ : nS) : Int32 × nS := s_Mo_pop_174_7 v1 (v3 + (4 : Int32)) v5 v6 v7 v8 σ
def s_Mo_pop_159_7 (v1 : Int32) (v3 : Int32) (v5 : Int32) (v6 : Int32) (v7 : Bool) (v8 : Int32) (σ : nS) : Int32 × nS := s_Mo_pop_171_7 v1 v3 v5 v6 v7 v8 (up2 σ 0 7 (s_Mo_load v3 σ))
def s_Mo_pop_122_7 (v1 : Int32) (v3 : Int32) (v5 : Int32) (v6 : Int32) (v7 : Bool) (v8 : Int32) (σ : nS) : Int32 × nS := if ((v1 >>> ((7 : Int32) &&& 31)) &&& (1 : Int32)) = (1 : Int32) then (if v7 = true then (s_Mo_pop_159_7 v1 v3 v5 v6 v7 v8 σ) else (s_Mo_pop_159_7 v1 v3 v5 v6 v7 v8 σ)) else (s_Mo_pop_174_7 v1 v3 v5 v6 v7 v8 σ)
def s_Mo_pop_174_6 (v1 : Int32) (v3 : Int32) (v5 : Int32) (v6 : Int32) (v7 : Bool) (v8 : Int32) (σ : nS) : Int32 × nS := s_Mo_pop_122_7 v1 v3 v5 v6 v7 v8 σ
def s_Mo_pop_171_6 (v1 : Int32) (v3 : Int32) (v5 : Int32) (v6 : Int32) (v7 : Bool) (v8 : Int32) (σ : nS) : Int32 × nS := s_Mo_pop_174_6 v1 (v3 + (4 : Int32)) v5 v6 v7 v8 σ
def s_Mo_pop_159_6 (v1 : Int32) (v3 : Int32) (v5 : Int32) (v6 : Int32) (v7 : Bool) (v8 : Int32) (σ : nS) : Int32 × nS := s_Mo_pop_171_6 v1 v3 v5 v6 v7 v8 (up2 σ 0 6 (s_Mo_load v3 σ))
def s_Mo_pop_122_6 (v1 : Int32) (v3 : Int32) (v5 : Int32) (v6 : Int32) (v7 : Bool) (v8 : Int32) (σ : nS) : Int32 × nS := if ((v1 >>> ((6 : Int32) &&& 31)) &&& (1 : Int32)) = (1 : Int32) then (if v7 = true then (s_Mo_pop_159_6 v1 v3 v5 v6 v7 v8 σ) else (s_Mo_pop_159_6 v1 v3 v5 v6 v7 v8 σ)) else (s_Mo_pop_174_6 v1 v3 v5 v6 v7 v8 σ)
def s_Mo_pop_174_5 (v1 : Int32) (v3 : Int32) (v5 : Int32) (v6 : Int32) (v7 : Bool) (v8 : Int32) (σ : nS) : Int32 × nS := s_Mo_pop_122_6 v1 v3 v5 v6 v7 v8 σ
def s_Mo_pop_171_5 (v1 : Int32) (v3 : Int32) (v5 : Int32) (v6 : Int32) (v7 : Bool) (v8 : Int32) (σ : nS) : Int32 × nS := s_Mo_pop_174_5 v1 (v3 + (4 : Int32)) v5 v6 v7 v8 σ
def s_Mo_pop_159_5 (v1 : Int32) (v3 : Int32) (v5 : Int32) (v6 : Int32) (v7 : Bool) (v8 : Int32) (σ : nS) : Int32 × nS := s_Mo_pop_171_5 v1 v3 v5 v6 v7 v8 (up2 σ 0 5 (s_Mo_load v3 σ))
def s_Mo_pop_122_5 (v1 : Int32) (v3 : Int32) (v5 : Int32) (v6 : Int32) (v7 : Bool) (v8 : Int32) (σ : nS) : Int32 × nS := if ((v1 >>> ((5 : Int32) &&& 31)) &&& (1 : Int32)) = (1 : Int32) then (if v7 = true then (s_Mo_pop_159_5 v1 v3 v5 v6 v7 v8 σ) else (s_Mo_pop_159_5 v1 v3 v5 v6 v7 v8 σ)) else (s_Mo_pop_174_5 v1 v3 v5 v6 v7 v8 σ)
def s_Mo_pop_174_4 (v1 : Int32) (v3 : Int32) (v5 : Int32) (v6 : Int32) (v7 : Bool) (v8 : Int32) (σ : nS) : Int32 × nS := s_Mo_pop_122_5 v1 v3 v5 v6 v7 v8 σ
def s_Mo_pop_171_4 (v1 : Int32) (v3 : Int32) (v5 : Int32) (v6 : Int32) (v7 : Bool) (v8 : Int32) (σ : nS) : Int32 × nS := s_Mo_pop_174_4 v1 (v3 + (4 : Int32)) v5 v6 v7 v8 σ
def s_Mo_pop_159_4 (v1 : Int32) (v3 : Int32) (v5 : Int32) (v6 : Int32) (v7 : Bool) (v8 : Int32) (σ : nS) : Int32 × nS := s_Mo_pop_171_4 v1 v3 v5 v6 v7 v8 (up2 σ 0 4 (s_Mo_load v3 σ))
def s_Mo_pop_122_4 (v1 : Int32) (v3 : Int32) (v5 : Int32) (v6 : Int32) (v7 : Bool) (v8 : Int32) (σ : nS) : Int32 × nS := if ((v1 >>> ((4 : Int32) &&& 31)) &&& (1 : Int32)) = (1 : Int32) then (if v7 = true then (s_Mo_pop_159_4 v1 v3 v5 v6 v7 v8 σ) else (s_Mo_pop_159_4 v1 v3 v5 v6 v7 v8 σ)) else (s_Mo_pop_174_4 v1 v3 v5 v6 v7 v8 σ)
def s_Mo_pop_174_3 (v1 : Int32) (v3 : Int32) (v5 : Int32) (v6 : Int32) (v7 : Bool) (v8 : Int32) (σ : nS) : Int32 × nS := s_Mo_pop_122_4 v1 v3 v5 v6 v7 v8 σ
def s_Mo_pop_171_3 (v1 : Int32) (v3 : Int32) (v5 : Int32) (v6 : Int32) (v7 : Bool) (v8 : Int32) (σ : nS) : Int32 × nS := s_Mo_pop_174_3 v1 (v3 + (4 : Int32)) v5 v6 v7 v8 σ
def s_Mo_pop_159_3 (v1 : Int32) (v3 : Int32) (v5 : Int32) (v6 : Int32) (v7 : Bool) (v8 : Int32) (σ : nS) : Int32 × nS := s_Mo_pop_171_3 v1 v3 v5 v6 v7 v8 (up2 σ 0 3 (s_Mo_load v3 σ))
def s_Mo_pop_122_3 (v1 : Int32) (v3 : Int32) (v5 : Int32) (v6 : Int32) (v7 : Bool) (v8 : Int32) (σ : nS) : Int32 × nS := if ((v1 >>> ((3 : Int32) &&& 31)) &&& (1 : Int32)) = (1 : Int32) then (if v7 = true then (if (σ 8 13) ≤ v8 then (s_Mo_pop_171_3 v1 v3 v5 v6 v7 v8 σ) else (s_Mo_pop_159_3 v1 v3 v5 v6 v7 v8 σ)) else (s_Mo_pop_159_3 v1 v3 v5 v6 v7 v8 σ)) else (s_Mo_pop_174_3 v1 v3 v5 v6 v7 v8 σ)
def s_Mo_pop_174_2 (v1 : Int32) (v3 : Int32) (v5 : Int32) (v6 : Int32) (v7 : Bool) (v8 : Int32) (σ : nS) : Int32 × nS := s_Mo_pop_122_3 v1 v3 v5 v6 v7 v8 σ
def s_Mo_pop_171_2 (v1 : Int32) (v3 : Int32) (v5 : Int32) (v6 : Int32) (v7 : Bool) (v8 : Int32) (σ : nS) : Int32 × nS := s_Mo_pop_174_2 v1 (v3 + (4 : Int32)) v5 v6 v7 v8 σ
def s_Mo_pop_159_2 (v1 : Int32) (v3 : Int32) (v5 : Int32) (v6 : Int32) (v7 : Bool) (v8 : Int32) (σ : nS) : Int32 × nS := s_Mo_pop_171_2 v1 v3 v5 v6 v7 v8 (up2 σ 0 2 (s_Mo_load v3 σ))
def s_Mo_pop_122_2 (v1 : Int32) (v3 : Int32) (v5 : Int32) (v6 : Int32) (v7 : Bool) (v8 : Int32) (σ : nS) : Int32 × nS := if ((v1 >>> ((2 : Int32) &&& 31)) &&& (1 : Int32)) = (1 : Int32) then (if v7 = true then (if (σ 8 13) ≤ v8 then (s_Mo_pop_171_2 v1 v3 v5 v6 v7 v8 σ) else (s_Mo_pop_159_2 v1 v3 v5 v6 v7 v8 σ)) else (s_Mo_pop_159_2 v1 v3 v5 v6 v7 v8 σ)) else (s_Mo_pop_174_2 v1 v3 v5 v6 v7 v8 σ)
def s_Mo_pop_174_1 (v1 : Int32) (v3 : Int32) (v5 : Int32) (v6 : Int32) (v7 : Bool) (v8 : Int32) (σ : nS) : Int32 × nS := s_Mo_pop_122_2 v1 v3 v5 v6 v7 v8 σ
def s_Mo_pop_171_1 (v1 : Int32) (v3 : Int32) (v5 : Int32) (v6 : Int32) (v7 : Bool) (v8 : Int32) (σ : nS) : Int32 × nS := s_Mo_pop_174_1 v1 (v3 + (4 : Int32)) v5 v6 v7 v8 σ
def s_Mo_pop_159_1 (v1 : Int32) (v3 : Int32) (v5 : Int32) (v6 : Int32) (v7 : Bool) (v8 : Int32) (σ : nS) : Int32 × nS := s_Mo_pop_171_1 v1 v3 v5 v6 v7 v8 (up2 σ 0 1 (s_Mo_load v3 σ))
def s_Mo_pop_122_1 (v1 : Int32) (v3 : Int32) (v5 : Int32) (v6 : Int32) (v7 : Bool) (v8 : Int32) (σ : nS) : Int32 × nS := if ((v1 >>> ((1 : Int32) &&& 31)) &&& (1 : Int32)) = (1 : Int32) then (if v7 = true then (if (σ 8 13) ≤ v8 then (s_Mo_pop_171_1 v1 v3 v5 v6 v7 v8 σ) else (s_Mo_pop_159_1 v1 v3 v5 v6 v7 v8 σ)) else (s_Mo_pop_159_1 v1 v3 v5 v6 v7 v8 σ)) else (s_Mo_pop_174_1 v1 v3 v5 v6 v7 v8 σ)
def s_Mo_pop_174_0 (v1 : Int32) (v3 : Int32) (v5 : Int32) (v6 : Int32) (v7 : Bool) (v8 : Int32) (σ : nS) : Int32 × nS := s_Mo_pop_122_1 v1 v3 v5 v6 v7 v8 σ
def s_Mo_pop_171_0 (v1 : Int32) (v3 : Int32) (v5 : Int32) (v6 : Int32) (v7 : Bool) (v8 : Int32) (σ : nS) : Int32 × nS := s_Mo_pop_174_0 v1 (v3 + (4 : Int32)) v5 v6 v7 v8 σ
def s_Mo_pop_159_0 (v1 : Int32) (v3 : Int32) (v5 : Int32) (v6 : Int32) (v7 : Bool) (v8 : Int32) (σ : nS) : Int32 × nS := s_Mo_pop_171_0 v1 v3 v5 v6 v7 v8 (up2 σ 0 0 (s_Mo_load v3 σ))
def s_Mo_pop_122_0 (v1 : Int32) (v3 : Int32) (v5 : Int32) (v6 : Int32) (v7 : Bool) (v8 : Int32) (σ : nS) : Int32 × nS := if ((v1 >>> ((0 : Int32) &&& 31)) &&& (1 : Int32)) = (1 : Int32) then (if v7 = true then (if (σ 8 13) ≤ v8 then (s_Mo_pop_171_0 v1 v3 v5 v6 v7 v8 σ) else (s_Mo_pop_159_0 v1 v3 v5 v6 v7 v8 σ)) else (s_Mo_pop_159_0 v1 v3 v5 v6 v7 v8 σ)) else (s_Mo_pop_174_0 v1 v3 v5 v6 v7 v8 σ)
def s_Mo_pop_119 (v1 : Int32) (v3 : Int32) (v5 : Int32) (v6 : Int32) (v7 : Bool) (v8 : Int32) (σ : nS) : Int32 × nS := s_Mo_pop_122_0 v1 v3 v5 v6 v7 v8 σ
def s_Mo_pop_88 (v1 : Int32) (v3 : Int32) (v5 : Int32) (v6 : Int32) (k0 : Bool) (σ : nS) : Int32 × nS := if k0 = true then (ap2 (s_Mo_jump v6 v5 σ) fun r1 σ1 => if r1 ≤ (0 : Int32) then (s_Mo_pop_119 v1 v3 v5 v6 k0 (σ 8 13) σ1) else ((r1, σ1))) else (s_Mo_pop_119 v1 v3 v5 v6 k0 (σ 8 13) σ)
def s_Mo_pop_87 (v1 : Int32) (v3 : Int32) (v5 : Int32) (v6 : Int32) (σ : nS) : Int32 × nS := s_Mo_pop_88 v1 v3 v5 v6 false σ
def s_Mo_pop_65 (v1 : Int32) (v3 : Int32) (v5 : Int32) (k0 : Int32) (σ : nS) : Int32 × nS := if v1 ≤ (255 : Int32) then (s_Mo_pop_87 v1 v3 v5 k0 σ) else (if (s_Mo_isReturn k0 σ) = true then (s_Mo_pop_88 v1 v3 v5 k0 true σ) else (s_Mo_pop_87 v1 v3 v5 k0 σ))
def s_Mo_pop_29 (v1 : Int32) (v2 : Int32) (v3 : Int32) (k0 : Int32) (σ : nS) : Int32 × nS := if k0 ≤ (0 : Int32) then (if v1 ≤ (255 : Int32) then (s_Mo_pop_65 v1 v3 (v3 + ((4 : Int32) * v2)) (0 : Int32) σ) else (s_Mo_pop_65 v1 v3 (v3 + ((4 : Int32) * v2)) (s_Mo_load ((v3 + ((4 : Int32) * v2)) - (4 : Int32)) σ) σ)) else ((k0, σ))
def s_Mo_pop (v1 : Int32) (σ : nS) : Int32 × nS := if (s_Mo_ones v1) = (0 : Int32) then (s_Mo_pop_29 v1 (s_Mo_ones v1) (σ 0 13) (6 : Int32) σ) else (s_Mo_pop_29 v1 (s_Mo_ones v1) (σ 0 13) (s_Mo_faultOf (σ 0 13) (s_Mo_ones v1) (1 : Int32) σ) σ)
def o_Mo_pop_215 (σ : nS) : Prop := True
def o_Mo_pop_122_8 (v1 : Int32) (v3 : Int32) (v5 : Int32) (v6 : Int32) (v7 : Bool) (v8 : Int32) (σ : nS) : Prop := if v7 = true then (True) else (if v1 ≤ (255 : Int32) then (o_Mo_pop_215 (up2 σ 0 13 v5)) else (o_Mo_pop_215 (up2 (up2 σ 0 13 v5) 0 15 (v6 &&& (-2 : Int32)))))
def o_Mo_pop_174_7 (v1 : Int32) (v3 : Int32) (v5 : Int32) (v6 : Int32) (v7 : Bool) (v8 : Int32) (σ : nS) : Prop := o_Mo_pop_122_8 v1 v3 v5 v6 v7 v8 σ
def o_Mo_pop_171_7 (v1 : Int32) (v3 : Int32) (v5 : Int32) (v6 : Int32) (v7 : Bool) (v8 : Int32) (σ : nS) : Prop := o_Mo_pop_174_7 v1 (v3 + (4 : Int32)) v5 v6 v7 v8 σ
def o_Mo_pop_159_7 (v1 : Int32) (v3 : Int32) (v5 : Int32) (v6 : Int32) (v7 : Bool) (v8 : Int32) (σ : nS) : Prop := o_Mo_load v3 σ ∧ (o_Mo_pop_171_7 v1 v3 v5 v6 v7 v8 (up2 σ 0 7 (s_Mo_load v3 σ)))
def o_Mo_pop_122_7 (v1 : Int32) (v3 : Int32) (v5 : Int32) (v6 : Int32) (v7 : Bool) (v8 : Int32) (σ : nS) : Prop := if ((v1 >>> ((7 : Int32) &&& 31)) &&& (1 : Int32)) = (1 : Int32) then (if v7 = true then (o_Mo_pop_159_7 v1 v3 v5 v6 v7 v8 σ) else (o_Mo_pop_159_7 v1 v3 v5 v6 v7 v8 σ)) else (o_Mo_pop_174_7 v1 v3 v5 v6 v7 v8 σ)
def o_Mo_pop_174_6 (v1 : Int32) (v3 : Int32) (v5 : Int32) (v6 : Int32) (v7 : Bool) (v8 : Int32) (σ : nS) : Prop := o_Mo_pop_122_7 v1 v3 v5 v6 v7 v8 σ
def o_Mo_pop_171_6 (v1 : Int32) (v3 : Int32) (v5 : Int32) (v6 : Int32) (v7 : Bool) (v8 : Int32) (σ : nS) : Prop := o_Mo_pop_174_6 v1 (v3 + (4 : Int32)) v5 v6 v7 v8 σ
def o_Mo_pop_159_6 (v1 : Int32) (v3 : Int32) (v5 : Int32) (v6 : Int32) (v7 : Bool) (v8 : Int32) (σ : nS) : Prop := o_Mo_load v3 σ ∧ (o_Mo_pop_171_6 v1 v3 v5 v6 v7 v8 (up2 σ 0 6 (s_Mo_load v3 σ)))
def o_Mo_pop_122_6 (v1 : Int32) (v3 : Int32) (v5 : Int32) (v6 : Int32) (v7 : Bool) (v8 : Int32) (σ : nS) : Prop := if ((v1 >>> ((6 : Int32) &&& 31)) &&& (1 : Int32)) = (1 : Int32) then (if v7 = true then (o_Mo_pop_159_6 v1 v3 v5 v6 v7 v8 σ) else (o_Mo_pop_159_6 v1 v3 v5 v6 v7 v8 σ)) else (o_Mo_pop_174_6 v1 v3 v5 v6 v7 v8 σ)
def o_Mo_pop_174_5 (v1 : Int32) (v3 : Int32) (v5 : Int32) (v6 : Int32) (v7 : Bool) (v8 : Int32) (σ : nS) : Prop := o_Mo_pop_122_6 v1 v3 v5 v6 v7 v8 σ
def o_Mo_pop_171_5 (v1 : Int32) (v3 : Int32) (v5 : Int32) (v6 : Int32) (v7 : Bool) (v8 : Int32) (σ : nS) : Prop := o_Mo_pop_174_5 v1 (v3 + (4 : Int32)) v5 v6 v7 v8 σ
def o_Mo_pop_159_5 (v1 : Int32) (v3 : Int32) (v5 : Int32) (v6 : Int32) (v7 : Bool) (v8 : Int32) (σ : nS) : Prop := o_Mo_load v3 σ ∧ (o_Mo_pop_171_5 v1 v3 v5 v6 v7 v8 (up2 σ 0 5 (s_Mo_load v3 σ)))
def o_Mo_pop_122_5 (v1 : Int32) (v3 : Int32) (v5 : Int32) (v6 : Int32) (v7 : Bool) (v8 : Int32) (σ : nS) : Prop := if ((v1 >>> ((5 : Int32) &&& 31)) &&& (1 : Int32)) = (1 : Int32) then (if v7 = true then (o_Mo_pop_159_5 v1 v3 v5 v6 v7 v8 σ) else (o_Mo_pop_159_5 v1 v3 v5 v6 v7 v8 σ)) else (o_Mo_pop_174_5 v1 v3 v5 v6 v7 v8 σ)
def o_Mo_pop_174_4 (v1 : Int32) (v3 : Int32) (v5 : Int32) (v6 : Int32) (v7 : Bool) (v8 : Int32) (σ : nS) : Prop := o_Mo_pop_122_5 v1 v3 v5 v6 v7 v8 σ
def o_Mo_pop_171_4 (v1 : Int32) (v3 : Int32) (v5 : Int32) (v6 : Int32) (v7 : Bool) (v8 : Int32) (σ : nS) : Prop := o_Mo_pop_174_4 v1 (v3 + (4 : Int32)) v5 v6 v7 v8 σ
def o_Mo_pop_159_4 (v1 : Int32) (v3 : Int32) (v5 : Int32) (v6 : Int32) (v7 : Bool) (v8 : Int32) (σ : nS) : Prop := o_Mo_load v3 σ ∧ (o_Mo_pop_171_4 v1 v3 v5 v6 v7 v8 (up2 σ 0 4 (s_Mo_load v3 σ)))
def o_Mo_pop_122_4 (v1 : Int32) (v3 : Int32) (v5 : Int32) (v6 : Int32) (v7 : Bool) (v8 : Int32) (σ : nS) : Prop := if ((v1 >>> ((4 : Int32) &&& 31)) &&& (1 : Int32)) = (1 : Int32) then (if v7 = true then (o_Mo_pop_159_4 v1 v3 v5 v6 v7 v8 σ) else (o_Mo_pop_159_4 v1 v3 v5 v6 v7 v8 σ)) else (o_Mo_pop_174_4 v1 v3 v5 v6 v7 v8 σ)
def o_Mo_pop_174_3 (v1 : Int32) (v3 : Int32) (v5 : Int32) (v6 : Int32) (v7 : Bool) (v8 : Int32) (σ : nS) : Prop := o_Mo_pop_122_4 v1 v3 v5 v6 v7 v8 σ
def o_Mo_pop_171_3 (v1 : Int32) (v3 : Int32) (v5 : Int32) (v6 : Int32) (v7 : Bool) (v8 : Int32) (σ : nS) : Prop := o_Mo_pop_174_3 v1 (v3 + (4 : Int32)) v5 v6 v7 v8 σ
def o_Mo_pop_159_3 (v1 : Int32) (v3 : Int32) (v5 : Int32) (v6 : Int32) (v7 : Bool) (v8 : Int32) (σ : nS) : Prop := o_Mo_load v3 σ ∧ (o_Mo_pop_171_3 v1 v3 v5 v6 v7 v8 (up2 σ 0 3 (s_Mo_load v3 σ)))
def o_Mo_pop_122_3 (v1 : Int32) (v3 : Int32) (v5 : Int32) (v6 : Int32) (v7 : Bool) (v8 : Int32) (σ : nS) : Prop := if ((v1 >>> ((3 : Int32) &&& 31)) &&& (1 : Int32)) = (1 : Int32) then (if v7 = true then (if (σ 8 13) ≤ v8 then (o_Mo_pop_171_3 v1 v3 v5 v6 v7 v8 σ) else (o_Mo_pop_159_3 v1 v3 v5 v6 v7 v8 σ)) else (o_Mo_pop_159_3 v1 v3 v5 v6 v7 v8 σ)) else (o_Mo_pop_174_3 v1 v3 v5 v6 v7 v8 σ)
def o_Mo_pop_174_2 (v1 : Int32) (v3 : Int32) (v5 : Int32) (v6 : Int32) (v7 : Bool) (v8 : Int32) (σ : nS) : Prop := o_Mo_pop_122_3 v1 v3 v5 v6 v7 v8 σ
def o_Mo_pop_171_2 (v1 : Int32) (v3 : Int32) (v5 : Int32) (v6 : Int32) (v7 : Bool) (v8 : Int32) (σ : nS) : Prop := o_Mo_pop_174_2 v1 (v3 + (4 : Int32)) v5 v6 v7 v8 σ
def o_Mo_pop_159_2 (v1 : Int32) (v3 : Int32) (v5 : Int32) (v6 : Int32) (v7 : Bool) (v8 : Int32) (σ : nS) : Prop := o_Mo_load v3 σ ∧ (o_Mo_pop_171_2 v1 v3 v5 v6 v7 v8 (up2 σ 0 2 (s_Mo_load v3 σ)))
def o_Mo_pop_122_2 (v1 : Int32) (v3 : Int32) (v5 : Int32) (v6 : Int32) (v7 : Bool) (v8 : Int32) (σ : nS) : Prop := if ((v1 >>> ((2 : Int32) &&& 31)) &&& (1 : Int32)) = (1 : Int32) then (if v7 = true then (if (σ 8 13) ≤ v8 then (o_Mo_pop_171_2 v1 v3 v5 v6 v7 v8 σ) else (o_Mo_pop_159_2 v1 v3 v5 v6 v7 v8 σ)) else (o_Mo_pop_159_2 v1 v3 v5 v6 v7 v8 σ)) else (o_Mo_pop_174_2 v1 v3 v5 v6 v7 v8 σ)
def o_Mo_pop_174_1 (v1 : Int32) (v3 : Int32) (v5 : Int32) (v6 : Int32) (v7 : Bool) (v8 : Int32) (σ : nS) : Prop := o_Mo_pop_122_2 v1 v3 v5 v6 v7 v8 σ
def o_Mo_pop_171_1 (v1 : Int32) (v3 : Int32) (v5 : Int32) (v6 : Int32) (v7 : Bool) (v8 : Int32) (σ : nS) : Prop := o_Mo_pop_174_1 v1 (v3 + (4 : Int32)) v5 v6 v7 v8 σ
def o_Mo_pop_159_1 (v1 : Int32) (v3 : Int32) (v5 : Int32) (v6 : Int32) (v7 : Bool) (v8 : Int32) (σ : nS) : Prop := o_Mo_load v3 σ ∧ (o_Mo_pop_171_1 v1 v3 v5 v6 v7 v8 (up2 σ 0 1 (s_Mo_load v3 σ)))
def o_Mo_pop_122_1 (v1 : Int32) (v3 : Int32) (v5 : Int32) (v6 : Int32) (v7 : Bool) (v8 : Int32) (σ : nS) : Prop := if ((v1 >>> ((1 : Int32) &&& 31)) &&& (1 : Int32)) = (1 : Int32) then (if v7 = true then (if (σ 8 13) ≤ v8 then (o_Mo_pop_171_1 v1 v3 v5 v6 v7 v8 σ) else (o_Mo_pop_159_1 v1 v3 v5 v6 v7 v8 σ)) else (o_Mo_pop_159_1 v1 v3 v5 v6 v7 v8 σ)) else (o_Mo_pop_174_1 v1 v3 v5 v6 v7 v8 σ)
def o_Mo_pop_174_0 (v1 : Int32) (v3 : Int32) (v5 : Int32) (v6 : Int32) (v7 : Bool) (v8 : Int32) (σ : nS) : Prop := o_Mo_pop_122_1 v1 v3 v5 v6 v7 v8 σ
def o_Mo_pop_171_0 (v1 : Int32) (v3 : Int32) (v5 : Int32) (v6 : Int32) (v7 : Bool) (v8 : Int32) (σ : nS) : Prop := o_Mo_pop_174_0 v1 (v3 + (4 : Int32)) v5 v6 v7 v8 σ
def o_Mo_pop_159_0 (v1 : Int32) (v3 : Int32) (v5 : Int32) (v6 : Int32) (v7 : Bool) (v8 : Int32) (σ : nS) : Prop := o_Mo_load v3 σ ∧ (o_Mo_pop_171_0 v1 v3 v5 v6 v7 v8 (up2 σ 0 0 (s_Mo_load v3 σ)))
def o_Mo_pop_122_0 (v1 : Int32) (v3 : Int32) (v5 : Int32) (v6 : Int32) (v7 : Bool) (v8 : Int32) (σ : nS) : Prop := if ((v1 >>> ((0 : Int32) &&& 31)) &&& (1 : Int32)) = (1 : Int32) then (if v7 = true then (if (σ 8 13) ≤ v8 then (o_Mo_pop_171_0 v1 v3 v5 v6 v7 v8 σ) else (o_Mo_pop_159_0 v1 v3 v5 v6 v7 v8 σ)) else (o_Mo_pop_159_0 v1 v3 v5 v6 v7 v8 σ)) else (o_Mo_pop_174_0 v1 v3 v5 v6 v7 v8 σ)
def o_Mo_pop_119 (v1 : Int32) (v3 : Int32) (v5 : Int32) (v6 : Int32) (v7 : Bool) (v8 : Int32) (σ : nS) : Prop := o_Mo_pop_122_0 v1 v3 v5 v6 v7 v8 σ
def o_Mo_pop_88 (v1 : Int32) (v3 : Int32) (v5 : Int32) (v6 : Int32) (k0 : Bool) (σ : nS) : Prop := if k0 = true then (o_Mo_jump v6 v5 σ ∧ (ap2 (s_Mo_jump v6 v5 σ) fun r1 σ1 => (if r1 ≤ (0 : Int32) then (o_Mo_pop_119 v1 v3 v5 v6 k0 (σ 8 13) σ1) else (True)))) else (o_Mo_pop_119 v1 v3 v5 v6 k0 (σ 8 13) σ)
def o_Mo_pop_87 (v1 : Int32) (v3 : Int32) (v5 : Int32) (v6 : Int32) (σ : nS) : Prop := o_Mo_pop_88 v1 v3 v5 v6 false σ
def o_Mo_pop_65 (v1 : Int32) (v3 : Int32) (v5 : Int32) (k0 : Int32) (σ : nS) : Prop := if v1 ≤ (255 : Int32) then (o_Mo_pop_87 v1 v3 v5 k0 σ) else (if (s_Mo_isReturn k0 σ) = true then (o_Mo_pop_88 v1 v3 v5 k0 true σ) else (o_Mo_pop_87 v1 v3 v5 k0 σ))
def o_Mo_pop_29 (v1 : Int32) (v2 : Int32) (v3 : Int32) (k0 : Int32) (σ : nS) : Prop := if k0 ≤ (0 : Int32) then (if v1 ≤ (255 : Int32) then (o_Mo_pop_65 v1 v3 (v3 + ((4 : Int32) * v2)) (0 : Int32) σ) else (o_Mo_load ((v3 + ((4 : Int32) * v2)) - (4 : Int32)) σ ∧ (o_Mo_pop_65 v1 v3 (v3 + ((4 : Int32) * v2)) (s_Mo_load ((v3 + ((4 : Int32) * v2)) - (4 : Int32)) σ) σ))) else (True)
def o_Mo_pop (v1 : Int32) (σ : nS) : Prop := if (s_Mo_ones v1) = (0 : Int32) then (o_Mo_pop_29 v1 (s_Mo_ones v1) (σ 0 13) (6 : Int32) σ) else (o_Mo_faultOf (σ 0 13) (s_Mo_ones v1) (1 : Int32) σ ∧ (o_Mo_pop_29 v1 (s_Mo_ones v1) (σ 0 13) (s_Mo_faultOf (σ 0 13) (s_Mo_ones v1) (1 : Int32) σ) σ))
def s_Mo_holds_53 (k0 : Int32) (k1 : Bool) (σ : nS) : Bool := if k0 = (bI k1) then (true) else (false)
def s_Mo_holds_76 (k0 : Int32) (k1 : Bool) (σ : nS) : Bool := if k0 = (bI k1) then (true) else (false)
def s_Mo_holds_99 (k0 : Int32) (k1 : Bool) (σ : nS) : Bool := if k0 = (bI k1) then (true) else (false)
def s_Mo_holds_123 (k0 : Int32) (k1 : Bool) (σ : nS) : Bool := if k0 = (bI k1) then (true) else (false)
def s_Mo_holds_162 (k0 : Bool) (k1 : Bool) (σ : nS) : Bool := if (bI k0) = (bI k1) then (true) else (false)
def s_Mo_holds_151 (v1 : Int32) (k0 : Bool) (σ : nS) : Bool := if v1 = (8 : Int32) then (s_Mo_holds_162 k0 true σ) else (s_Mo_holds_162 k0 false σ)
def s_Mo_holds_150 (v1 : Int32) (σ : nS) : Bool := s_Mo_holds_151 v1 false σ
def s_Mo_holds_198 (k0 : Bool) (k1 : Bool) (σ : nS) : Bool := if (bI k0) = (bI k1) then (true) else (false)
def s_Mo_holds_187 (v1 : Int32) (k0 : Bool) (σ : nS) : Bool := if v1 = (10 : Int32) then (s_Mo_holds_198 k0 true σ) else (s_Mo_holds_198 k0 false σ)
def s_Mo_holds_241 (k0 : Bool) (k1 : Bool) (σ : nS) : Bool := if (bI k0) = (bI k1) then (true) else (false)
def s_Mo_holds_230 (v1 : Int32) (k0 : Bool) (σ : nS) : Bool := if v1 = (12 : Int32) then (s_Mo_holds_241 k0 true σ) else (s_Mo_holds_241 k0 false σ)
def s_Mo_holds_229 (v1 : Int32) (σ : nS) : Bool := s_Mo_holds_230 v1 false σ
def s_Mo_holds (v1 : Int32) (σ : nS) : Bool := if (v1 >>> ((1 : Int32) &&& 31)) = (0 : Int32) then (if v1 = (0 : Int32) then (s_Mo_holds_53 (σ 8 5) true σ) else (s_Mo_holds_53 (σ 8 5) false σ)) else if (v1 >>> ((1 : Int32) &&& 31)) = (1 : Int32) then (if v1 = (2 : Int32) then (s_Mo_holds_76 (σ 8 6) true σ) else (s_Mo_holds_76 (σ 8 6) false σ)) else if (v1 >>> ((1 : Int32) &&& 31)) = (2 : Int32) then (if v1 = (4 : Int32) then (s_Mo_holds_99 (σ 8 4) true σ) else (s_Mo_holds_99 (σ 8 4) false σ)) else if (v1 >>> ((1 : Int32) &&& 31)) = (3 : Int32) then (if v1 = (6 : Int32) then (s_Mo_holds_123 (σ 8 7) true σ) else (s_Mo_holds_123 (σ 8 7) false σ)) else if (v1 >>> ((1 : Int32) &&& 31)) = (4 : Int32) then (if (σ 8 6) = (0 : Int32) then (s_Mo_holds_150 v1 σ) else (if (σ 8 5) = (0 : Int32) then (s_Mo_holds_151 v1 true σ) else (s_Mo_holds_150 v1 σ))) else if (v1 >>> ((1 : Int32) &&& 31)) = (5 : Int32) then (if (σ 8 4) = (σ 8 7) then (s_Mo_holds_187 v1 true σ) else (s_Mo_holds_187 v1 false σ)) else (if (σ 8 5) = (0 : Int32) then (if (σ 8 4) = (σ 8 7) then (s_Mo_holds_230 v1 true σ) else (s_Mo_holds_229 v1 σ)) else (s_Mo_holds_229 v1 σ))
def s_Mo_conditional_112 (k2 : Int32) (k3 : Int32) (σ : nS) : Int32 × nS := ((0 : Int32), (up2 σ 0 15 (k2 + k3)))
def s_Mo_conditional_86 (v2 : Int32) (k0 : Int32) (σ : nS) : Int32 × nS := if (s_Mo_holds v2 σ) = true then (s_Mo_conditional_112 (σ 0 15) ((4 : Int32) + ((2 : Int32) * k0)) σ) else (s_Mo_conditional_112 (σ 0 15) (2 : Int32) σ)
def s_Mo_conditional (v1 : Int32) (σ : nS) : Int32 × nS := if ((v1 >>> ((8 : Int32) &&& 31)) &&& (15 : Int32)) = (14 : Int32) then (((6 : Int32), σ)) else (if ((v1 >>> ((8 : Int32) &&& 31)) &&& (15 : Int32)) = (15 : Int32) then (if (s_Mo_group (σ 4 7) σ) < (s_Mo_level σ) then (((0 : Int32), (up2 (up2 σ 2 7 (bI true)) 0 15 (((up2 σ 2 7 (bI true)) 0 15) + (2 : Int32))))) else (((6 : Int32), σ))) else (if (v1 &&& (255 : Int32)) ≤ (127 : Int32) then (s_Mo_conditional_86 ((v1 >>> ((8 : Int32) &&& 31)) &&& (15 : Int32)) (v1 &&& (255 : Int32)) σ) else (s_Mo_conditional_86 ((v1 >>> ((8 : Int32) &&& 31)) &&& (15 : Int32)) ((v1 &&& (255 : Int32)) - (256 : Int32)) σ)))
def s_Mo_special_152 (σ : nS) : Int32 × nS := ((0 : Int32), σ)
def s_Mo_special_24 (k1 : Bool) (σ : nS) : Int32 × nS := s_Mo_special_152 (up2 σ 8 2 (bI k1))
def s_Mo_special_12 (v1 : Int32) (σ : nS) : Int32 × nS := if v1 = (46706 : Int32) then (s_Mo_special_24 true σ) else (s_Mo_special_24 false σ)
def s_Mo_special_119 (k2 : Int32) (k3 : Int32) (σ : nS) : Int32 × nS := s_Mo_special_152 (up2 σ 0 13 (k2 + k3))
def s_Mo_special_71 (k1 : Bool) (σ : nS) : Int32 × nS := s_Mo_special_152 (up2 σ 8 3 (bI k1))
def s_Mo_special_66 (σ : nS) : Int32 × nS := s_Mo_special_71 true σ
def s_Mo_special (v1 : Int32) (σ : nS) : Int32 × nS := if v1 = (46690 : Int32) then (s_Mo_special_12 v1 σ) else (if v1 = (46706 : Int32) then (s_Mo_special_12 v1 σ) else (if v1 = (46689 : Int32) then (s_Mo_special_152 (up2 σ 8 3 (bI false))) else (if v1 = (46705 : Int32) then (if (σ 8 3) = (0 : Int32) then (if (s_Mo_level σ) ≤ (-1 : Int32) then (s_Mo_special_71 false σ) else (s_Mo_special_66 σ)) else (s_Mo_special_66 σ)) else (if (v1 >>> ((8 : Int32) &&& 31)) = (176 : Int32) then (if (v1 &&& (128 : Int32)) = (0 : Int32) then (s_Mo_special_119 (σ 0 13) ((4 : Int32) * (v1 &&& (127 : Int32))) σ) else (s_Mo_special_119 (σ 0 13) ((-4 : Int32) * (v1 &&& (127 : Int32))) σ)) else (if (v1 >>> ((9 : Int32) &&& 31)) = (90 : Int32) then (ap2 (s_Mo_push (v1 &&& (511 : Int32)) σ) fun r1 σ1 => (r1, σ1)) else (if v1 = (48896 : Int32) then (s_Mo_special_152 σ) else (((6 : Int32), σ))))))))
def o_Mo_special_152 (σ : nS) : Prop := True
def o_Mo_special_24 (k1 : Bool) (σ : nS) : Prop := o_Mo_special_152 (up2 σ 8 2 (bI k1))
def o_Mo_special_12 (v1 : Int32) (σ : nS) : Prop := if v1 = (46706 : Int32) then (o_Mo_special_24 true σ) else (o_Mo_special_24 false σ)
def o_Mo_special_119 (k2 : Int32) (k3 : Int32) (σ : nS) : Prop := o_Mo_special_152 (up2 σ 0 13 (k2 + k3))
def o_Mo_special_71 (k1 : Bool) (σ : nS) : Prop := o_Mo_special_152 (up2 σ 8 3 (bI k1))
def o_Mo_special_66 (σ : nS) : Prop := o_Mo_special_71 true σ
def o_Mo_special (v1 : Int32) (σ : nS) : Prop := if v1 = (46690 : Int32) then (o_Mo_special_12 v1 σ) else (if v1 = (46706 : Int32) then (o_Mo_special_12 v1 σ) else (if v1 = (46689 : Int32) then (o_Mo_special_152 (up2 σ 8 3 (bI false))) else (if v1 = (46705 : Int32) then (if (σ 8 3) = (0 : Int32) then (if (s_Mo_level σ) ≤ (-1 : Int32) then (o_Mo_special_71 false σ) else (o_Mo_special_66 σ)) else (o_Mo_special_66 σ)) else (if (v1 >>> ((8 : Int32) &&& 31)) = (176 : Int32) then (if (v1 &&& (128 : Int32)) = (0 : Int32) then (o_Mo_special_119 (σ 0 13) ((4 : Int32) * (v1 &&& (127 : Int32))) σ) else (o_Mo_special_119 (σ 0 13) ((-4 : Int32) * (v1 &&& (127 : Int32))) σ)) else (if (v1 >>> ((9 : Int32) &&& 31)) = (90 : Int32) then (o_Mo_push (v1 &&& (511 : Int32)) σ ∧ (ap2 (s_Mo_push (v1 &&& (511 : Int32)) σ) fun r1 σ1 => (True))) else (if v1 = (48896 : Int32) then (o_Mo_special_152 σ) else (True)))))))
def s_Mo_plain_188 (k1 : Int32) (k2 : Int32) (k3 : Bool) (σ : nS) : Int32 × nS := ap2 (s_Mo_move k1 k2 k3 σ) fun r1 σ1 => (r1, σ1)
def s_Mo_plain_151 (v1 : Int32) (v2 : Int32) (σ : nS) : Int32 × nS := if v2 = (13 : Int32) then (s_Mo_plain_188 (v1 &&& (7 : Int32)) ((σ 0 (((v1 >>> ((3 : Int32) &&& 31)) &&& (7 : Int32))).toNatClampNeg) + ((4 : Int32) * ((v1 >>> ((6 : Int32) &&& 31)) &&& (31 : Int32)))) true σ) else (s_Mo_plain_188 (v1 &&& (7 : Int32)) ((σ 0 (((v1 >>> ((3 : Int32) &&& 31)) &&& (7 : Int32))).toNatClampNeg) + ((4 : Int32) * ((v1 >>> ((6 : Int32) &&& 31)) &&& (31 : Int32)))) false σ)
def s_Mo_plain_238 (k1 : Int32) (k2 : Int32) (k3 : Bool) (σ : nS) : Int32 × nS := ap2 (s_Mo_move k1 k2 k3 σ) fun r1 σ1 => (r1, σ1)
def s_Mo_plain_204 (v1 : Int32) (v2 : Int32) (σ : nS) : Int32 × nS := if v2 = (19 : Int32) then (s_Mo_plain_238 ((v1 >>> ((8 : Int32) &&& 31)) &&& (7 : Int32)) ((σ 0 13) + ((4 : Int32) * (v1 &&& (255 : Int32)))) true σ) else (s_Mo_plain_238 ((v1 >>> ((8 : Int32) &&& 31)) &&& (7 : Int32)) ((σ 0 13) + ((4 : Int32) * (v1 &&& (255 : Int32)))) false σ)
def s_Mo_plain_109 (v1 : Int32) (v2 : Int32) (σ : nS) : Int32 × nS := if (v1 >>> ((10 : Int32) &&& 31)) = (16 : Int32) then (ap2 (s_Mo_logic v1 σ) fun r1 σ1 => (r1, σ1)) else (if (v1 >>> ((8 : Int32) &&& 31)) = (70 : Int32) then (ap2 (s_Mo_moveHigh v1 σ) fun r1 σ1 => (r1, σ1)) else (if v2 = (12 : Int32) then (s_Mo_plain_151 v1 v2 σ) else (if v2 = (13 : Int32) then (s_Mo_plain_151 v1 v2 σ) else (if v2 = (18 : Int32) then (s_Mo_plain_204 v1 v2 σ) else (if v2 = (19 : Int32) then (s_Mo_plain_204 v1 v2 σ) else (if (v1 >>> ((12 : Int32) &&& 31)) = (11 : Int32) then (ap2 (s_Mo_special v1 σ) fun r1 σ1 => (r1, σ1)) else (((6 : Int32), σ))))))))
def s_Mo_plain_89 (k1 : Int32) (k2 : Int32) (σ : nS) : Int32 × nS := ((0 : Int32), (up2 σ 0 (k1).toNatClampNeg k2))
def s_Mo_plain (v1 : Int32) (σ : nS) : Int32 × nS := if (3 : Int32) ≤ (v1 >>> ((11 : Int32) &&& 31)) then (if (v1 >>> ((10 : Int32) &&& 31)) = (6 : Int32) then (if ((v1 >>> ((9 : Int32) &&& 31)) &&& (1 : Int32)) = (0 : Int32) then (ap2 (s_Mo_sum (σ 0 (((v1 >>> ((3 : Int32) &&& 31)) &&& (7 : Int32))).toNatClampNeg) (σ 0 (((v1 >>> ((6 : Int32) &&& 31)) &&& (7 : Int32))).toNatClampNeg) (0 : Int32) σ) fun r1 σ1 => s_Mo_plain_89 (v1 &&& (7 : Int32)) r1 σ1) else (ap2 (s_Mo_sum (σ 0 (((v1 >>> ((3 : Int32) &&& 31)) &&& (7 : Int32))).toNatClampNeg) ((σ 0 (((v1 >>> ((6 : Int32) &&& 31)) &&& (7 : Int32))).toNatClampNeg) ^^^ (-1 : Int32)) (1 : Int32) σ) fun r1 σ1 => s_Mo_plain_89 (v1 &&& (7 : Int32)) r1 σ1)) else (if (v1 >>> ((11 : Int32) &&& 31)) ≤ (3 : Int32) then (s_Mo_plain_109 v1 (v1 >>> ((11 : Int32) &&& 31)) σ) else (if (8 : Int32) ≤ (v1 >>> ((11 : Int32) &&& 31)) then (s_Mo_plain_109 v1 (v1 >>> ((11 : Int32) &&& 31)) σ) else (ap2 (s_Mo_immediate v1 σ) fun r1 σ1 => (r1, σ1))))) else (ap2 (s_Mo_shift v1 σ) fun r1 σ1 => (r1, σ1))
def o_Mo_plain_188 (k1 : Int32) (k2 : Int32) (k3 : Bool) (σ : nS) : Prop := o_Mo_move k1 k2 k3 σ ∧ (ap2 (s_Mo_move k1 k2 k3 σ) fun r1 σ1 => (True))
def o_Mo_plain_151 (v1 : Int32) (v2 : Int32) (σ : nS) : Prop := if v2 = (13 : Int32) then (o_Mo_plain_188 (v1 &&& (7 : Int32)) ((σ 0 (((v1 >>> ((3 : Int32) &&& 31)) &&& (7 : Int32))).toNatClampNeg) + ((4 : Int32) * ((v1 >>> ((6 : Int32) &&& 31)) &&& (31 : Int32)))) true σ) else (o_Mo_plain_188 (v1 &&& (7 : Int32)) ((σ 0 (((v1 >>> ((3 : Int32) &&& 31)) &&& (7 : Int32))).toNatClampNeg) + ((4 : Int32) * ((v1 >>> ((6 : Int32) &&& 31)) &&& (31 : Int32)))) false σ)
def o_Mo_plain_238 (k1 : Int32) (k2 : Int32) (k3 : Bool) (σ : nS) : Prop := o_Mo_move k1 k2 k3 σ ∧ (ap2 (s_Mo_move k1 k2 k3 σ) fun r1 σ1 => (True))
def o_Mo_plain_204 (v1 : Int32) (v2 : Int32) (σ : nS) : Prop := if v2 = (19 : Int32) then (o_Mo_plain_238 ((v1 >>> ((8 : Int32) &&& 31)) &&& (7 : Int32)) ((σ 0 13) + ((4 : Int32) * (v1 &&& (255 : Int32)))) true σ) else (o_Mo_plain_238 ((v1 >>> ((8 : Int32) &&& 31)) &&& (7 : Int32)) ((σ 0 13) + ((4 : Int32) * (v1 &&& (255 : Int32)))) false σ)
def o_Mo_plain_109 (v1 : Int32) (v2 : Int32) (σ : nS) : Prop := if (v1 >>> ((10 : Int32) &&& 31)) = (16 : Int32) then (ap2 (s_Mo_logic v1 σ) fun r1 σ1 => (True)) else (if (v1 >>> ((8 : Int32) &&& 31)) = (70 : Int32) then (ap2 (s_Mo_moveHigh v1 σ) fun r1 σ1 => (True)) else (if v2 = (12 : Int32) then (o_Mo_plain_151 v1 v2 σ) else (if v2 = (13 : Int32) then (o_Mo_plain_151 v1 v2 σ) else (if v2 = (18 : Int32) then (o_Mo_plain_204 v1 v2 σ) else (if v2 = (19 : Int32) then (o_Mo_plain_204 v1 v2 σ) else (if (v1 >>> ((12 : Int32) &&& 31)) = (11 : Int32) then (o_Mo_special v1 σ ∧ (ap2 (s_Mo_special v1 σ) fun r1 σ1 => (True))) else (True)))))))
def o_Mo_plain_89 (k1 : Int32) (k2 : Int32) (σ : nS) : Prop := True
def o_Mo_plain (v1 : Int32) (σ : nS) : Prop := if (3 : Int32) ≤ (v1 >>> ((11 : Int32) &&& 31)) then (if (v1 >>> ((10 : Int32) &&& 31)) = (6 : Int32) then (if ((v1 >>> ((9 : Int32) &&& 31)) &&& (1 : Int32)) = (0 : Int32) then (ap2 (s_Mo_sum (σ 0 (((v1 >>> ((3 : Int32) &&& 31)) &&& (7 : Int32))).toNatClampNeg) (σ 0 (((v1 >>> ((6 : Int32) &&& 31)) &&& (7 : Int32))).toNatClampNeg) (0 : Int32) σ) fun r1 σ1 => (o_Mo_plain_89 (v1 &&& (7 : Int32)) r1 σ1)) else (ap2 (s_Mo_sum (σ 0 (((v1 >>> ((3 : Int32) &&& 31)) &&& (7 : Int32))).toNatClampNeg) ((σ 0 (((v1 >>> ((6 : Int32) &&& 31)) &&& (7 : Int32))).toNatClampNeg) ^^^ (-1 : Int32)) (1 : Int32) σ) fun r1 σ1 => (o_Mo_plain_89 (v1 &&& (7 : Int32)) r1 σ1))) else (if (v1 >>> ((11 : Int32) &&& 31)) ≤ (3 : Int32) then (o_Mo_plain_109 v1 (v1 >>> ((11 : Int32) &&& 31)) σ) else (if (8 : Int32) ≤ (v1 >>> ((11 : Int32) &&& 31)) then (o_Mo_plain_109 v1 (v1 >>> ((11 : Int32) &&& 31)) σ) else (ap2 (s_Mo_immediate v1 σ) fun r1 σ1 => (True))))) else (ap2 (s_Mo_shift v1 σ) fun r1 σ1 => (True))
def s_Mo_does_143 (v2 : Int32) (σ : nS) : Int32 × nS := (v2, σ)
def s_Mo_does_116 (k2 : Int32) (k5 : Int32) (σ : nS) : Int32 × nS := ((0 : Int32), (up2 σ 0 15 (k2 + ((4 : Int32) + ((2 : Int32) * k5)))))
def s_Mo_does_58 (v2 : Int32) (σ : nS) : Int32 × nS := (v2, σ)
def s_Mo_does (v1 : Int32) (σ : nS) : Int32 × nS := if (v1 &&& (65415 : Int32)) = (18176 : Int32) then (ap2 (s_Mo_exchange v1 σ) fun r1 σ1 => (r1, σ1)) else (if (v1 >>> ((9 : Int32) &&& 31)) = (94 : Int32) then (ap2 (s_Mo_pop (v1 &&& (511 : Int32)) σ) fun r1 σ1 => if r1 = (0 : Int32) then (if (v1 &&& (256 : Int32)) = (0 : Int32) then (s_Mo_does_58 r1 (up2 σ1 0 15 ((σ1 0 15) + (2 : Int32)))) else (s_Mo_does_58 r1 σ1)) else (s_Mo_does_58 r1 σ1)) else (if (v1 >>> ((12 : Int32) &&& 31)) = (13 : Int32) then (ap2 (s_Mo_conditional v1 σ) fun r1 σ1 => (r1, σ1)) else (if (v1 >>> ((11 : Int32) &&& 31)) = (28 : Int32) then (if (v1 &&& (2047 : Int32)) ≤ (1023 : Int32) then (s_Mo_does_116 (σ 0 15) (v1 &&& (2047 : Int32)) σ) else (s_Mo_does_116 (σ 0 15) ((v1 &&& (2047 : Int32)) - (2048 : Int32)) σ)) else (ap2 (s_Mo_plain v1 σ) fun r1 σ1 => if r1 = (0 : Int32) then (s_Mo_does_143 r1 (up2 σ1 0 15 ((σ1 0 15) + (2 : Int32)))) else (s_Mo_does_143 r1 σ1)))))
def o_Mo_does_143 (v2 : Int32) (σ : nS) : Prop := True
def o_Mo_does_116 (k2 : Int32) (k5 : Int32) (σ : nS) : Prop := True
def o_Mo_does_58 (v2 : Int32) (σ : nS) : Prop := True
def o_Mo_does (v1 : Int32) (σ : nS) : Prop := if (v1 &&& (65415 : Int32)) = (18176 : Int32) then (o_Mo_exchange v1 σ ∧ (ap2 (s_Mo_exchange v1 σ) fun r1 σ1 => (True))) else (if (v1 >>> ((9 : Int32) &&& 31)) = (94 : Int32) then (o_Mo_pop (v1 &&& (511 : Int32)) σ ∧ (ap2 (s_Mo_pop (v1 &&& (511 : Int32)) σ) fun r1 σ1 => (if r1 = (0 : Int32) then (if (v1 &&& (256 : Int32)) = (0 : Int32) then (o_Mo_does_58 r1 (up2 σ1 0 15 ((σ1 0 15) + (2 : Int32)))) else (o_Mo_does_58 r1 σ1)) else (o_Mo_does_58 r1 σ1)))) else (if (v1 >>> ((12 : Int32) &&& 31)) = (13 : Int32) then (ap2 (s_Mo_conditional v1 σ) fun r1 σ1 => (True)) else (if (v1 >>> ((11 : Int32) &&& 31)) = (28 : Int32) then (if (v1 &&& (2047 : Int32)) ≤ (1023 : Int32) then (o_Mo_does_116 (σ 0 15) (v1 &&& (2047 : Int32)) σ) else (o_Mo_does_116 (σ 0 15) ((v1 &&& (2047 : Int32)) - (2048 : Int32)) σ)) else (o_Mo_plain v1 σ ∧ (ap2 (s_Mo_plain v1 σ) fun r1 σ1 => (if r1 = (0 : Int32) then (o_Mo_does_143 r1 (up2 σ1 0 15 ((σ1 0 15) + (2 : Int32)))) else (o_Mo_does_143 r1 σ1)))))))
def s_Mo_fetched_19 (σ : nS) : Int32 × nS := ((5 : Int32), σ)
def s_Mo_fetched (σ : nS) : Int32 × nS := if (σ 0 15) < (0 : Int32) then (s_Mo_fetched_19 σ) else (if (σ 0 15) ≤ (1022 : Int32) then (if (s_Mo_barred (σ 0 15) (3 : Int32) σ) = true then (((4 : Int32), σ)) else (ap2 (s_Mo_does ((σ 9 ((σ 0 15)).toNatClampNeg) ||| ((σ 9 (((σ 0 15) + (1 : Int32))).toNatClampNeg) <<< ((8 : Int32) &&& 31))) σ) fun r1 σ1 => (r1, σ1))) else (s_Mo_fetched_19 σ))
def o_Mo_fetched_19 (σ : nS) : Prop := True
def o_Mo_fetched (σ : nS) : Prop := if (σ 0 15) < (0 : Int32) then (o_Mo_fetched_19 σ) else (if (σ 0 15) ≤ (1022 : Int32) then (if (s_Mo_barred (σ 0 15) (3 : Int32) σ) = true then (True) else (vp_in (σ 0 15) 1024 ∧ (vp_in ((σ 0 15) + (1 : Int32)) 1024 ∧ (o_Mo_does ((σ 9 ((σ 0 15)).toNatClampNeg) ||| ((σ 9 (((σ 0 15) + (1 : Int32))).toNatClampNeg) <<< ((8 : Int32) &&& 31))) σ ∧ (ap2 (s_Mo_does ((σ 9 ((σ 0 15)).toNatClampNeg) ||| ((σ 9 (((σ 0 15) + (1 : Int32))).toNatClampNeg) <<< ((8 : Int32) &&& 31))) σ) fun r1 σ1 => (True)))))) else (o_Mo_fetched_19 σ))
def s_Mo_step_40 (σ : nS) : nS := if (s_Mo_due σ) ≤ (0 : Int32) then (ap2 (s_Mo_fetched σ) fun r1 σ1 => if r1 ≤ (0 : Int32) then (σ1) else (ap1 (s_Mo_fault r1 σ1) fun σ2 => σ2)) else (ap1 (s_Mo_take (s_Mo_due σ) σ) fun σ1 => σ1)
def s_Mo_step (σ : nS) : nS := if (σ 8 8) = (0 : Int32) then (s_Mo_step_40 σ) else (if ((up2 σ 8 9 ((σ 8 9) - (1 : Int32))) 8 9) = (0 : Int32) then (s_Mo_step_40 (up2 (up2 (up2 σ 8 9 ((σ 8 9) - (1 : Int32))) 8 9 ((up2 σ 8 9 ((σ 8 9) - (1 : Int32))) 8 8)) 2 9 (bI true))) else (s_Mo_step_40 (up2 σ 8 9 ((σ 8 9) - (1 : Int32)))))
def o_Mo_step_40 (σ : nS) : Prop := if (s_Mo_due σ) ≤ (0 : Int32) then (o_Mo_fetched σ ∧ (ap2 (s_Mo_fetched σ) fun r1 σ1 => (if r1 ≤ (0 : Int32) then (True) else (vp_in r1 16 ∧ (ap1 (s_Mo_fault r1 σ1) fun σ2 => (True)))))) else (o_Mo_take (s_Mo_due σ) σ ∧ (ap1 (s_Mo_take (s_Mo_due σ) σ) fun σ1 => (True)))
def o_Mo_step (σ : nS) : Prop := if (σ 8 8) = (0 : Int32) then (o_Mo_step_40 σ) else (if ((up2 σ 8 9 ((σ 8 9) - (1 : Int32))) 8 9) = (0 : Int32) then (o_Mo_step_40 (up2 (up2 (up2 σ 8 9 ((σ 8 9) - (1 : Int32))) 8 9 ((up2 σ 8 9 ((σ 8 9) - (1 : Int32))) 8 8)) 2 9 (bI true))) else (o_Mo_step_40 (up2 σ 8 9 ((σ 8 9) - (1 : Int32)))))
def s_Mo_set_13 (v1 : Int32) (v2 : Int32) (k1 : Bool) (σ : nS) : nS := ap2 (s_Mo_fails k1 σ) fun r1 σ1 => if r1 = true then (σ1) else (ap1 (s_Mo_store v1 v2 σ1) fun σ2 => σ2)
def s_Mo_set (v1 : Int32) (v2 : Int32) (σ : nS) : nS := if (s_Mo_isWord v1) = true then (s_Mo_set_13 v1 v2 false σ) else (s_Mo_set_13 v1 v2 true σ)
def o_Mo_set_13 (v1 : Int32) (v2 : Int32) (k1 : Bool) (σ : nS) : Prop := ap2 (s_Mo_fails k1 σ) fun r1 σ1 => (if r1 = true then (True) else (o_Mo_store v1 v2 σ1 ∧ (ap1 (s_Mo_store v1 v2 σ1) fun σ2 => (True))))
def o_Mo_set (v1 : Int32) (v2 : Int32) (σ : nS) : Prop := if (s_Mo_isWord v1) = true then (o_Mo_set_13 v1 v2 false σ) else (o_Mo_set_13 v1 v2 true σ)
def s_Mo_word_13 (v1 : Int32) (k1 : Bool) (σ : nS) : Int32 × nS := ap2 (s_Mo_fails k1 σ) fun r1 σ1 => if r1 = true then (((0 : Int32), σ1)) else (((s_Mo_load v1 σ1), σ1))
def s_Mo_word (v1 : Int32) (σ : nS) : Int32 × nS := if (s_Mo_isWord v1) = true then (s_Mo_word_13 v1 false σ) else (s_Mo_word_13 v1 true σ)
def o_Mo_word_13 (v1 : Int32) (k1 : Bool) (σ : nS) : Prop := ap2 (s_Mo_fails k1 σ) fun r1 σ1 => (if r1 = true then (True) else (o_Mo_load v1 σ1 ∧ (True)))
def o_Mo_word (v1 : Int32) (σ : nS) : Prop := if (s_Mo_isWord v1) = true then (o_Mo_word_13 v1 false σ) else (o_Mo_word_13 v1 true σ)
def s_Mo_put_114 (v1 : Int32) (v2 : Int32) (σ : nS) : nS := if v1 = (20 : Int32) then ((up2 (up2 σ 8 8 (v2 &&& (255 : Int32))) 8 9 ((up2 σ 8 8 (v2 &&& (255 : Int32))) 8 8))) else (σ)
def s_Mo_put_101 (v1 : Int32) (v2 : Int32) (σ : nS) : nS := if v1 = (19 : Int32) then (s_Mo_put_114 v1 v2 (up2 σ 8 0 (v2 &&& (3 : Int32)))) else (s_Mo_put_114 v1 v2 σ)
def s_Mo_put_87 (v1 : Int32) (v2 : Int32) (σ : nS) : nS := if v1 = (18 : Int32) then (s_Mo_put_101 v1 v2 (up2 σ 8 1 (v2 &&& (7 : Int32)))) else (s_Mo_put_101 v1 v2 σ)
def s_Mo_put_84 (v1 : Int32) (v2 : Int32) (k1 : Bool) (σ : nS) : nS := s_Mo_put_87 v1 v2 (up2 σ 8 3 (bI k1))
def s_Mo_put_68 (v1 : Int32) (v2 : Int32) (σ : nS) : nS := if v1 = (17 : Int32) then (if v2 = (0 : Int32) then (s_Mo_put_84 v1 v2 false σ) else (s_Mo_put_84 v1 v2 true σ)) else (s_Mo_put_87 v1 v2 σ)
def s_Mo_put_65 (v1 : Int32) (v2 : Int32) (k1 : Bool) (σ : nS) : nS := s_Mo_put_68 v1 v2 (up2 σ 8 2 (bI k1))
def s_Mo_put_49 (v1 : Int32) (v2 : Int32) (σ : nS) : nS := if v1 = (16 : Int32) then (if v2 = (0 : Int32) then (s_Mo_put_65 v1 v2 false σ) else (s_Mo_put_65 v1 v2 true σ)) else (s_Mo_put_68 v1 v2 σ)
def s_Mo_put_48 (v1 : Int32) (v2 : Int32) (k1 : Int32) (k2 : Int32) (σ : nS) : nS := s_Mo_put_49 v1 v2 (up2 σ 0 (k1).toNatClampNeg k2)
def s_Mo_put_16 (v1 : Int32) (v2 : Int32) (k1 : Bool) (σ : nS) : nS := ap2 (s_Mo_fails k1 σ) fun r1 σ1 => if r1 = true then (σ1) else (if (16 : Int32) ≤ v1 then (s_Mo_put_49 v1 v2 σ1) else (if v1 = (15 : Int32) then (s_Mo_put_48 v1 v2 v1 (v2 &&& (-2 : Int32)) σ1) else (s_Mo_put_48 v1 v2 v1 v2 σ1)))
def s_Mo_put_11 (v1 : Int32) (v2 : Int32) (σ : nS) : nS := s_Mo_put_16 v1 v2 true σ
def s_Mo_put (v1 : Int32) (v2 : Int32) (σ : nS) : nS := if v1 < (0 : Int32) then (s_Mo_put_11 v1 v2 σ) else (if v1 ≤ (20 : Int32) then (s_Mo_put_16 v1 v2 false σ) else (s_Mo_put_11 v1 v2 σ))
def o_Mo_put_114 (v1 : Int32) (v2 : Int32) (σ : nS) : Prop := if v1 = (20 : Int32) then (True) else (True)
def o_Mo_put_101 (v1 : Int32) (v2 : Int32) (σ : nS) : Prop := if v1 = (19 : Int32) then (o_Mo_put_114 v1 v2 (up2 σ 8 0 (v2 &&& (3 : Int32)))) else (o_Mo_put_114 v1 v2 σ)
def o_Mo_put_87 (v1 : Int32) (v2 : Int32) (σ : nS) : Prop := if v1 = (18 : Int32) then (o_Mo_put_101 v1 v2 (up2 σ 8 1 (v2 &&& (7 : Int32)))) else (o_Mo_put_101 v1 v2 σ)
def o_Mo_put_84 (v1 : Int32) (v2 : Int32) (k1 : Bool) (σ : nS) : Prop := o_Mo_put_87 v1 v2 (up2 σ 8 3 (bI k1))
def o_Mo_put_68 (v1 : Int32) (v2 : Int32) (σ : nS) : Prop := if v1 = (17 : Int32) then (if v2 = (0 : Int32) then (o_Mo_put_84 v1 v2 false σ) else (o_Mo_put_84 v1 v2 true σ)) else (o_Mo_put_87 v1 v2 σ)
def o_Mo_put_65 (v1 : Int32) (v2 : Int32) (k1 : Bool) (σ : nS) : Prop := o_Mo_put_68 v1 v2 (up2 σ 8 2 (bI k1))
def o_Mo_put_49 (v1 : Int32) (v2 : Int32) (σ : nS) : Prop := if v1 = (16 : Int32) then (if v2 = (0 : Int32) then (o_Mo_put_65 v1 v2 false σ) else (o_Mo_put_65 v1 v2 true σ)) else (o_Mo_put_68 v1 v2 σ)
def o_Mo_put_48 (v1 : Int32) (v2 : Int32) (k1 : Int32) (k2 : Int32) (σ : nS) : Prop := vp_in k1 16 ∧ (o_Mo_put_49 v1 v2 (up2 σ 0 (k1).toNatClampNeg k2))
def o_Mo_put_16 (v1 : Int32) (v2 : Int32) (k1 : Bool) (σ : nS) : Prop := ap2 (s_Mo_fails k1 σ) fun r1 σ1 => (if r1 = true then (True) else (if (16 : Int32) ≤ v1 then (o_Mo_put_49 v1 v2 σ1) else (if v1 = (15 : Int32) then (o_Mo_put_48 v1 v2 v1 (v2 &&& (-2 : Int32)) σ1) else (o_Mo_put_48 v1 v2 v1 v2 σ1))))
def o_Mo_put_11 (v1 : Int32) (v2 : Int32) (σ : nS) : Prop := o_Mo_put_16 v1 v2 true σ
def o_Mo_put (v1 : Int32) (v2 : Int32) (σ : nS) : Prop := if v1 < (0 : Int32) then (o_Mo_put_11 v1 v2 σ) else (if v1 ≤ (20 : Int32) then (o_Mo_put_16 v1 v2 false σ) else (o_Mo_put_11 v1 v2 σ))
def s_Mo_register_70 (σ : nS) : Int32 × nS := ((0 : Int32), σ)
def s_Mo_register_66 (σ : nS) : Int32 × nS := ((1 : Int32), σ)
def s_Mo_register_16 (v1 : Int32) (k1 : Bool) (σ : nS) : Int32 × nS := ap2 (s_Mo_fails k1 σ) fun r1 σ1 => if r1 = true then (((0 : Int32), σ1)) else (if (16 : Int32) ≤ v1 then (if (18 : Int32) ≤ v1 then (if v1 = (18 : Int32) then (((σ1 8 1), σ1)) else (if v1 = (19 : Int32) then (((σ1 8 0), σ1)) else (((σ1 8 8), σ1)))) else (if v1 = (16 : Int32) then (if (σ1 8 2) = (0 : Int32) then (s_Mo_register_70 σ1) else (s_Mo_register_66 σ1)) else (if (σ1 8 3) = (0 : Int32) then (s_Mo_register_70 σ1) else (s_Mo_register_66 σ1)))) else (((σ1 0 (v1).toNatClampNeg), σ1)))
def s_Mo_register_11 (v1 : Int32) (σ : nS) : Int32 × nS := s_Mo_register_16 v1 true σ
def s_Mo_register (v1 : Int32) (σ : nS) : Int32 × nS := if v1 < (0 : Int32) then (s_Mo_register_11 v1 σ) else (if v1 ≤ (20 : Int32) then (s_Mo_register_16 v1 false σ) else (s_Mo_register_11 v1 σ))
def o_Mo_register_70 (σ : nS) : Prop := True
def o_Mo_register_66 (σ : nS) : Prop := True
def o_Mo_register_16 (v1 : Int32) (k1 : Bool) (σ : nS) : Prop := ap2 (s_Mo_fails k1 σ) fun r1 σ1 => (if r1 = true then (True) else (if (16 : Int32) ≤ v1 then (if (18 : Int32) ≤ v1 then (if v1 = (18 : Int32) then (True) else (if v1 = (19 : Int32) then (True) else (True))) else (if v1 = (16 : Int32) then (if (σ1 8 2) = (0 : Int32) then (o_Mo_register_70 σ1) else (o_Mo_register_66 σ1)) else (if (σ1 8 3) = (0 : Int32) then (o_Mo_register_70 σ1) else (o_Mo_register_66 σ1)))) else (vp_in v1 16 ∧ (True))))
def o_Mo_register_11 (v1 : Int32) (σ : nS) : Prop := o_Mo_register_16 v1 true σ
def o_Mo_register (v1 : Int32) (σ : nS) : Prop := if v1 < (0 : Int32) then (o_Mo_register_11 v1 σ) else (if v1 ≤ (20 : Int32) then (o_Mo_register_16 v1 false σ) else (o_Mo_register_11 v1 σ))
def s_Mo_rank_67 (k1 : Int32) (k2 : Bool) (σ : nS) : nS := (up2 σ 1 (k1).toNatClampNeg (bI k2))
def s_Mo_rank_62 (k1 : Int32) (σ : nS) : nS := s_Mo_rank_67 k1 true σ
def s_Mo_rank_66 (k1 : Int32) (σ : nS) : nS := s_Mo_rank_67 k1 false σ
def s_Mo_rank_27 (v1 : Int32) (v2 : Int32) (v3 : Bool) (k1 : Bool) (σ : nS) : nS := ap2 (s_Mo_fails k1 σ) fun r1 σ1 => if r1 = true then (σ1) else (if v3 = true then (s_Mo_rank_62 v1 (up2 σ1 4 (v1).toNatClampNeg v2)) else (if v1 < (7 : Int32) then (s_Mo_rank_66 v1 (up2 σ1 4 (v1).toNatClampNeg v2)) else (if (9 : Int32) < v1 then (s_Mo_rank_66 v1 (up2 σ1 4 (v1).toNatClampNeg v2)) else (s_Mo_rank_62 v1 (up2 σ1 4 (v1).toNatClampNeg v2)))))
def s_Mo_rank_22 (v1 : Int32) (v2 : Int32) (v3 : Bool) (σ : nS) : nS := s_Mo_rank_27 v1 v2 v3 true σ
def s_Mo_rank (v1 : Int32) (v2 : Int32) (v3 : Bool) (σ : nS) : nS := if v1 < (4 : Int32) then (s_Mo_rank_22 v1 v2 v3 σ) else (if (15 : Int32) < v1 then (s_Mo_rank_22 v1 v2 v3 σ) else (if v2 < (0 : Int32) then (s_Mo_rank_22 v1 v2 v3 σ) else (if v2 ≤ (7 : Int32) then (s_Mo_rank_27 v1 v2 v3 false σ) else (s_Mo_rank_22 v1 v2 v3 σ))))
def o_Mo_rank_67 (k1 : Int32) (k2 : Bool) (σ : nS) : Prop := vp_in k1 16 ∧ (True)
def o_Mo_rank_62 (k1 : Int32) (σ : nS) : Prop := o_Mo_rank_67 k1 true σ
def o_Mo_rank_66 (k1 : Int32) (σ : nS) : Prop := o_Mo_rank_67 k1 false σ
def o_Mo_rank_27 (v1 : Int32) (v2 : Int32) (v3 : Bool) (k1 : Bool) (σ : nS) : Prop := ap2 (s_Mo_fails k1 σ) fun r1 σ1 => (if r1 = true then (True) else (vp_in v1 16 ∧ (if v3 = true then (o_Mo_rank_62 v1 (up2 σ1 4 (v1).toNatClampNeg v2)) else (if v1 < (7 : Int32) then (o_Mo_rank_66 v1 (up2 σ1 4 (v1).toNatClampNeg v2)) else (if (9 : Int32) < v1 then (o_Mo_rank_66 v1 (up2 σ1 4 (v1).toNatClampNeg v2)) else (o_Mo_rank_62 v1 (up2 σ1 4 (v1).toNatClampNeg v2)))))))
def o_Mo_rank_22 (v1 : Int32) (v2 : Int32) (v3 : Bool) (σ : nS) : Prop := o_Mo_rank_27 v1 v2 v3 true σ
def o_Mo_rank (v1 : Int32) (v2 : Int32) (v3 : Bool) (σ : nS) : Prop := if v1 < (4 : Int32) then (o_Mo_rank_22 v1 v2 v3 σ) else (if (15 : Int32) < v1 then (o_Mo_rank_22 v1 v2 v3 σ) else (if v2 < (0 : Int32) then (o_Mo_rank_22 v1 v2 v3 σ) else (if v2 ≤ (7 : Int32) then (o_Mo_rank_27 v1 v2 v3 false σ) else (o_Mo_rank_22 v1 v2 v3 σ))))
def s_Mo_pend_17 (v1 : Int32) (v2 : Bool) (k1 : Bool) (σ : nS) : nS := ap2 (s_Mo_fails k1 σ) fun r1 σ1 => if r1 = true then (σ1) else ((up2 σ1 2 (v1).toNatClampNeg (bI v2)))
def s_Mo_pend_12 (v1 : Int32) (v2 : Bool) (σ : nS) : nS := s_Mo_pend_17 v1 v2 true σ
def s_Mo_pend (v1 : Int32) (v2 : Bool) (σ : nS) : nS := if v1 < (2 : Int32) then (s_Mo_pend_12 v1 v2 σ) else (if v1 ≤ (15 : Int32) then (s_Mo_pend_17 v1 v2 false σ) else (s_Mo_pend_12 v1 v2 σ))
def o_Mo_pend_17 (v1 : Int32) (v2 : Bool) (k1 : Bool) (σ : nS) : Prop := ap2 (s_Mo_fails k1 σ) fun r1 σ1 => (if r1 = true then (True) else (vp_in v1 16 ∧ (True)))
def o_Mo_pend_12 (v1 : Int32) (v2 : Bool) (σ : nS) : Prop := o_Mo_pend_17 v1 v2 true σ
def o_Mo_pend (v1 : Int32) (v2 : Bool) (σ : nS) : Prop := if v1 < (2 : Int32) then (o_Mo_pend_12 v1 v2 σ) else (if v1 ≤ (15 : Int32) then (o_Mo_pend_17 v1 v2 false σ) else (o_Mo_pend_12 v1 v2 σ))
def s_Mo_area_62 (v1 : Int32) (v2 : Int32) (v3 : Int32) (v4 : Int32) (v5 : Bool) (k1 : Bool) (σ : nS) : nS := ap2 (s_Mo_fails k1 σ) fun r1 σ1 => if r1 = true then (σ1) else ((up2 (up2 (up2 (up2 σ1 5 (v1).toNatClampNeg v2) 10 (v1).toNatClampNeg (v2 + v3)) 6 (v1).toNatClampNeg v4) 7 (v1).toNatClampNeg (bI v5)))
def s_Mo_area_49 (v1 : Int32) (v2 : Int32) (v3 : Int32) (v4 : Int32) (v5 : Bool) (k0 : Bool) (σ : nS) : nS := if k0 = true then (s_Mo_area_62 v1 v2 v3 v4 v5 false σ) else (s_Mo_area_62 v1 v2 v3 v4 v5 true σ)
def s_Mo_area_48 (v1 : Int32) (v2 : Int32) (v3 : Int32) (v4 : Int32) (v5 : Bool) (σ : nS) : nS := s_Mo_area_49 v1 v2 v3 v4 v5 false σ
def s_Mo_area (v1 : Int32) (v2 : Int32) (v3 : Int32) (v4 : Int32) (v5 : Bool) (σ : nS) : nS := if v1 < (0 : Int32) then (s_Mo_area_48 v1 v2 v3 v4 v5 σ) else (if (4 : Int32) ≤ v1 then (s_Mo_area_48 v1 v2 v3 v4 v5 σ) else (if v4 < (0 : Int32) then (s_Mo_area_48 v1 v2 v3 v4 v5 σ) else (if (3 : Int32) ≤ v4 then (s_Mo_area_48 v1 v2 v3 v4 v5 σ) else (if v2 < (0 : Int32) then (s_Mo_area_48 v1 v2 v3 v4 v5 σ) else (if (1024 : Int32) < v2 then (s_Mo_area_48 v1 v2 v3 v4 v5 σ) else (if v3 < (0 : Int32) then (s_Mo_area_48 v1 v2 v3 v4 v5 σ) else (if ((1024 : Int32) - v2) < v3 then (s_Mo_area_48 v1 v2 v3 v4 v5 σ) else (s_Mo_area_49 v1 v2 v3 v4 v5 true σ))))))))
def o_Mo_area_62 (v1 : Int32) (v2 : Int32) (v3 : Int32) (v4 : Int32) (v5 : Bool) (k1 : Bool) (σ : nS) : Prop := ap2 (s_Mo_fails k1 σ) fun r1 σ1 => (if r1 = true then (True) else (vp_in v1 4 ∧ (vp_in v1 4 ∧ (vp_in v1 4 ∧ (vp_in v1 4 ∧ (True))))))
def o_Mo_area_49 (v1 : Int32) (v2 : Int32) (v3 : Int32) (v4 : Int32) (v5 : Bool) (k0 : Bool) (σ : nS) : Prop := if k0 = true then (o_Mo_area_62 v1 v2 v3 v4 v5 false σ) else (o_Mo_area_62 v1 v2 v3 v4 v5 true σ)
def o_Mo_area_48 (v1 : Int32) (v2 : Int32) (v3 : Int32) (v4 : Int32) (v5 : Bool) (σ : nS) : Prop := o_Mo_area_49 v1 v2 v3 v4 v5 false σ
def o_Mo_area (v1 : Int32) (v2 : Int32) (v3 : Int32) (v4 : Int32) (v5 : Bool) (σ : nS) : Prop := if v1 < (0 : Int32) then (o_Mo_area_48 v1 v2 v3 v4 v5 σ) else (if (4 : Int32) ≤ v1 then (o_Mo_area_48 v1 v2 v3 v4 v5 σ) else (if v4 < (0 : Int32) then (o_Mo_area_48 v1 v2 v3 v4 v5 σ) else (if (3 : Int32) ≤ v4 then (o_Mo_area_48 v1 v2 v3 v4 v5 σ) else (if v2 < (0 : Int32) then (o_Mo_area_48 v1 v2 v3 v4 v5 σ) else (if (1024 : Int32) < v2 then (o_Mo_area_48 v1 v2 v3 v4 v5 σ) else (if v3 < (0 : Int32) then (o_Mo_area_48 v1 v2 v3 v4 v5 σ) else (if ((1024 : Int32) - v2) < v3 then (o_Mo_area_48 v1 v2 v3 v4 v5 σ) else (o_Mo_area_49 v1 v2 v3 v4 v5 true σ))))))))
def s_Mo_run_49_0 (σ : nS) : Int32 × nS := ((0 : Int32), σ)
def s_Mo_run_49_1 (σ : nS) : Int32 × nS := ((1 : Int32), σ)
def s_Mo_run_49_2 (σ : nS) : Int32 × nS := ((2 : Int32), σ)
def s_Mo_run_49_3 (σ : nS) : Int32 × nS := ((3 : Int32), σ)
def s_Mo_run_49_4 (σ : nS) : Int32 × nS := ((4 : Int32), σ)
def s_Mo_run_49_5 (σ : nS) : Int32 × nS := ((5 : Int32), σ)
def s_Mo_run_49_6 (σ : nS) : Int32 × nS := ((6 : Int32), σ)
def s_Mo_run_49_7 (σ : nS) : Int32 × nS := ((7 : Int32), σ)
def s_Mo_run_49_8 (σ : nS) : Int32 × nS := ((8 : Int32), σ)
def s_Mo_run_49_9 (σ : nS) : Int32 × nS := ((9 : Int32), σ)
def s_Mo_run_49_10 (σ : nS) : Int32 × nS := ((10 : Int32), σ)
def s_Mo_run_49_11 (σ : nS) : Int32 × nS := ((11 : Int32), σ)
def s_Mo_run_49_12 (σ : nS) : Int32 × nS := ((12 : Int32), σ)
def s_Mo_run_49_13 (σ : nS) : Int32 × nS := ((13 : Int32), σ)
def s_Mo_run_49_14 (σ : nS) : Int32 × nS := ((14 : Int32), σ)
def s_Mo_run_49_15 (σ : nS) : Int32 × nS := ((15 : Int32), σ)
def s_Mo_run_49_16 (σ : nS) : Int32 × nS := ((16 : Int32), σ)
def s_Mo_run_49_17 (σ : nS) : Int32 × nS := ((17 : Int32), σ)
def s_Mo_run_49_18 (σ : nS) : Int32 × nS := ((18 : Int32), σ)
def s_Mo_run_49_19 (σ : nS) : Int32 × nS := ((19 : Int32), σ)
def s_Mo_run_49_20 (σ : nS) : Int32 × nS := ((20 : Int32), σ)
def s_Mo_run_49_21 (σ : nS) : Int32 × nS := ((21 : Int32), σ)
def s_Mo_run_49_22 (σ : nS) : Int32 × nS := ((22 : Int32), σ)
def s_Mo_run_49_23 (σ : nS) : Int32 × nS := ((23 : Int32), σ)
def s_Mo_run_49_24 (σ : nS) : Int32 × nS := ((24 : Int32), σ)
def s_Mo_run_49_25 (σ : nS) : Int32 × nS := ((25 : Int32), σ)
def s_Mo_run_27_25 (v1 : Int32) (σ : nS) : Int32 × nS := s_Mo_run_49_25 σ
def s_Mo_run_27_24 (v1 : Int32) (σ : nS) : Int32 × nS := if v1 ≤ (24 : Int32) then (s_Mo_run_49_24 σ) else (if (σ 8 11) = (0 : Int32) then (ap1 (s_Mo_step σ) fun σ1 => s_Mo_run_27_25 v1 σ1) else (s_Mo_run_49_24 σ))
def s_Mo_run_27_23 (v1 : Int32) (σ : nS) : Int32 × nS := if v1 ≤ (23 : Int32) then (s_Mo_run_49_23 σ) else (if (σ 8 11) = (0 : Int32) then (ap1 (s_Mo_step σ) fun σ1 => s_Mo_run_27_24 v1 σ1) else (s_Mo_run_49_23 σ))
def s_Mo_run_27_22 (v1 : Int32) (σ : nS) : Int32 × nS := if v1 ≤ (22 : Int32) then (s_Mo_run_49_22 σ) else (if (σ 8 11) = (0 : Int32) then (ap1 (s_Mo_step σ) fun σ1 => s_Mo_run_27_23 v1 σ1) else (s_Mo_run_49_22 σ))
def s_Mo_run_27_21 (v1 : Int32) (σ : nS) : Int32 × nS := if v1 ≤ (21 : Int32) then (s_Mo_run_49_21 σ) else (if (σ 8 11) = (0 : Int32) then (ap1 (s_Mo_step σ) fun σ1 => s_Mo_run_27_22 v1 σ1) else (s_Mo_run_49_21 σ))
def s_Mo_run_27_20 (v1 : Int32) (σ : nS) : Int32 × nS := if v1 ≤ (20 : Int32) then (s_Mo_run_49_20 σ) else (if (σ 8 11) = (0 : Int32) then (ap1 (s_Mo_step σ) fun σ1 => s_Mo_run_27_21 v1 σ1) else (s_Mo_run_49_20 σ))
def s_Mo_run_27_19 (v1 : Int32) (σ : nS) : Int32 × nS := if v1 ≤ (19 : Int32) then (s_Mo_run_49_19 σ) else (if (σ 8 11) = (0 : Int32) then (ap1 (s_Mo_step σ) fun σ1 => s_Mo_run_27_20 v1 σ1) else (s_Mo_run_49_19 σ))
def s_Mo_run_27_18 (v1 : Int32) (σ : nS) : Int32 × nS := if v1 ≤ (18 : Int32) then (s_Mo_run_49_18 σ) else (if (σ 8 11) = (0 : Int32) then (ap1 (s_Mo_step σ) fun σ1 => s_Mo_run_27_19 v1 σ1) else (s_Mo_run_49_18 σ))
def s_Mo_run_27_17 (v1 : Int32) (σ : nS) : Int32 × nS := if v1 ≤ (17 : Int32) then (s_Mo_run_49_17 σ) else (if (σ 8 11) = (0 : Int32) then (ap1 (s_Mo_step σ) fun σ1 => s_Mo_run_27_18 v1 σ1) else (s_Mo_run_49_17 σ))
def s_Mo_run_27_16 (v1 : Int32) (σ : nS) : Int32 × nS := if v1 ≤ (16 : Int32) then (s_Mo_run_49_16 σ) else (if (σ 8 11) = (0 : Int32) then (ap1 (s_Mo_step σ) fun σ1 => s_Mo_run_27_17 v1 σ1) else (s_Mo_run_49_16 σ))
def s_Mo_run_27_15 (v1 : Int32) (σ : nS) : Int32 × nS := if v1 ≤ (15 : Int32) then (s_Mo_run_49_15 σ) else (if (σ 8 11) = (0 : Int32) then (ap1 (s_Mo_step σ) fun σ1 => s_Mo_run_27_16 v1 σ1) else (s_Mo_run_49_15 σ))
def s_Mo_run_27_14 (v1 : Int32) (σ : nS) : Int32 × nS := if v1 ≤ (14 : Int32) then (s_Mo_run_49_14 σ) else (if (σ 8 11) = (0 : Int32) then (ap1 (s_Mo_step σ) fun σ1 => s_Mo_run_27_15 v1 σ1) else (s_Mo_run_49_14 σ))
def s_Mo_run_27_13 (v1 : Int32) (σ : nS) : Int32 × nS := if v1 ≤ (13 : Int32) then (s_Mo_run_49_13 σ) else (if (σ 8 11) = (0 : Int32) then (ap1 (s_Mo_step σ) fun σ1 => s_Mo_run_27_14 v1 σ1) else (s_Mo_run_49_13 σ))
def s_Mo_run_27_12 (v1 : Int32) (σ : nS) : Int32 × nS := if v1 ≤ (12 : Int32) then (s_Mo_run_49_12 σ) else (if (σ 8 11) = (0 : Int32) then (ap1 (s_Mo_step σ) fun σ1 => s_Mo_run_27_13 v1 σ1) else (s_Mo_run_49_12 σ))
def s_Mo_run_27_11 (v1 : Int32) (σ : nS) : Int32 × nS := if v1 ≤ (11 : Int32) then (s_Mo_run_49_11 σ) else (if (σ 8 11) = (0 : Int32) then (ap1 (s_Mo_step σ) fun σ1 => s_Mo_run_27_12 v1 σ1) else (s_Mo_run_49_11 σ))
def s_Mo_run_27_10 (v1 : Int32) (σ : nS) : Int32 × nS := if v1 ≤ (10 : Int32) then (s_Mo_run_49_10 σ) else (if (σ 8 11) = (0 : Int32) then (ap1 (s_Mo_step σ) fun σ1 => s_Mo_run_27_11 v1 σ1) else (s_Mo_run_49_10 σ))
def s_Mo_run_27_9 (v1 : Int32) (σ : nS) : Int32 × nS := if v1 ≤ (9 : Int32) then (s_Mo_run_49_9 σ) else (if (σ 8 11) = (0 : Int32) then (ap1 (s_Mo_step σ) fun σ1 => s_Mo_run_27_10 v1 σ1) else (s_Mo_run_49_9 σ))
def s_Mo_run_27_8 (v1 : Int32) (σ : nS) : Int32 × nS := if v1 ≤ (8 : Int32) then (s_Mo_run_49_8 σ) else (if (σ 8 11) = (0 : Int32) then (ap1 (s_Mo_step σ) fun σ1 => s_Mo_run_27_9 v1 σ1) else (s_Mo_run_49_8 σ))
def s_Mo_run_27_7 (v1 : Int32) (σ : nS) : Int32 × nS := if v1 ≤ (7 : Int32) then (s_Mo_run_49_7 σ) else (if (σ 8 11) = (0 : Int32) then (ap1 (s_Mo_step σ) fun σ1 => s_Mo_run_27_8 v1 σ1) else (s_Mo_run_49_7 σ))
def s_Mo_run_27_6 (v1 : Int32) (σ : nS) : Int32 × nS := if v1 ≤ (6 : Int32) then (s_Mo_run_49_6 σ) else (if (σ 8 11) = (0 : Int32) then (ap1 (s_Mo_step σ) fun σ1 => s_Mo_run_27_7 v1 σ1) else (s_Mo_run_49_6 σ))
def s_Mo_run_27_5 (v1 : Int32) (σ : nS) : Int32 × nS := if v1 ≤ (5 : Int32) then (s_Mo_run_49_5 σ) else (if (σ 8 11) = (0 : Int32) then (ap1 (s_Mo_step σ) fun σ1 => s_Mo_run_27_6 v1 σ1) else (s_Mo_run_49_5 σ))
def s_Mo_run_27_4 (v1 : Int32) (σ : nS) : Int32 × nS := if v1 ≤ (4 : Int32) then (s_Mo_run_49_4 σ) else (if (σ 8 11) = (0 : Int32) then (ap1 (s_Mo_step σ) fun σ1 => s_Mo_run_27_5 v1 σ1) else (s_Mo_run_49_4 σ))
def s_Mo_run_27_3 (v1 : Int32) (σ : nS) : Int32 × nS := if v1 ≤ (3 : Int32) then (s_Mo_run_49_3 σ) else (if (σ 8 11) = (0 : Int32) then (ap1 (s_Mo_step σ) fun σ1 => s_Mo_run_27_4 v1 σ1) else (s_Mo_run_49_3 σ))
def s_Mo_run_27_2 (v1 : Int32) (σ : nS) : Int32 × nS := if v1 ≤ (2 : Int32) then (s_Mo_run_49_2 σ) else (if (σ 8 11) = (0 : Int32) then (ap1 (s_Mo_step σ) fun σ1 => s_Mo_run_27_3 v1 σ1) else (s_Mo_run_49_2 σ))
def s_Mo_run_27_1 (v1 : Int32) (σ : nS) : Int32 × nS := if v1 ≤ (1 : Int32) then (s_Mo_run_49_1 σ) else (if (σ 8 11) = (0 : Int32) then (ap1 (s_Mo_step σ) fun σ1 => s_Mo_run_27_2 v1 σ1) else (s_Mo_run_49_1 σ))
def s_Mo_run_27_0 (v1 : Int32) (σ : nS) : Int32 × nS := if v1 ≤ (0 : Int32) then (s_Mo_run_49_0 σ) else (if (σ 8 11) = (0 : Int32) then (ap1 (s_Mo_step σ) fun σ1 => s_Mo_run_27_1 v1 σ1) else (s_Mo_run_49_0 σ))
def s_Mo_run_17 (v1 : Int32) (k1 : Bool) (σ : nS) : Int32 × nS := ap2 (s_Mo_fails k1 σ) fun r1 σ1 => if r1 = true then (((0 : Int32), σ1)) else (s_Mo_run_27_0 v1 σ1)
def s_Mo_run_12 (v1 : Int32) (σ : nS) : Int32 × nS := s_Mo_run_17 v1 true σ
def s_Mo_run (v1 : Int32) (σ : nS) : Int32 × nS := if v1 < (1 : Int32) then (s_Mo_run_12 v1 σ) else (if v1 ≤ (25 : Int32) then (s_Mo_run_17 v1 false σ) else (s_Mo_run_12 v1 σ))
def o_Mo_run_49_0 (σ : nS) : Prop := True
def o_Mo_run_49_1 (σ : nS) : Prop := True
def o_Mo_run_49_2 (σ : nS) : Prop := True
def o_Mo_run_49_3 (σ : nS) : Prop := True
def o_Mo_run_49_4 (σ : nS) : Prop := True
def o_Mo_run_49_5 (σ : nS) : Prop := True
def o_Mo_run_49_6 (σ : nS) : Prop := True
def o_Mo_run_49_7 (σ : nS) : Prop := True
def o_Mo_run_49_8 (σ : nS) : Prop := True
def o_Mo_run_49_9 (σ : nS) : Prop := True
def o_Mo_run_49_10 (σ : nS) : Prop := True
def o_Mo_run_49_11 (σ : nS) : Prop := True
def o_Mo_run_49_12 (σ : nS) : Prop := True
def o_Mo_run_49_13 (σ : nS) : Prop := True
def o_Mo_run_49_14 (σ : nS) : Prop := True
def o_Mo_run_49_15 (σ : nS) : Prop := True
def o_Mo_run_49_16 (σ : nS) : Prop := True
def o_Mo_run_49_17 (σ : nS) : Prop := True
def o_Mo_run_49_18 (σ : nS) : Prop := True
def o_Mo_run_49_19 (σ : nS) : Prop := True
def o_Mo_run_49_20 (σ : nS) : Prop := True
def o_Mo_run_49_21 (σ : nS) : Prop := True
def o_Mo_run_49_22 (σ : nS) : Prop := True
def o_Mo_run_49_23 (σ : nS) : Prop := True
def o_Mo_run_49_24 (σ : nS) : Prop := True
def o_Mo_run_49_25 (σ : nS) : Prop := True
def o_Mo_run_27_25 (v1 : Int32) (σ : nS) : Prop := v1 ≤ (25 : Int32) ∧ (o_Mo_run_49_25 σ)
def o_Mo_run_27_24 (v1 : Int32) (σ : nS) : Prop := if v1 ≤ (24 : Int32) then (o_Mo_run_49_24 σ) else (if (σ 8 11) = (0 : Int32) then (o_Mo_step σ ∧ (ap1 (s_Mo_step σ) fun σ1 => (o_Mo_run_27_25 v1 σ1))) else (o_Mo_run_49_24 σ))
def o_Mo_run_27_23 (v1 : Int32) (σ : nS) : Prop := if v1 ≤ (23 : Int32) then (o_Mo_run_49_23 σ) else (if (σ 8 11) = (0 : Int32) then (o_Mo_step σ ∧ (ap1 (s_Mo_step σ) fun σ1 => (o_Mo_run_27_24 v1 σ1))) else (o_Mo_run_49_23 σ))
def o_Mo_run_27_22 (v1 : Int32) (σ : nS) : Prop := if v1 ≤ (22 : Int32) then (o_Mo_run_49_22 σ) else (if (σ 8 11) = (0 : Int32) then (o_Mo_step σ ∧ (ap1 (s_Mo_step σ) fun σ1 => (o_Mo_run_27_23 v1 σ1))) else (o_Mo_run_49_22 σ))
def o_Mo_run_27_21 (v1 : Int32) (σ : nS) : Prop := if v1 ≤ (21 : Int32) then (o_Mo_run_49_21 σ) else (if (σ 8 11) = (0 : Int32) then (o_Mo_step σ ∧ (ap1 (s_Mo_step σ) fun σ1 => (o_Mo_run_27_22 v1 σ1))) else (o_Mo_run_49_21 σ))
def o_Mo_run_27_20 (v1 : Int32) (σ : nS) : Prop := if v1 ≤ (20 : Int32) then (o_Mo_run_49_20 σ) else (if (σ 8 11) = (0 : Int32) then (o_Mo_step σ ∧ (ap1 (s_Mo_step σ) fun σ1 => (o_Mo_run_27_21 v1 σ1))) else (o_Mo_run_49_20 σ))
def o_Mo_run_27_19 (v1 : Int32) (σ : nS) : Prop := if v1 ≤ (19 : Int32) then (o_Mo_run_49_19 σ) else (if (σ 8 11) = (0 : Int32) then (o_Mo_step σ ∧ (ap1 (s_Mo_step σ) fun σ1 => (o_Mo_run_27_20 v1 σ1))) else (o_Mo_run_49_19 σ))
def o_Mo_run_27_18 (v1 : Int32) (σ : nS) : Prop := if v1 ≤ (18 : Int32) then (o_Mo_run_49_18 σ) else (if (σ 8 11) = (0 : Int32) then (o_Mo_step σ ∧ (ap1 (s_Mo_step σ) fun σ1 => (o_Mo_run_27_19 v1 σ1))) else (o_Mo_run_49_18 σ))
def o_Mo_run_27_17 (v1 : Int32) (σ : nS) : Prop := if v1 ≤ (17 : Int32) then (o_Mo_run_49_17 σ) else (if (σ 8 11) = (0 : Int32) then (o_Mo_step σ ∧ (ap1 (s_Mo_step σ) fun σ1 => (o_Mo_run_27_18 v1 σ1))) else (o_Mo_run_49_17 σ))
def o_Mo_run_27_16 (v1 : Int32) (σ : nS) : Prop := if v1 ≤ (16 : Int32) then (o_Mo_run_49_16 σ) else (if (σ 8 11) = (0 : Int32) then (o_Mo_step σ ∧ (ap1 (s_Mo_step σ) fun σ1 => (o_Mo_run_27_17 v1 σ1))) else (o_Mo_run_49_16 σ))
def o_Mo_run_27_15 (v1 : Int32) (σ : nS) : Prop := if v1 ≤ (15 : Int32) then (o_Mo_run_49_15 σ) else (if (σ 8 11) = (0 : Int32) then (o_Mo_step σ ∧ (ap1 (s_Mo_step σ) fun σ1 => (o_Mo_run_27_16 v1 σ1))) else (o_Mo_run_49_15 σ))
def o_Mo_run_27_14 (v1 : Int32) (σ : nS) : Prop := if v1 ≤ (14 : Int32) then (o_Mo_run_49_14 σ) else (if (σ 8 11) = (0 : Int32) then (o_Mo_step σ ∧ (ap1 (s_Mo_step σ) fun σ1 => (o_Mo_run_27_15 v1 σ1))) else (o_Mo_run_49_14 σ))
def o_Mo_run_27_13 (v1 : Int32) (σ : nS) : Prop := if v1 ≤ (13 : Int32) then (o_Mo_run_49_13 σ) else (if (σ 8 11) = (0 : Int32) then (o_Mo_step σ ∧ (ap1 (s_Mo_step σ) fun σ1 => (o_Mo_run_27_14 v1 σ1))) else (o_Mo_run_49_13 σ))
def o_Mo_run_27_12 (v1 : Int32) (σ : nS) : Prop := if v1 ≤ (12 : Int32) then (o_Mo_run_49_12 σ) else (if (σ 8 11) = (0 : Int32) then (o_Mo_step σ ∧ (ap1 (s_Mo_step σ) fun σ1 => (o_Mo_run_27_13 v1 σ1))) else (o_Mo_run_49_12 σ))
def o_Mo_run_27_11 (v1 : Int32) (σ : nS) : Prop := if v1 ≤ (11 : Int32) then (o_Mo_run_49_11 σ) else (if (σ 8 11) = (0 : Int32) then (o_Mo_step σ ∧ (ap1 (s_Mo_step σ) fun σ1 => (o_Mo_run_27_12 v1 σ1))) else (o_Mo_run_49_11 σ))
def o_Mo_run_27_10 (v1 : Int32) (σ : nS) : Prop := if v1 ≤ (10 : Int32) then (o_Mo_run_49_10 σ) else (if (σ 8 11) = (0 : Int32) then (o_Mo_step σ ∧ (ap1 (s_Mo_step σ) fun σ1 => (o_Mo_run_27_11 v1 σ1))) else (o_Mo_run_49_10 σ))
def o_Mo_run_27_9 (v1 : Int32) (σ : nS) : Prop := if v1 ≤ (9 : Int32) then (o_Mo_run_49_9 σ) else (if (σ 8 11) = (0 : Int32) then (o_Mo_step σ ∧ (ap1 (s_Mo_step σ) fun σ1 => (o_Mo_run_27_10 v1 σ1))) else (o_Mo_run_49_9 σ))
def o_Mo_run_27_8 (v1 : Int32) (σ : nS) : Prop := if v1 ≤ (8 : Int32) then (o_Mo_run_49_8 σ) else (if (σ 8 11) = (0 : Int32) then (o_Mo_step σ ∧ (ap1 (s_Mo_step σ) fun σ1 => (o_Mo_run_27_9 v1 σ1))) else (o_Mo_run_49_8 σ))
def o_Mo_run_27_7 (v1 : Int32) (σ : nS) : Prop := if v1 ≤ (7 : Int32) then (o_Mo_run_49_7 σ) else (if (σ 8 11) = (0 : Int32) then (o_Mo_step σ ∧ (ap1 (s_Mo_step σ) fun σ1 => (o_Mo_run_27_8 v1 σ1))) else (o_Mo_run_49_7 σ))
def o_Mo_run_27_6 (v1 : Int32) (σ : nS) : Prop := if v1 ≤ (6 : Int32) then (o_Mo_run_49_6 σ) else (if (σ 8 11) = (0 : Int32) then (o_Mo_step σ ∧ (ap1 (s_Mo_step σ) fun σ1 => (o_Mo_run_27_7 v1 σ1))) else (o_Mo_run_49_6 σ))
def o_Mo_run_27_5 (v1 : Int32) (σ : nS) : Prop := if v1 ≤ (5 : Int32) then (o_Mo_run_49_5 σ) else (if (σ 8 11) = (0 : Int32) then (o_Mo_step σ ∧ (ap1 (s_Mo_step σ) fun σ1 => (o_Mo_run_27_6 v1 σ1))) else (o_Mo_run_49_5 σ))
def o_Mo_run_27_4 (v1 : Int32) (σ : nS) : Prop := if v1 ≤ (4 : Int32) then (o_Mo_run_49_4 σ) else (if (σ 8 11) = (0 : Int32) then (o_Mo_step σ ∧ (ap1 (s_Mo_step σ) fun σ1 => (o_Mo_run_27_5 v1 σ1))) else (o_Mo_run_49_4 σ))
def o_Mo_run_27_3 (v1 : Int32) (σ : nS) : Prop := if v1 ≤ (3 : Int32) then (o_Mo_run_49_3 σ) else (if (σ 8 11) = (0 : Int32) then (o_Mo_step σ ∧ (ap1 (s_Mo_step σ) fun σ1 => (o_Mo_run_27_4 v1 σ1))) else (o_Mo_run_49_3 σ))
def o_Mo_run_27_2 (v1 : Int32) (σ : nS) : Prop := if v1 ≤ (2 : Int32) then (o_Mo_run_49_2 σ) else (if (σ 8 11) = (0 : Int32) then (o_Mo_step σ ∧ (ap1 (s_Mo_step σ) fun σ1 => (o_Mo_run_27_3 v1 σ1))) else (o_Mo_run_49_2 σ))
def o_Mo_run_27_1 (v1 : Int32) (σ : nS) : Prop := if v1 ≤ (1 : Int32) then (o_Mo_run_49_1 σ) else (if (σ 8 11) = (0 : Int32) then (o_Mo_step σ ∧ (ap1 (s_Mo_step σ) fun σ1 => (o_Mo_run_27_2 v1 σ1))) else (o_Mo_run_49_1 σ))
def o_Mo_run_27_0 (v1 : Int32) (σ : nS) : Prop := if v1 ≤ (0 : Int32) then (o_Mo_run_49_0 σ) else (if (σ 8 11) = (0 : Int32) then (o_Mo_step σ ∧ (ap1 (s_Mo_step σ) fun σ1 => (o_Mo_run_27_1 v1 σ1))) else (o_Mo_run_49_0 σ))
def o_Mo_run_17 (v1 : Int32) (k1 : Bool) (σ : nS) : Prop := ap2 (s_Mo_fails k1 σ) fun r1 σ1 => (if r1 = true then (True) else (o_Mo_run_27_0 v1 σ1))
def o_Mo_run_12 (v1 : Int32) (σ : nS) : Prop := o_Mo_run_17 v1 true σ
def o_Mo_run (v1 : Int32) (σ : nS) : Prop := if v1 < (1 : Int32) then (o_Mo_run_12 v1 σ) else (if v1 ≤ (25 : Int32) then (o_Mo_run_17 v1 false σ) else (o_Mo_run_12 v1 σ))
def s_Mo_state_157 (k0 : Int32) (k1 : Bool) (σ : nS) : Int32 × nS := ((k0 + (bI k1)), σ)
def s_Mo_state_144 (k0 : Int32) (k1 : Int32) (σ : nS) : Int32 × nS := if (σ 8 7) = (0 : Int32) then (s_Mo_state_157 (k0 + k1) false σ) else (s_Mo_state_157 (k0 + k1) true σ)
def s_Mo_state_131 (k0 : Int32) (k1 : Int32) (σ : nS) : Int32 × nS := if (σ 8 6) = (0 : Int32) then (s_Mo_state_144 (k0 + k1) (0 : Int32) σ) else (s_Mo_state_144 (k0 + k1) (2 : Int32) σ)
def s_Mo_state_119 (k0 : Int32) (σ : nS) : Int32 × nS := if (σ 8 5) = (0 : Int32) then (s_Mo_state_131 k0 (0 : Int32) σ) else (s_Mo_state_131 k0 (4 : Int32) σ)
def s_Mo_state_100 (k0 : Int32) (k1 : Int32) (σ : nS) : Int32 × nS := ((k0 + k1), σ)
def s_Mo_state_85 (v3 : Int32) (k0 : Bool) (k1 : Int32) (σ : nS) : Int32 × nS := if (σ 1 (v3).toNatClampNeg) = (0 : Int32) then (s_Mo_state_100 ((bI k0) + k1) (0 : Int32) σ) else (s_Mo_state_100 ((bI k0) + k1) (4 : Int32) σ)
def s_Mo_state_71 (v3 : Int32) (k0 : Bool) (σ : nS) : Int32 × nS := if (σ 3 (v3).toNatClampNeg) = (0 : Int32) then (s_Mo_state_85 v3 k0 (0 : Int32) σ) else (s_Mo_state_85 v3 k0 (2 : Int32) σ)
def s_Mo_state_38 (v1 : Int32) (k1 : Bool) (σ : nS) : Int32 × nS := ap2 (s_Mo_fails k1 σ) fun r1 σ1 => if r1 = true then (((0 : Int32), σ1)) else (if v1 ≤ (17 : Int32) then (if v1 = (0 : Int32) then (if (σ1 8 4) = (0 : Int32) then (s_Mo_state_119 (0 : Int32) σ1) else (s_Mo_state_119 (8 : Int32) σ1)) else (if v1 = (1 : Int32) then (((σ1 8 10), σ1)) else (if v1 = (2 : Int32) then (((s_Mo_level σ1), σ1)) else (if v1 = (3 : Int32) then (((s_Mo_due σ1), σ1)) else (if v1 = (4 : Int32) then (((σ1 8 12), σ1)) else (if v1 = (5 : Int32) then (((σ1 8 13), σ1)) else (if v1 = (6 : Int32) then (((σ1 8 11), σ1)) else (if v1 = (7 : Int32) then (((σ1 8 14), σ1)) else (((σ1 8 9), σ1)))))))))) else (if (σ1 2 ((v1 - (16 : Int32))).toNatClampNeg) = (0 : Int32) then (s_Mo_state_71 (v1 - (16 : Int32)) false σ1) else (s_Mo_state_71 (v1 - (16 : Int32)) true σ1)))
def s_Mo_state_27 (v1 : Int32) (k0 : Bool) (σ : nS) : Int32 × nS := if k0 = true then (s_Mo_state_38 v1 false σ) else (s_Mo_state_38 v1 true σ)
def s_Mo_state_26 (v1 : Int32) (σ : nS) : Int32 × nS := s_Mo_state_27 v1 false σ
def s_Mo_state_22 (v1 : Int32) (σ : nS) : Int32 × nS := s_Mo_state_27 v1 true σ
def s_Mo_state_10 (v1 : Int32) (σ : nS) : Int32 × nS := if v1 < (18 : Int32) then (s_Mo_state_26 v1 σ) else (if (32 : Int32) ≤ v1 then (s_Mo_state_26 v1 σ) else (s_Mo_state_22 v1 σ))
def s_Mo_state (v1 : Int32) (σ : nS) : Int32 × nS := if v1 < (0 : Int32) then (s_Mo_state_10 v1 σ) else (if v1 < (9 : Int32) then (s_Mo_state_22 v1 σ) else (s_Mo_state_10 v1 σ))
def o_Mo_state_157 (k0 : Int32) (k1 : Bool) (σ : nS) : Prop := True
def o_Mo_state_144 (k0 : Int32) (k1 : Int32) (σ : nS) : Prop := if (σ 8 7) = (0 : Int32) then (o_Mo_state_157 (k0 + k1) false σ) else (o_Mo_state_157 (k0 + k1) true σ)
def o_Mo_state_131 (k0 : Int32) (k1 : Int32) (σ : nS) : Prop := if (σ 8 6) = (0 : Int32) then (o_Mo_state_144 (k0 + k1) (0 : Int32) σ) else (o_Mo_state_144 (k0 + k1) (2 : Int32) σ)
def o_Mo_state_119 (k0 : Int32) (σ : nS) : Prop := if (σ 8 5) = (0 : Int32) then (o_Mo_state_131 k0 (0 : Int32) σ) else (o_Mo_state_131 k0 (4 : Int32) σ)
def o_Mo_state_100 (k0 : Int32) (k1 : Int32) (σ : nS) : Prop := True
def o_Mo_state_85 (v3 : Int32) (k0 : Bool) (k1 : Int32) (σ : nS) : Prop := vp_in v3 16 ∧ (if (σ 1 (v3).toNatClampNeg) = (0 : Int32) then (o_Mo_state_100 ((bI k0) + k1) (0 : Int32) σ) else (o_Mo_state_100 ((bI k0) + k1) (4 : Int32) σ))
def o_Mo_state_71 (v3 : Int32) (k0 : Bool) (σ : nS) : Prop := vp_in v3 16 ∧ (if (σ 3 (v3).toNatClampNeg) = (0 : Int32) then (o_Mo_state_85 v3 k0 (0 : Int32) σ) else (o_Mo_state_85 v3 k0 (2 : Int32) σ))
def o_Mo_state_38 (v1 : Int32) (k1 : Bool) (σ : nS) : Prop := ap2 (s_Mo_fails k1 σ) fun r1 σ1 => (if r1 = true then (True) else (if v1 ≤ (17 : Int32) then (if v1 = (0 : Int32) then (if (σ1 8 4) = (0 : Int32) then (o_Mo_state_119 (0 : Int32) σ1) else (o_Mo_state_119 (8 : Int32) σ1)) else (if v1 = (1 : Int32) then (True) else (if v1 = (2 : Int32) then (True) else (if v1 = (3 : Int32) then (True) else (if v1 = (4 : Int32) then (True) else (if v1 = (5 : Int32) then (True) else (if v1 = (6 : Int32) then (True) else (if v1 = (7 : Int32) then (True) else (True))))))))) else (vp_in (v1 - (16 : Int32)) 16 ∧ (if (σ1 2 ((v1 - (16 : Int32))).toNatClampNeg) = (0 : Int32) then (o_Mo_state_71 (v1 - (16 : Int32)) false σ1) else (o_Mo_state_71 (v1 - (16 : Int32)) true σ1)))))
def o_Mo_state_27 (v1 : Int32) (k0 : Bool) (σ : nS) : Prop := if k0 = true then (o_Mo_state_38 v1 false σ) else (o_Mo_state_38 v1 true σ)
def o_Mo_state_26 (v1 : Int32) (σ : nS) : Prop := o_Mo_state_27 v1 false σ
def o_Mo_state_22 (v1 : Int32) (σ : nS) : Prop := o_Mo_state_27 v1 true σ
def o_Mo_state_10 (v1 : Int32) (σ : nS) : Prop := if v1 < (18 : Int32) then (o_Mo_state_26 v1 σ) else (if (32 : Int32) ≤ v1 then (o_Mo_state_26 v1 σ) else (o_Mo_state_22 v1 σ))
def o_Mo_state (v1 : Int32) (σ : nS) : Prop := if v1 < (0 : Int32) then (o_Mo_state_10 v1 σ) else (if v1 < (9 : Int32) then (o_Mo_state_22 v1 σ) else (o_Mo_state_10 v1 σ))
end
section
theorem dr_Ex_due_75 (σ : nS) : vp_in (s_Ex_due_75 σ) 16 := by
  unfold s_Ex_due_75
  repeat' split
  all_goals first | exact vin_dec (by decide)
theorem dr_Ex_due_4_16 (v1 : Int32) (σ : nS) (qv1 : vp_in v1 16) : vp_in (s_Ex_due_4_16 v1 σ) 16 := by
  unfold s_Ex_due_4_16
  repeat' split
  all_goals first | exact vin_dec (by decide) | exact qv1 | exact dr_Ex_due_75 σ | exact dr_Ex_due_75 v1 σ qv1 | exact dr_Ex_due_75 _ σ (vin_dec (by decide))
theorem dr_Ex_due_49_15 (v1 : Int32) (σ : nS) (qv1 : vp_in v1 16) : vp_in (s_Ex_due_49_15 v1 σ) 16 := by
  unfold s_Ex_due_49_15
  repeat' split
  all_goals first | exact vin_dec (by decide) | exact qv1 | exact dr_Ex_due_4_16 σ | exact dr_Ex_due_4_16 v1 σ qv1 | exact dr_Ex_due_4_16 _ σ (vin_dec (by decide))
theorem dr_Ex_due_47_15 (σ : nS) : vp_in (s_Ex_due_47_15 σ) 16 := by
  unfold s_Ex_due_47_15
  repeat' split
  all_goals first | exact vin_dec (by decide) | exact dr_Ex_due_49_15 σ | exact dr_Ex_due_49_15 v1 σ qv1 | exact dr_Ex_due_49_15 _ σ (vin_dec (by decide))
theorem dr_Ex_due_4_15 (v1 : Int32) (σ : nS) (qv1 : vp_in v1 16) : vp_in (s_Ex_due_4_15 v1 σ) 16 := by
  unfold s_Ex_due_4_15
  repeat' split
  all_goals first | exact vin_dec (by decide) | exact qv1 | exact dr_Ex_due_49_15 σ | exact dr_Ex_due_49_15 v1 σ qv1 | exact dr_Ex_due_49_15 _ σ (vin_dec (by decide)) | exact dr_Ex_due_47_15 σ | exact dr_Ex_due_47_15 v1 σ qv1 | exact dr_Ex_due_47_15 _ σ (vin_dec (by decide))
theorem dr_Ex_due_49_14 (v1 : Int32) (σ : nS) (qv1 : vp_in v1 16) : vp_in (s_Ex_due_49_14 v1 σ) 16 := by
  unfold s_Ex_due_49_14
  repeat' split
  all_goals first | exact vin_dec (by decide) | exact qv1 | exact dr_Ex_due_4_15 σ | exact dr_Ex_due_4_15 v1 σ qv1 | exact dr_Ex_due_4_15 _ σ (vin_dec (by decide))
theorem dr_Ex_due_47_14 (σ : nS) : vp_in (s_Ex_due_47_14 σ) 16 := by
  unfold s_Ex_due_47_14
  repeat' split
  all_goals first | exact vin_dec (by decide) | exact dr_Ex_due_49_14 σ | exact dr_Ex_due_49_14 v1 σ qv1 | exact dr_Ex_due_49_14 _ σ (vin_dec (by decide))
theorem dr_Ex_due_4_14 (v1 : Int32) (σ : nS) (qv1 : vp_in v1 16) : vp_in (s_Ex_due_4_14 v1 σ) 16 := by
  unfold s_Ex_due_4_14
  repeat' split
  all_goals first | exact vin_dec (by decide) | exact qv1 | exact dr_Ex_due_49_14 σ | exact dr_Ex_due_49_14 v1 σ qv1 | exact dr_Ex_due_49_14 _ σ (vin_dec (by decide)) | exact dr_Ex_due_47_14 σ | exact dr_Ex_due_47_14 v1 σ qv1 | exact dr_Ex_due_47_14 _ σ (vin_dec (by decide))
theorem dr_Ex_due_49_13 (v1 : Int32) (σ : nS) (qv1 : vp_in v1 16) : vp_in (s_Ex_due_49_13 v1 σ) 16 := by
  unfold s_Ex_due_49_13
  repeat' split
  all_goals first | exact vin_dec (by decide) | exact qv1 | exact dr_Ex_due_4_14 σ | exact dr_Ex_due_4_14 v1 σ qv1 | exact dr_Ex_due_4_14 _ σ (vin_dec (by decide))
theorem dr_Ex_due_47_13 (σ : nS) : vp_in (s_Ex_due_47_13 σ) 16 := by
  unfold s_Ex_due_47_13
  repeat' split
  all_goals first | exact vin_dec (by decide) | exact dr_Ex_due_49_13 σ | exact dr_Ex_due_49_13 v1 σ qv1 | exact dr_Ex_due_49_13 _ σ (vin_dec (by decide))
theorem dr_Ex_due_4_13 (v1 : Int32) (σ : nS) (qv1 : vp_in v1 16) : vp_in (s_Ex_due_4_13 v1 σ) 16 := by
  unfold s_Ex_due_4_13
  repeat' split
  all_goals first | exact vin_dec (by decide) | exact qv1 | exact dr_Ex_due_49_13 σ | exact dr_Ex_due_49_13 v1 σ qv1 | exact dr_Ex_due_49_13 _ σ (vin_dec (by decide)) | exact dr_Ex_due_47_13 σ | exact dr_Ex_due_47_13 v1 σ qv1 | exact dr_Ex_due_47_13 _ σ (vin_dec (by decide))
theorem dr_Ex_due_49_12 (v1 : Int32) (σ : nS) (qv1 : vp_in v1 16) : vp_in (s_Ex_due_49_12 v1 σ) 16 := by
  unfold s_Ex_due_49_12
  repeat' split
  all_goals first | exact vin_dec (by decide) | exact qv1 | exact dr_Ex_due_4_13 σ | exact dr_Ex_due_4_13 v1 σ qv1 | exact dr_Ex_due_4_13 _ σ (vin_dec (by decide))
theorem dr_Ex_due_47_12 (σ : nS) : vp_in (s_Ex_due_47_12 σ) 16 := by
  unfold s_Ex_due_47_12
  repeat' split
  all_goals first | exact vin_dec (by decide) | exact dr_Ex_due_49_12 σ | exact dr_Ex_due_49_12 v1 σ qv1 | exact dr_Ex_due_49_12 _ σ (vin_dec (by decide))
theorem dr_Ex_due_4_12 (v1 : Int32) (σ : nS) (qv1 : vp_in v1 16) : vp_in (s_Ex_due_4_12 v1 σ) 16 := by
  unfold s_Ex_due_4_12
  repeat' split
  all_goals first | exact vin_dec (by decide) | exact qv1 | exact dr_Ex_due_49_12 σ | exact dr_Ex_due_49_12 v1 σ qv1 | exact dr_Ex_due_49_12 _ σ (vin_dec (by decide)) | exact dr_Ex_due_47_12 σ | exact dr_Ex_due_47_12 v1 σ qv1 | exact dr_Ex_due_47_12 _ σ (vin_dec (by decide))
theorem dr_Ex_due_49_11 (v1 : Int32) (σ : nS) (qv1 : vp_in v1 16) : vp_in (s_Ex_due_49_11 v1 σ) 16 := by
  unfold s_Ex_due_49_11
  repeat' split
  all_goals first | exact vin_dec (by decide) | exact qv1 | exact dr_Ex_due_4_12 σ | exact dr_Ex_due_4_12 v1 σ qv1 | exact dr_Ex_due_4_12 _ σ (vin_dec (by decide))
theorem dr_Ex_due_47_11 (σ : nS) : vp_in (s_Ex_due_47_11 σ) 16 := by
  unfold s_Ex_due_47_11
  repeat' split
  all_goals first | exact vin_dec (by decide) | exact dr_Ex_due_49_11 σ | exact dr_Ex_due_49_11 v1 σ qv1 | exact dr_Ex_due_49_11 _ σ (vin_dec (by decide))
theorem dr_Ex_due_4_11 (v1 : Int32) (σ : nS) (qv1 : vp_in v1 16) : vp_in (s_Ex_due_4_11 v1 σ) 16 := by
  unfold s_Ex_due_4_11
  repeat' split
  all_goals first | exact vin_dec (by decide) | exact qv1 | exact dr_Ex_due_49_11 σ | exact dr_Ex_due_49_11 v1 σ qv1 | exact dr_Ex_due_49_11 _ σ (vin_dec (by decide)) | exact dr_Ex_due_47_11 σ | exact dr_Ex_due_47_11 v1 σ qv1 | exact dr_Ex_due_47_11 _ σ (vin_dec (by decide))
theorem dr_Ex_due_49_10 (v1 : Int32) (σ : nS) (qv1 : vp_in v1 16) : vp_in (s_Ex_due_49_10 v1 σ) 16 := by
  unfold s_Ex_due_49_10
  repeat' split
  all_goals first | exact vin_dec (by decide) | exact qv1 | exact dr_Ex_due_4_11 σ | exact dr_Ex_due_4_11 v1 σ qv1 | exact dr_Ex_due_4_11 _ σ (vin_dec (by decide))
theorem dr_Ex_due_47_10 (σ : nS) : vp_in (s_Ex_due_47_10 σ) 16 := by
  unfold s_Ex_due_47_10
  repeat' split
  all_goals first | exact vin_dec (by decide) | exact dr_Ex_due_49_10 σ | exact dr_Ex_due_49_10 v1 σ qv1 | exact dr_Ex_due_49_10 _ σ (vin_dec (by decide))
theorem dr_Ex_due_4_10 (v1 : Int32) (σ : nS) (qv1 : vp_in v1 16) : vp_in (s_Ex_due_4_10 v1 σ) 16 := by
  unfold s_Ex_due_4_10
  repeat' split
  all_goals first | exact vin_dec (by decide) | exact qv1 | exact dr_Ex_due_49_10 σ | exact dr_Ex_due_49_10 v1 σ qv1 | exact dr_Ex_due_49_10 _ σ (vin_dec (by decide)) | exact dr_Ex_due_47_10 σ | exact dr_Ex_due_47_10 v1 σ qv1 | exact dr_Ex_due_47_10 _ σ (vin_dec (by decide))
theorem dr_Ex_due_49_9 (v1 : Int32) (σ : nS) (qv1 : vp_in v1 16) : vp_in (s_Ex_due_49_9 v1 σ) 16 := by
  unfold s_Ex_due_49_9
  repeat' split
  all_goals first | exact vin_dec (by decide) | exact qv1 | exact dr_Ex_due_4_10 σ | exact dr_Ex_due_4_10 v1 σ qv1 | exact dr_Ex_due_4_10 _ σ (vin_dec (by decide))
theorem dr_Ex_due_47_9 (σ : nS) : vp_in (s_Ex_due_47_9 σ) 16 := by
  unfold s_Ex_due_47_9
  repeat' split
  all_goals first | exact vin_dec (by decide) | exact dr_Ex_due_49_9 σ | exact dr_Ex_due_49_9 v1 σ qv1 | exact dr_Ex_due_49_9 _ σ (vin_dec (by decide))
theorem dr_Ex_due_4_9 (v1 : Int32) (σ : nS) (qv1 : vp_in v1 16) : vp_in (s_Ex_due_4_9 v1 σ) 16 := by
  unfold s_Ex_due_4_9
  repeat' split
  all_goals first | exact vin_dec (by decide) | exact qv1 | exact dr_Ex_due_49_9 σ | exact dr_Ex_due_49_9 v1 σ qv1 | exact dr_Ex_due_49_9 _ σ (vin_dec (by decide)) | exact dr_Ex_due_47_9 σ | exact dr_Ex_due_47_9 v1 σ qv1 | exact dr_Ex_due_47_9 _ σ (vin_dec (by decide))
theorem dr_Ex_due_49_8 (v1 : Int32) (σ : nS) (qv1 : vp_in v1 16) : vp_in (s_Ex_due_49_8 v1 σ) 16 := by
  unfold s_Ex_due_49_8
  repeat' split
  all_goals first | exact vin_dec (by decide) | exact qv1 | exact dr_Ex_due_4_9 σ | exact dr_Ex_due_4_9 v1 σ qv1 | exact dr_Ex_due_4_9 _ σ (vin_dec (by decide))
theorem dr_Ex_due_47_8 (σ : nS) : vp_in (s_Ex_due_47_8 σ) 16 := by
  unfold s_Ex_due_47_8
  repeat' split
  all_goals first | exact vin_dec (by decide) | exact dr_Ex_due_49_8 σ | exact dr_Ex_due_49_8 v1 σ qv1 | exact dr_Ex_due_49_8 _ σ (vin_dec (by decide))
theorem dr_Ex_due_4_8 (v1 : Int32) (σ : nS) (qv1 : vp_in v1 16) : vp_in (s_Ex_due_4_8 v1 σ) 16 := by
  unfold s_Ex_due_4_8
  repeat' split
  all_goals first | exact vin_dec (by decide) | exact qv1 | exact dr_Ex_due_49_8 σ | exact dr_Ex_due_49_8 v1 σ qv1 | exact dr_Ex_due_49_8 _ σ (vin_dec (by decide)) | exact dr_Ex_due_47_8 σ | exact dr_Ex_due_47_8 v1 σ qv1 | exact dr_Ex_due_47_8 _ σ (vin_dec (by decide))
theorem dr_Ex_due_49_7 (v1 : Int32) (σ : nS) (qv1 : vp_in v1 16) : vp_in (s_Ex_due_49_7 v1 σ) 16 := by
  unfold s_Ex_due_49_7
  repeat' split
  all_goals first | exact vin_dec (by decide) | exact qv1 | exact dr_Ex_due_4_8 σ | exact dr_Ex_due_4_8 v1 σ qv1 | exact dr_Ex_due_4_8 _ σ (vin_dec (by decide))
theorem dr_Ex_due_47_7 (σ : nS) : vp_in (s_Ex_due_47_7 σ) 16 := by
  unfold s_Ex_due_47_7
  repeat' split
  all_goals first | exact vin_dec (by decide) | exact dr_Ex_due_49_7 σ | exact dr_Ex_due_49_7 v1 σ qv1 | exact dr_Ex_due_49_7 _ σ (vin_dec (by decide))
theorem dr_Ex_due_4_7 (v1 : Int32) (σ : nS) (qv1 : vp_in v1 16) : vp_in (s_Ex_due_4_7 v1 σ) 16 := by
  unfold s_Ex_due_4_7
  repeat' split
  all_goals first | exact vin_dec (by decide) | exact qv1 | exact dr_Ex_due_49_7 σ | exact dr_Ex_due_49_7 v1 σ qv1 | exact dr_Ex_due_49_7 _ σ (vin_dec (by decide)) | exact dr_Ex_due_47_7 σ | exact dr_Ex_due_47_7 v1 σ qv1 | exact dr_Ex_due_47_7 _ σ (vin_dec (by decide))
theorem dr_Ex_due_49_6 (v1 : Int32) (σ : nS) (qv1 : vp_in v1 16) : vp_in (s_Ex_due_49_6 v1 σ) 16 := by
  unfold s_Ex_due_49_6
  repeat' split
  all_goals first | exact vin_dec (by decide) | exact qv1 | exact dr_Ex_due_4_7 σ | exact dr_Ex_due_4_7 v1 σ qv1 | exact dr_Ex_due_4_7 _ σ (vin_dec (by decide))
theorem dr_Ex_due_47_6 (σ : nS) : vp_in (s_Ex_due_47_6 σ) 16 := by
  unfold s_Ex_due_47_6
  repeat' split
  all_goals first | exact vin_dec (by decide) | exact dr_Ex_due_49_6 σ | exact dr_Ex_due_49_6 v1 σ qv1 | exact dr_Ex_due_49_6 _ σ (vin_dec (by decide))
theorem dr_Ex_due_4_6 (v1 : Int32) (σ : nS) (qv1 : vp_in v1 16) : vp_in (s_Ex_due_4_6 v1 σ) 16 := by
  unfold s_Ex_due_4_6
  repeat' split
  all_goals first | exact vin_dec (by decide) | exact qv1 | exact dr_Ex_due_49_6 σ | exact dr_Ex_due_49_6 v1 σ qv1 | exact dr_Ex_due_49_6 _ σ (vin_dec (by decide)) | exact dr_Ex_due_47_6 σ | exact dr_Ex_due_47_6 v1 σ qv1 | exact dr_Ex_due_47_6 _ σ (vin_dec (by decide))
theorem dr_Ex_due_49_5 (v1 : Int32) (σ : nS) (qv1 : vp_in v1 16) : vp_in (s_Ex_due_49_5 v1 σ) 16 := by
  unfold s_Ex_due_49_5
  repeat' split
  all_goals first | exact vin_dec (by decide) | exact qv1 | exact dr_Ex_due_4_6 σ | exact dr_Ex_due_4_6 v1 σ qv1 | exact dr_Ex_due_4_6 _ σ (vin_dec (by decide))
theorem dr_Ex_due_47_5 (σ : nS) : vp_in (s_Ex_due_47_5 σ) 16 := by
  unfold s_Ex_due_47_5
  repeat' split
  all_goals first | exact vin_dec (by decide) | exact dr_Ex_due_49_5 σ | exact dr_Ex_due_49_5 v1 σ qv1 | exact dr_Ex_due_49_5 _ σ (vin_dec (by decide))
theorem dr_Ex_due_4_5 (v1 : Int32) (σ : nS) (qv1 : vp_in v1 16) : vp_in (s_Ex_due_4_5 v1 σ) 16 := by
  unfold s_Ex_due_4_5
  repeat' split
  all_goals first | exact vin_dec (by decide) | exact qv1 | exact dr_Ex_due_49_5 σ | exact dr_Ex_due_49_5 v1 σ qv1 | exact dr_Ex_due_49_5 _ σ (vin_dec (by decide)) | exact dr_Ex_due_47_5 σ | exact dr_Ex_due_47_5 v1 σ qv1 | exact dr_Ex_due_47_5 _ σ (vin_dec (by decide))
theorem dr_Ex_due_49_4 (v1 : Int32) (σ : nS) (qv1 : vp_in v1 16) : vp_in (s_Ex_due_49_4 v1 σ) 16 := by
  unfold s_Ex_due_49_4
  repeat' split
  all_goals first | exact vin_dec (by decide) | exact qv1 | exact dr_Ex_due_4_5 σ | exact dr_Ex_due_4_5 v1 σ qv1 | exact dr_Ex_due_4_5 _ σ (vin_dec (by decide))
theorem dr_Ex_due_47_4 (σ : nS) : vp_in (s_Ex_due_47_4 σ) 16 := by
  unfold s_Ex_due_47_4
  repeat' split
  all_goals first | exact vin_dec (by decide) | exact dr_Ex_due_49_4 σ | exact dr_Ex_due_49_4 v1 σ qv1 | exact dr_Ex_due_49_4 _ σ (vin_dec (by decide))
theorem dr_Ex_due_4_4 (v1 : Int32) (σ : nS) (qv1 : vp_in v1 16) : vp_in (s_Ex_due_4_4 v1 σ) 16 := by
  unfold s_Ex_due_4_4
  repeat' split
  all_goals first | exact vin_dec (by decide) | exact qv1 | exact dr_Ex_due_49_4 σ | exact dr_Ex_due_49_4 v1 σ qv1 | exact dr_Ex_due_49_4 _ σ (vin_dec (by decide)) | exact dr_Ex_due_47_4 σ | exact dr_Ex_due_47_4 v1 σ qv1 | exact dr_Ex_due_47_4 _ σ (vin_dec (by decide))
theorem dr_Ex_due_49_3 (v1 : Int32) (σ : nS) (qv1 : vp_in v1 16) : vp_in (s_Ex_due_49_3 v1 σ) 16 := by
  unfold s_Ex_due_49_3
  repeat' split
  all_goals first | exact vin_dec (by decide) | exact qv1 | exact dr_Ex_due_4_4 σ | exact dr_Ex_due_4_4 v1 σ qv1 | exact dr_Ex_due_4_4 _ σ (vin_dec (by decide))
theorem dr_Ex_due_47_3 (σ : nS) : vp_in (s_Ex_due_47_3 σ) 16 := by
  unfold s_Ex_due_47_3
  repeat' split
  all_goals first | exact vin_dec (by decide) | exact dr_Ex_due_49_3 σ | exact dr_Ex_due_49_3 v1 σ qv1 | exact dr_Ex_due_49_3 _ σ (vin_dec (by decide))
theorem dr_Ex_due_4_3 (v1 : Int32) (σ : nS) (qv1 : vp_in v1 16) : vp_in (s_Ex_due_4_3 v1 σ) 16 := by
  unfold s_Ex_due_4_3
  repeat' split
  all_goals first | exact vin_dec (by decide) | exact qv1 | exact dr_Ex_due_49_3 σ | exact dr_Ex_due_49_3 v1 σ qv1 | exact dr_Ex_due_49_3 _ σ (vin_dec (by decide)) | exact dr_Ex_due_47_3 σ | exact dr_Ex_due_47_3 v1 σ qv1 | exact dr_Ex_due_47_3 _ σ (vin_dec (by decide))
theorem dr_Ex_due_49_2 (v1 : Int32) (σ : nS) (qv1 : vp_in v1 16) : vp_in (s_Ex_due_49_2 v1 σ) 16 := by
  unfold s_Ex_due_49_2
  repeat' split
  all_goals first | exact vin_dec (by decide) | exact qv1 | exact dr_Ex_due_4_3 σ | exact dr_Ex_due_4_3 v1 σ qv1 | exact dr_Ex_due_4_3 _ σ (vin_dec (by decide))
theorem dr_Ex_due_47_2 (σ : nS) : vp_in (s_Ex_due_47_2 σ) 16 := by
  unfold s_Ex_due_47_2
  repeat' split
  all_goals first | exact vin_dec (by decide) | exact dr_Ex_due_49_2 σ | exact dr_Ex_due_49_2 v1 σ qv1 | exact dr_Ex_due_49_2 _ σ (vin_dec (by decide))
theorem dr_Ex_due_4_2 (σ : nS) : vp_in (s_Ex_due_4_2 σ) 16 := by
  unfold s_Ex_due_4_2
  repeat' split
  all_goals first | exact vin_dec (by decide) | exact dr_Ex_due_49_2 σ | exact dr_Ex_due_49_2 v1 σ qv1 | exact dr_Ex_due_49_2 _ σ (vin_dec (by decide)) | exact dr_Ex_due_47_2 σ | exact dr_Ex_due_47_2 v1 σ qv1 | exact dr_Ex_due_47_2 _ σ (vin_dec (by decide))
theorem dr_Ex_due (σ : nS) : vp_in (s_Ex_due σ) 16 := by
  unfold s_Ex_due
  repeat' split
  all_goals first | exact vin_dec (by decide) | exact dr_Ex_due_4_2 σ | exact dr_Ex_due_4_2 v1 σ qv1 | exact dr_Ex_due_4_2 _ σ (vin_dec (by decide))
theorem dr_Mo_due_80 (σ : nS) : vp_in (s_Mo_due_80 σ) 16 := by
  unfold s_Mo_due_80
  repeat' split
  all_goals first | exact vin_dec (by decide)
theorem dr_Mo_due_5_1 (v1 : Int32) (σ : nS) (qv1 : vp_in v1 16) : vp_in (s_Mo_due_5_1 v1 σ) 16 := by
  unfold s_Mo_due_5_1
  repeat' split
  all_goals first | exact vin_dec (by decide) | exact qv1 | exact dr_Mo_due_80 σ | exact dr_Mo_due_80 v1 σ qv1 | exact dr_Mo_due_80 _ σ (vin_dec (by decide))
theorem dr_Mo_due_49_2 (v1 : Int32) (σ : nS) (qv1 : vp_in v1 16) : vp_in (s_Mo_due_49_2 v1 σ) 16 := by
  unfold s_Mo_due_49_2
  repeat' split
  all_goals first | exact vin_dec (by decide) | exact qv1 | exact dr_Mo_due_5_1 σ | exact dr_Mo_due_5_1 v1 σ qv1 | exact dr_Mo_due_5_1 _ σ (vin_dec (by decide))
theorem dr_Mo_due_47_2 (σ : nS) : vp_in (s_Mo_due_47_2 σ) 16 := by
  unfold s_Mo_due_47_2
  repeat' split
  all_goals first | exact vin_dec (by decide) | exact dr_Mo_due_49_2 σ | exact dr_Mo_due_49_2 v1 σ qv1 | exact dr_Mo_due_49_2 _ σ (vin_dec (by decide))
theorem dr_Mo_due_5_2 (v1 : Int32) (σ : nS) (qv1 : vp_in v1 16) : vp_in (s_Mo_due_5_2 v1 σ) 16 := by
  unfold s_Mo_due_5_2
  repeat' split
  all_goals first | exact vin_dec (by decide) | exact qv1 | exact dr_Mo_due_49_2 σ | exact dr_Mo_due_49_2 v1 σ qv1 | exact dr_Mo_due_49_2 _ σ (vin_dec (by decide)) | exact dr_Mo_due_47_2 σ | exact dr_Mo_due_47_2 v1 σ qv1 | exact dr_Mo_due_47_2 _ σ (vin_dec (by decide))
theorem dr_Mo_due_49_3 (v1 : Int32) (σ : nS) (qv1 : vp_in v1 16) : vp_in (s_Mo_due_49_3 v1 σ) 16 := by
  unfold s_Mo_due_49_3
  repeat' split
  all_goals first | exact vin_dec (by decide) | exact qv1 | exact dr_Mo_due_5_2 σ | exact dr_Mo_due_5_2 v1 σ qv1 | exact dr_Mo_due_5_2 _ σ (vin_dec (by decide))
theorem dr_Mo_due_47_3 (σ : nS) : vp_in (s_Mo_due_47_3 σ) 16 := by
  unfold s_Mo_due_47_3
  repeat' split
  all_goals first | exact vin_dec (by decide) | exact dr_Mo_due_49_3 σ | exact dr_Mo_due_49_3 v1 σ qv1 | exact dr_Mo_due_49_3 _ σ (vin_dec (by decide))
theorem dr_Mo_due_5_3 (v1 : Int32) (σ : nS) (qv1 : vp_in v1 16) : vp_in (s_Mo_due_5_3 v1 σ) 16 := by
  unfold s_Mo_due_5_3
  repeat' split
  all_goals first | exact vin_dec (by decide) | exact qv1 | exact dr_Mo_due_49_3 σ | exact dr_Mo_due_49_3 v1 σ qv1 | exact dr_Mo_due_49_3 _ σ (vin_dec (by decide)) | exact dr_Mo_due_47_3 σ | exact dr_Mo_due_47_3 v1 σ qv1 | exact dr_Mo_due_47_3 _ σ (vin_dec (by decide))
theorem dr_Mo_due_49_4 (v1 : Int32) (σ : nS) (qv1 : vp_in v1 16) : vp_in (s_Mo_due_49_4 v1 σ) 16 := by
  unfold s_Mo_due_49_4
  repeat' split
  all_goals first | exact vin_dec (by decide) | exact qv1 | exact dr_Mo_due_5_3 σ | exact dr_Mo_due_5_3 v1 σ qv1 | exact dr_Mo_due_5_3 _ σ (vin_dec (by decide))
theorem dr_Mo_due_47_4 (σ : nS) : vp_in (s_Mo_due_47_4 σ) 16 := by
  unfold s_Mo_due_47_4
  repeat' split
  all_goals first | exact vin_dec (by decide) | exact dr_Mo_due_49_4 σ | exact dr_Mo_due_49_4 v1 σ qv1 | exact dr_Mo_due_49_4 _ σ (vin_dec (by decide))
theorem dr_Mo_due_5_4 (v1 : Int32) (σ : nS) (qv1 : vp_in v1 16) : vp_in (s_Mo_due_5_4 v1 σ) 16 := by
  unfold s_Mo_due_5_4
  repeat' split
  all_goals first | exact vin_dec (by decide) | exact qv1 | exact dr_Mo_due_49_4 σ | exact dr_Mo_due_49_4 v1 σ qv1 | exact dr_Mo_due_49_4 _ σ (vin_dec (by decide)) | exact dr_Mo_due_47_4 σ | exact dr_Mo_due_47_4 v1 σ qv1 | exact dr_Mo_due_47_4 _ σ (vin_dec (by decide))
theorem dr_Mo_due_49_5 (v1 : Int32) (σ : nS) (qv1 : vp_in v1 16) : vp_in (s_Mo_due_49_5 v1 σ) 16 := by
  unfold s_Mo_due_49_5
  repeat' split
  all_goals first | exact vin_dec (by decide) | exact qv1 | exact dr_Mo_due_5_4 σ | exact dr_Mo_due_5_4 v1 σ qv1 | exact dr_Mo_due_5_4 _ σ (vin_dec (by decide))
theorem dr_Mo_due_47_5 (σ : nS) : vp_in (s_Mo_due_47_5 σ) 16 := by
  unfold s_Mo_due_47_5
  repeat' split
  all_goals first | exact vin_dec (by decide) | exact dr_Mo_due_49_5 σ | exact dr_Mo_due_49_5 v1 σ qv1 | exact dr_Mo_due_49_5 _ σ (vin_dec (by decide))
theorem dr_Mo_due_5_5 (v1 : Int32) (σ : nS) (qv1 : vp_in v1 16) : vp_in (s_Mo_due_5_5 v1 σ) 16 := by
  unfold s_Mo_due_5_5
  repeat' split
  all_goals first | exact vin_dec (by decide) | exact qv1 | exact dr_Mo_due_49_5 σ | exact dr_Mo_due_49_5 v1 σ qv1 | exact dr_Mo_due_49_5 _ σ (vin_dec (by decide)) | exact dr_Mo_due_47_5 σ | exact dr_Mo_due_47_5 v1 σ qv1 | exact dr_Mo_due_47_5 _ σ (vin_dec (by decide))
theorem dr_Mo_due_49_6 (v1 : Int32) (σ : nS) (qv1 : vp_in v1 16) : vp_in (s_Mo_due_49_6 v1 σ) 16 := by
  unfold s_Mo_due_49_6
  repeat' split
  all_goals first | exact vin_dec (by decide) | exact qv1 | exact dr_Mo_due_5_5 σ | exact dr_Mo_due_5_5 v1 σ qv1 | exact dr_Mo_due_5_5 _ σ (vin_dec (by decide))
theorem dr_Mo_due_47_6 (σ : nS) : vp_in (s_Mo_due_47_6 σ) 16 := by
  unfold s_Mo_due_47_6
  repeat' split
  all_goals first | exact vin_dec (by decide) | exact dr_Mo_due_49_6 σ | exact dr_Mo_due_49_6 v1 σ qv1 | exact dr_Mo_due_49_6 _ σ (vin_dec (by decide))
theorem dr_Mo_due_5_6 (v1 : Int32) (σ : nS) (qv1 : vp_in v1 16) : vp_in (s_Mo_due_5_6 v1 σ) 16 := by
  unfold s_Mo_due_5_6
  repeat' split
  all_goals first | exact vin_dec (by decide) | exact qv1 | exact dr_Mo_due_49_6 σ | exact dr_Mo_due_49_6 v1 σ qv1 | exact dr_Mo_due_49_6 _ σ (vin_dec (by decide)) | exact dr_Mo_due_47_6 σ | exact dr_Mo_due_47_6 v1 σ qv1 | exact dr_Mo_due_47_6 _ σ (vin_dec (by decide))
theorem dr_Mo_due_49_7 (v1 : Int32) (σ : nS) (qv1 : vp_in v1 16) : vp_in (s_Mo_due_49_7 v1 σ) 16 := by
  unfold s_Mo_due_49_7
  repeat' split
  all_goals first | exact vin_dec (by decide) | exact qv1 | exact dr_Mo_due_5_6 σ | exact dr_Mo_due_5_6 v1 σ qv1 | exact dr_Mo_due_5_6 _ σ (vin_dec (by decide))
theorem dr_Mo_due_47_7 (σ : nS) : vp_in (s_Mo_due_47_7 σ) 16 := by
  unfold s_Mo_due_47_7
  repeat' split
  all_goals first | exact vin_dec (by decide) | exact dr_Mo_due_49_7 σ | exact dr_Mo_due_49_7 v1 σ qv1 | exact dr_Mo_due_49_7 _ σ (vin_dec (by decide))
theorem dr_Mo_due_5_7 (v1 : Int32) (σ : nS) (qv1 : vp_in v1 16) : vp_in (s_Mo_due_5_7 v1 σ) 16 := by
  unfold s_Mo_due_5_7
  repeat' split
  all_goals first | exact vin_dec (by decide) | exact qv1 | exact dr_Mo_due_49_7 σ | exact dr_Mo_due_49_7 v1 σ qv1 | exact dr_Mo_due_49_7 _ σ (vin_dec (by decide)) | exact dr_Mo_due_47_7 σ | exact dr_Mo_due_47_7 v1 σ qv1 | exact dr_Mo_due_47_7 _ σ (vin_dec (by decide))
theorem dr_Mo_due_49_8 (v1 : Int32) (σ : nS) (qv1 : vp_in v1 16) : vp_in (s_Mo_due_49_8 v1 σ) 16 := by
  unfold s_Mo_due_49_8
  repeat' split
  all_goals first | exact vin_dec (by decide) | exact qv1 | exact dr_Mo_due_5_7 σ | exact dr_Mo_due_5_7 v1 σ qv1 | exact dr_Mo_due_5_7 _ σ (vin_dec (by decide))
theorem dr_Mo_due_47_8 (σ : nS) : vp_in (s_Mo_due_47_8 σ) 16 := by
  unfold s_Mo_due_47_8
  repeat' split
  all_goals first | exact vin_dec (by decide) | exact dr_Mo_due_49_8 σ | exact dr_Mo_due_49_8 v1 σ qv1 | exact dr_Mo_due_49_8 _ σ (vin_dec (by decide))
theorem dr_Mo_due_5_8 (v1 : Int32) (σ : nS) (qv1 : vp_in v1 16) : vp_in (s_Mo_due_5_8 v1 σ) 16 := by
  unfold s_Mo_due_5_8
  repeat' split
  all_goals first | exact vin_dec (by decide) | exact qv1 | exact dr_Mo_due_49_8 σ | exact dr_Mo_due_49_8 v1 σ qv1 | exact dr_Mo_due_49_8 _ σ (vin_dec (by decide)) | exact dr_Mo_due_47_8 σ | exact dr_Mo_due_47_8 v1 σ qv1 | exact dr_Mo_due_47_8 _ σ (vin_dec (by decide))
theorem dr_Mo_due_49_9 (v1 : Int32) (σ : nS) (qv1 : vp_in v1 16) : vp_in (s_Mo_due_49_9 v1 σ) 16 := by
  unfold s_Mo_due_49_9
  repeat' split
  all_goals first | exact vin_dec (by decide) | exact qv1 | exact dr_Mo_due_5_8 σ | exact dr_Mo_due_5_8 v1 σ qv1 | exact dr_Mo_due_5_8 _ σ (vin_dec (by decide))
theorem dr_Mo_due_47_9 (σ : nS) : vp_in (s_Mo_due_47_9 σ) 16 := by
  unfold s_Mo_due_47_9
  repeat' split
  all_goals first | exact vin_dec (by decide) | exact dr_Mo_due_49_9 σ | exact dr_Mo_due_49_9 v1 σ qv1 | exact dr_Mo_due_49_9 _ σ (vin_dec (by decide))
theorem dr_Mo_due_5_9 (v1 : Int32) (σ : nS) (qv1 : vp_in v1 16) : vp_in (s_Mo_due_5_9 v1 σ) 16 := by
  unfold s_Mo_due_5_9
  repeat' split
  all_goals first | exact vin_dec (by decide) | exact qv1 | exact dr_Mo_due_49_9 σ | exact dr_Mo_due_49_9 v1 σ qv1 | exact dr_Mo_due_49_9 _ σ (vin_dec (by decide)) | exact dr_Mo_due_47_9 σ | exact dr_Mo_due_47_9 v1 σ qv1 | exact dr_Mo_due_47_9 _ σ (vin_dec (by decide))
theorem dr_Mo_due_49_10 (v1 : Int32) (σ : nS) (qv1 : vp_in v1 16) : vp_in (s_Mo_due_49_10 v1 σ) 16 := by
  unfold s_Mo_due_49_10
  repeat' split
  all_goals first | exact vin_dec (by decide) | exact qv1 | exact dr_Mo_due_5_9 σ | exact dr_Mo_due_5_9 v1 σ qv1 | exact dr_Mo_due_5_9 _ σ (vin_dec (by decide))
theorem dr_Mo_due_47_10 (σ : nS) : vp_in (s_Mo_due_47_10 σ) 16 := by
  unfold s_Mo_due_47_10
  repeat' split
  all_goals first | exact vin_dec (by decide) | exact dr_Mo_due_49_10 σ | exact dr_Mo_due_49_10 v1 σ qv1 | exact dr_Mo_due_49_10 _ σ (vin_dec (by decide))
theorem dr_Mo_due_5_10 (v1 : Int32) (σ : nS) (qv1 : vp_in v1 16) : vp_in (s_Mo_due_5_10 v1 σ) 16 := by
  unfold s_Mo_due_5_10
  repeat' split
  all_goals first | exact vin_dec (by decide) | exact qv1 | exact dr_Mo_due_49_10 σ | exact dr_Mo_due_49_10 v1 σ qv1 | exact dr_Mo_due_49_10 _ σ (vin_dec (by decide)) | exact dr_Mo_due_47_10 σ | exact dr_Mo_due_47_10 v1 σ qv1 | exact dr_Mo_due_47_10 _ σ (vin_dec (by decide))
theorem dr_Mo_due_49_11 (v1 : Int32) (σ : nS) (qv1 : vp_in v1 16) : vp_in (s_Mo_due_49_11 v1 σ) 16 := by
  unfold s_Mo_due_49_11
  repeat' split
  all_goals first | exact vin_dec (by decide) | exact qv1 | exact dr_Mo_due_5_10 σ | exact dr_Mo_due_5_10 v1 σ qv1 | exact dr_Mo_due_5_10 _ σ (vin_dec (by decide))
theorem dr_Mo_due_47_11 (σ : nS) : vp_in (s_Mo_due_47_11 σ) 16 := by
  unfold s_Mo_due_47_11
  repeat' split
  all_goals first | exact vin_dec (by decide) | exact dr_Mo_due_49_11 σ | exact dr_Mo_due_49_11 v1 σ qv1 | exact dr_Mo_due_49_11 _ σ (vin_dec (by decide))
theorem dr_Mo_due_5_11 (v1 : Int32) (σ : nS) (qv1 : vp_in v1 16) : vp_in (s_Mo_due_5_11 v1 σ) 16 := by
  unfold s_Mo_due_5_11
  repeat' split
  all_goals first | exact vin_dec (by decide) | exact qv1 | exact dr_Mo_due_49_11 σ | exact dr_Mo_due_49_11 v1 σ qv1 | exact dr_Mo_due_49_11 _ σ (vin_dec (by decide)) | exact dr_Mo_due_47_11 σ | exact dr_Mo_due_47_11 v1 σ qv1 | exact dr_Mo_due_47_11 _ σ (vin_dec (by decide))
theorem dr_Mo_due_49_12 (v1 : Int32) (σ : nS) (qv1 : vp_in v1 16) : vp_in (s_Mo_due_49_12 v1 σ) 16 := by
  unfold s_Mo_due_49_12
  repeat' split
  all_goals first | exact vin_dec (by decide) | exact qv1 | exact dr_Mo_due_5_11 σ | exact dr_Mo_due_5_11 v1 σ qv1 | exact dr_Mo_due_5_11 _ σ (vin_dec (by decide))
theorem dr_Mo_due_47_12 (σ : nS) : vp_in (s_Mo_due_47_12 σ) 16 := by
  unfold s_Mo_due_47_12
  repeat' split
  all_goals first | exact vin_dec (by decide) | exact dr_Mo_due_49_12 σ | exact dr_Mo_due_49_12 v1 σ qv1 | exact dr_Mo_due_49_12 _ σ (vin_dec (by decide))
theorem dr_Mo_due_5_12 (v1 : Int32) (σ : nS) (qv1 : vp_in v1 16) : vp_in (s_Mo_due_5_12 v1 σ) 16 := by
  unfold s_Mo_due_5_12
  repeat' split
  all_goals first | exact vin_dec (by decide) | exact qv1 | exact dr_Mo_due_49_12 σ | exact dr_Mo_due_49_12 v1 σ qv1 | exact dr_Mo_due_49_12 _ σ (vin_dec (by decide)) | exact dr_Mo_due_47_12 σ | exact dr_Mo_due_47_12 v1 σ qv1 | exact dr_Mo_due_47_12 _ σ (vin_dec (by decide))
theorem dr_Mo_due_49_13 (v1 : Int32) (σ : nS) (qv1 : vp_in v1 16) : vp_in (s_Mo_due_49_13 v1 σ) 16 := by
  unfold s_Mo_due_49_13
  repeat' split
  all_goals first | exact vin_dec (by decide) | exact qv1 | exact dr_Mo_due_5_12 σ | exact dr_Mo_due_5_12 v1 σ qv1 | exact dr_Mo_due_5_12 _ σ (vin_dec (by decide))
theorem dr_Mo_due_47_13 (σ : nS) : vp_in (s_Mo_due_47_13 σ) 16 := by
  unfold s_Mo_due_47_13
  repeat' split
  all_goals first | exact vin_dec (by decide) | exact dr_Mo_due_49_13 σ | exact dr_Mo_due_49_13 v1 σ qv1 | exact dr_Mo_due_49_13 _ σ (vin_dec (by decide))
theorem dr_Mo_due_5_13 (v1 : Int32) (σ : nS) (qv1 : vp_in v1 16) : vp_in (s_Mo_due_5_13 v1 σ) 16 := by
  unfold s_Mo_due_5_13
  repeat' split
  all_goals first | exact vin_dec (by decide) | exact qv1 | exact dr_Mo_due_49_13 σ | exact dr_Mo_due_49_13 v1 σ qv1 | exact dr_Mo_due_49_13 _ σ (vin_dec (by decide)) | exact dr_Mo_due_47_13 σ | exact dr_Mo_due_47_13 v1 σ qv1 | exact dr_Mo_due_47_13 _ σ (vin_dec (by decide))
theorem dr_Mo_due_49_14 (v1 : Int32) (σ : nS) (qv1 : vp_in v1 16) : vp_in (s_Mo_due_49_14 v1 σ) 16 := by
  unfold s_Mo_due_49_14
  repeat' split
  all_goals first | exact vin_dec (by decide) | exact qv1 | exact dr_Mo_due_5_13 σ | exact dr_Mo_due_5_13 v1 σ qv1 | exact dr_Mo_due_5_13 _ σ (vin_dec (by decide))
theorem dr_Mo_due_47_14 (σ : nS) : vp_in (s_Mo_due_47_14 σ) 16 := by
  unfold s_Mo_due_47_14
  repeat' split
  all_goals first | exact vin_dec (by decide) | exact dr_Mo_due_49_14 σ | exact dr_Mo_due_49_14 v1 σ qv1 | exact dr_Mo_due_49_14 _ σ (vin_dec (by decide))
theorem dr_Mo_due_5_14 (v1 : Int32) (σ : nS) (qv1 : vp_in v1 16) : vp_in (s_Mo_due_5_14 v1 σ) 16 := by
  unfold s_Mo_due_5_14
  repeat' split
  all_goals first | exact vin_dec (by decide) | exact qv1 | exact dr_Mo_due_49_14 σ | exact dr_Mo_due_49_14 v1 σ qv1 | exact dr_Mo_due_49_14 _ σ (vin_dec (by decide)) | exact dr_Mo_due_47_14 σ | exact dr_Mo_due_47_14 v1 σ qv1 | exact dr_Mo_due_47_14 _ σ (vin_dec (by decide))
theorem dr_Mo_due_49_15 (v1 : Int32) (σ : nS) (qv1 : vp_in v1 16) : vp_in (s_Mo_due_49_15 v1 σ) 16 := by
  unfold s_Mo_due_49_15
  repeat' split
  all_goals first | exact vin_dec (by decide) | exact qv1 | exact dr_Mo_due_5_14 σ | exact dr_Mo_due_5_14 v1 σ qv1 | exact dr_Mo_due_5_14 _ σ (vin_dec (by decide))
theorem dr_Mo_due_47_15 (σ : nS) : vp_in (s_Mo_due_47_15 σ) 16 := by
  unfold s_Mo_due_47_15
  repeat' split
  all_goals first | exact vin_dec (by decide) | exact dr_Mo_due_49_15 σ | exact dr_Mo_due_49_15 v1 σ qv1 | exact dr_Mo_due_49_15 _ σ (vin_dec (by decide))
theorem dr_Mo_due_5_15 (σ : nS) : vp_in (s_Mo_due_5_15 σ) 16 := by
  unfold s_Mo_due_5_15
  repeat' split
  all_goals first | exact vin_dec (by decide) | exact dr_Mo_due_49_15 σ | exact dr_Mo_due_49_15 v1 σ qv1 | exact dr_Mo_due_49_15 _ σ (vin_dec (by decide)) | exact dr_Mo_due_47_15 σ | exact dr_Mo_due_47_15 v1 σ qv1 | exact dr_Mo_due_47_15 _ σ (vin_dec (by decide))
theorem dr_Mo_due (σ : nS) : vp_in (s_Mo_due σ) 16 := by
  unfold s_Mo_due
  repeat' split
  all_goals first | exact vin_dec (by decide) | exact dr_Mo_due_5_15 σ | exact dr_Mo_due_5_15 v1 σ qv1 | exact dr_Mo_due_5_15 _ σ (vin_dec (by decide))
theorem due_in (σ : nS) : vp_in (s_Ex_due σ) 16 := dr_Ex_due σ
theorem mdue_in (σ : nS) : vp_in (s_Mo_due σ) 16 := dr_Mo_due σ
theorem vin_nI {n k : Nat} {x : Int32} (hx : x = nI n) (h : n < k) (hk : k < 2 ^ 31) : vp_in x k := by subst hx; exact vp_in_nI h hk
theorem cp_hi (x : Int32) : ∃ n : Nat, n ≤ 1 ∧ (x &&& 8) = nI (8 * n) := by
  by_cases h : x.toBitVec.getLsbD 3 = true
  · refine ⟨1, Nat.le_refl _, ?_⟩
    apply Int32.toBitVec_inj.mp
    apply BitVec.eq_of_getLsbD_eq
    intro i hi
    have : i < 32 := hi
    have hall : ∀ j : Nat, j < 32 → ((8 : Int32).toBitVec.getLsbD j = true ↔ j = 3) := by decide
    have h8 : (nI (8 * 1)).toBitVec = (8 : Int32).toBitVec := by decide
    rw [h8, Int32.toBitVec_and, BitVec.getLsbD_and]
    by_cases hi3 : i = 3
    · subst hi3; rw [h]; rfl
    · have : (8 : Int32).toBitVec.getLsbD i = false := by
        cases hb : (8 : Int32).toBitVec.getLsbD i with
        | false => rfl
        | true => exact absurd ((hall i this).mp hb) hi3
      rw [this, Bool.and_false]
  · refine ⟨0, by decide, ?_⟩
    apply Int32.toBitVec_inj.mp
    apply BitVec.eq_of_getLsbD_eq
    intro i hi
    have : i < 32 := hi
    have hall : ∀ j : Nat, j < 32 → ((8 : Int32).toBitVec.getLsbD j = true ↔ j = 3) := by decide
    have h8 : (nI (8 * 0)).toBitVec = (0 : Int32).toBitVec := by decide
    rw [h8, Int32.toBitVec_and, BitVec.getLsbD_and]
    by_cases hi3 : i = 3
    · subst hi3
      have : x.toBitVec.getLsbD 3 = false := by cases hb : x.toBitVec.getLsbD 3 with
        | false => rfl
        | true => exact absurd hb h
      rw [this]; rfl
    · have : (8 : Int32).toBitVec.getLsbD i = false := by
        cases hb : (8 : Int32).toBitVec.getLsbD i with
        | false => rfl
        | true => exact absurd ((hall i this).mp hb) hi3
      rw [this, Bool.and_false]
      simp
theorem vin_cp (x : Int32) : vp_in (((x >>> ((4 : Int32) &&& 31)) &&& (8 : Int32)) + (x &&& (7 : Int32))) 16 := by
  obtain ⟨n, hn, e1⟩ := cp_hi (x >>> ((4 : Int32) &&& 31))
  obtain ⟨j, hj, e2⟩ := pk_andE x (m := 7) 3 (by decide)
  rw [e1, e2, nI_add]
  exact vp_in_nI (by omega) (by decide)
theorem or_87 : ∀ n, n < 2 → ∀ j, j < 8 → nI (8 * n) ||| nI j = nI (8 * n + j) := by decide
theorem vin_mh (x : Int32) : vp_in (((x >>> ((4 : Int32) &&& 31)) &&& (8 : Int32)) ||| (x &&& (7 : Int32))) 16 := by
  obtain ⟨n, hn, e1⟩ := cp_hi (x >>> ((4 : Int32) &&& 31))
  obtain ⟨j, hj, e2⟩ := pk_andE x (m := 7) 3 (by decide)
  rw [e1, e2, or_87 n (by omega) j (by omega)]
  exact vp_in_nI (by omega) (by decide)
end
