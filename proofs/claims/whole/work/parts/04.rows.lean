def wC (cI cZ : ClassId) (a : Nat → Nat) (σ : nS) : va_W := [(a 0, .inr (0, [.ref (a 1), .ref (a 2), .ref (a 3), .ref (a 5), .ref (a 10), .ref (a 15), .ref (a 16), .int (σ 8 10), .int (σ 8 11), .int (σ 8 12), .int (σ 8 13), .int (σ 8 14)])), (a 1, .inl (cI, 16, .inl (σ 0))), (a 2, .inl (cI, 16, .inl (σ 11))), (a 3, .inr (1, [.ref (a 4)])), (a 4, .inl (cI, 256, .inl (σ 9))), (a 5, .inr (2, [.ref (a 6), .ref (a 7), .ref (a 8), .ref (a 9)])), (a 6, .inl (cI, 4, .inl (σ 5))), (a 7, .inl (cI, 4, .inl (σ 10))), (a 8, .inl (cI, 4, .inl (σ 6))), (a 9, .inl (cZ, 4, .inl (σ 7))), (a 10, .inr (3, [.ref (a 11), .ref (a 12), .ref (a 13), .ref (a 14), .int (σ 8 0), .int (σ 8 1), .int (σ 8 2), .int (σ 8 3)])), (a 11, .inl (cZ, 16, .inl (σ 1))), (a 12, .inl (cZ, 16, .inl (σ 2))), (a 13, .inl (cZ, 16, .inl (σ 3))), (a 14, .inl (cI, 16, .inl (σ 4))), (a 15, .inr (4, [.int (σ 8 4), .int (σ 8 5), .int (σ 8 6), .int (σ 8 7)])), (a 16, .inr (5, [.int (σ 8 8), .int (σ 8 9)]))]
def wM (cI cZ : ClassId) (a : Nat → Nat) (σ : nS) : va_W := [(a 0, .inr (6, [.int (σ 8 15), .ref (a 1), .ref (a 2), .int (σ 8 4), .int (σ 8 5), .int (σ 8 6), .int (σ 8 7), .ref (a 3), .ref (a 4), .ref (a 5), .ref (a 6), .int (σ 8 0), .int (σ 8 1), .int (σ 8 2), .int (σ 8 3), .int (σ 8 8), .int (σ 8 9), .int (σ 8 10), .int (σ 8 11), .int (σ 8 12), .int (σ 8 13), .int (σ 8 14), .ref (a 7), .ref (a 8), .ref (a 9), .ref (a 10)])), (a 1, .inl (cI, 1024, .inl (σ 9))), (a 2, .inl (cI, 16, .inl (σ 0))), (a 3, .inl (cI, 16, .inl (σ 4))), (a 4, .inl (cZ, 16, .inl (σ 1))), (a 5, .inl (cZ, 16, .inl (σ 2))), (a 6, .inl (cZ, 16, .inl (σ 3))), (a 7, .inl (cI, 4, .inl (σ 5))), (a 8, .inl (cI, 4, .inl (σ 10))), (a 9, .inl (cI, 4, .inl (σ 6))), (a 10, .inl (cZ, 4, .inl (σ 7)))]
theorem in_of {l : List Jvm.Cond} (h : l.all (fun w => decide (w ∈ tables_1) && goodWord w) = true) : ∀ w ∈ l, w ∈ WS := fun w hw => by
  have h1 := List.all_eq_true.mp h w hw
  simp only [Bool.and_eq_true, decide_eq_true_eq] at h1
  exact ws_tab h1.1 h1.2
theorem k_0 : Jvm.Cond.constant "java/lang/Integer" 265 1431655765 ∈ WS := ws_tab (List.mem_of_getElem? (i := 460) (by decide +kernel)) (by decide +kernel)
theorem k_1 : Jvm.Cond.constant "java/lang/Integer" 266 858993459 ∈ WS := ws_tab (List.mem_of_getElem? (i := 461) (by decide +kernel)) (by decide +kernel)
theorem k_2 : Jvm.Cond.constant "java/lang/Integer" 267 252645135 ∈ WS := ws_tab (List.mem_of_getElem? (i := 462) (by decide +kernel)) (by decide +kernel)
theorem k_3 : Jvm.Cond.methodLink "NestedCore$Exceptions" 33 ⟨"java/lang/Math", "min", "(II)I"⟩ ∈ WS := ws_tab (List.mem_of_getElem? (i := 340) (by decide +kernel)) (by decide +kernel)
theorem k_4 : Jvm.Cond.fieldLink "NestedCore" 184 "NestedCore" "FRAME" "[I" ∈ WS := ws_tab (List.mem_of_getElem? (i := 351) (by decide +kernel)) (by decide +kernel)
theorem k_5 : Jvm.Cond.constant "NestedCore$Memory" 19 65535 ∈ WS := ws_tab (List.mem_of_getElem? (i := 385) (by decide +kernel)) (by decide +kernel)
theorem k_6 : Jvm.Cond.constantLong "NestedCore$Flags" 19 4294967295 ∈ WS := ws_tab (List.mem_of_getElem? (i := 406) (by decide +kernel)) (by decide +kernel)
theorem k_7 : Jvm.Cond.methodLink "NestedCore" 160 ⟨"java/lang/System", "arraycopy", "(Ljava/lang/Object;ILjava/lang/Object;II)V"⟩ ∈ WS := ws_tab (List.mem_of_getElem? (i := 361) (by decide +kernel)) (by decide +kernel)
theorem k_8 : Jvm.Cond.constant "NestedCoreModel" 95 268435456 ∈ WS := ws_tab (List.mem_of_getElem? (i := 691) (by decide +kernel)) (by decide +kernel)
theorem k_9 : Jvm.Cond.constant "NestedCoreModel" 91 536870912 ∈ WS := ws_tab (List.mem_of_getElem? (i := 690) (by decide +kernel)) (by decide +kernel)
theorem k_10 : Jvm.Cond.constant "NestedCoreModel" 87 1073741824 ∈ WS := ws_tab (List.mem_of_getElem? (i := 689) (by decide +kernel)) (by decide +kernel)
theorem k_11 : Jvm.Cond.constant "NestedCoreModel" 83 (-2147483648) ∈ WS := ws_tab (List.mem_of_getElem? (i := 688) (by decide +kernel)) (by decide +kernel)
theorem k_12 : Jvm.Cond.constantLong "NestedCoreModel" 123 4294967295 ∈ WS := ws_tab (List.mem_of_getElem? (i := 768) (by decide +kernel)) (by decide +kernel)
theorem k_13 : Jvm.Cond.constant "NestedCoreModel" 161 46706 ∈ WS := ws_tab (List.mem_of_getElem? (i := 790) (by decide +kernel)) (by decide +kernel)
theorem k_14 : Jvm.Cond.constant "NestedCoreModel" 160 46690 ∈ WS := ws_tab (List.mem_of_getElem? (i := 789) (by decide +kernel)) (by decide +kernel)
theorem k_15 : Jvm.Cond.constant "NestedCoreModel" 162 46689 ∈ WS := ws_tab (List.mem_of_getElem? (i := 791) (by decide +kernel)) (by decide +kernel)
theorem k_16 : Jvm.Cond.constant "NestedCoreModel" 163 46705 ∈ WS := ws_tab (List.mem_of_getElem? (i := 792) (by decide +kernel)) (by decide +kernel)
theorem k_17 : Jvm.Cond.constant "NestedCoreModel" 167 48896 ∈ WS := ws_tab (List.mem_of_getElem? (i := 797) (by decide +kernel)) (by decide +kernel)
theorem k_18 : Jvm.Cond.constant "NestedCoreModel" 187 65415 ∈ WS := ws_tab (List.mem_of_getElem? (i := 708) (by decide +kernel)) (by decide +kernel)
theorem k_19 : Jvm.Cond.fieldLink "NestedCore$Areas" 15 "NestedCore$Areas" "sizes" "[I" ∈ WS := ws_tab (List.mem_of_getElem? (i := 41) (by decide +kernel)) (by decide +kernel)
theorem k_20 : Jvm.Cond.fieldLink "NestedCore$Areas" 18 "NestedCore$Areas" "rights" "[I" ∈ WS := ws_tab (List.mem_of_getElem? (i := 42) (by decide +kernel)) (by decide +kernel)
theorem k_21 : Jvm.Cond.fieldLink "NestedCore$Areas" 21 "NestedCore$Areas" "nevers" "[Z" ∈ WS := ws_tab (List.mem_of_getElem? (i := 43) (by decide +kernel)) (by decide +kernel)
theorem k_22 : Jvm.Cond.fieldLink "NestedCore$Areas" 9 "NestedCore$Areas" "starts" "[I" ∈ WS := ws_tab (List.mem_of_getElem? (i := 40) (by decide +kernel)) (by decide +kernel)
theorem k_23 : Jvm.Cond.fieldLink "NestedCore$Exceptions" 15 "NestedCore$Exceptions" "pending" "[Z" ∈ WS := ws_tab (List.mem_of_getElem? (i := 62) (by decide +kernel)) (by decide +kernel)
theorem k_24 : Jvm.Cond.fieldLink "NestedCore$Exceptions" 18 "NestedCore$Exceptions" "active" "[Z" ∈ WS := ws_tab (List.mem_of_getElem? (i := 64) (by decide +kernel)) (by decide +kernel)
theorem k_25 : Jvm.Cond.fieldLink "NestedCore$Exceptions" 21 "NestedCore$Exceptions" "priorities" "[I" ∈ WS := ws_tab (List.mem_of_getElem? (i := 66) (by decide +kernel)) (by decide +kernel)
theorem k_26 : Jvm.Cond.fieldLink "NestedCore$Exceptions" 25 "NestedCore$Exceptions" "split" "I" ∈ WS := ws_tab (List.mem_of_getElem? (i := 67) (by decide +kernel)) (by decide +kernel)
theorem k_27 : Jvm.Cond.fieldLink "NestedCore$Exceptions" 39 "NestedCore$Exceptions" "floor" "I" ∈ WS := ws_tab (List.mem_of_getElem? (i := 69) (by decide +kernel)) (by decide +kernel)
theorem k_28 : Jvm.Cond.fieldLink "NestedCore$Exceptions" 42 "NestedCore$Exceptions" "mask" "Z" ∈ WS := ws_tab (List.mem_of_getElem? (i := 71) (by decide +kernel)) (by decide +kernel)
theorem k_29 : Jvm.Cond.fieldLink "NestedCore$Exceptions" 46 "NestedCore$Exceptions" "faults" "Z" ∈ WS := ws_tab (List.mem_of_getElem? (i := 73) (by decide +kernel)) (by decide +kernel)
theorem k_30 : Jvm.Cond.fieldLink "NestedCore$Exceptions" 9 "NestedCore$Exceptions" "enabled" "[Z" ∈ WS := ws_tab (List.mem_of_getElem? (i := 60) (by decide +kernel)) (by decide +kernel)
theorem k_31 : Jvm.Cond.fieldLink "NestedCore$Flags" 13 "NestedCore$Flags" "z" "Z" ∈ WS := ws_tab (List.mem_of_getElem? (i := 99) (by decide +kernel)) (by decide +kernel)
theorem k_32 : Jvm.Cond.fieldLink "NestedCore$Flags" 16 "NestedCore$Flags" "c" "Z" ∈ WS := ws_tab (List.mem_of_getElem? (i := 100) (by decide +kernel)) (by decide +kernel)
theorem k_33 : Jvm.Cond.fieldLink "NestedCore$Flags" 21 "NestedCore$Flags" "v" "Z" ∈ WS := ws_tab (List.mem_of_getElem? (i := 102) (by decide +kernel)) (by decide +kernel)
theorem k_34 : Jvm.Cond.fieldLink "NestedCore$Flags" 7 "NestedCore$Flags" "n" "Z" ∈ WS := ws_tab (List.mem_of_getElem? (i := 98) (by decide +kernel)) (by decide +kernel)
theorem k_35 : Jvm.Cond.fieldLink "NestedCore$Memory" 9 "NestedCore$Memory" "words" "[I" ∈ WS := ws_tab (List.mem_of_getElem? (i := 29) (by decide +kernel)) (by decide +kernel)
theorem k_36 : Jvm.Cond.fieldLink "NestedCore$Ticker" 13 "NestedCore$Ticker" "counter" "I" ∈ WS := ws_tab (List.mem_of_getElem? (i := 120) (by decide +kernel)) (by decide +kernel)
theorem k_37 : Jvm.Cond.fieldLink "NestedCore$Ticker" 7 "NestedCore$Ticker" "reload" "I" ∈ WS := ws_tab (List.mem_of_getElem? (i := 118) (by decide +kernel)) (by decide +kernel)
theorem k_38 : Jvm.Cond.fieldLink "NestedCore" 104 "NestedCore$Exceptions" "pending" "[Z" ∈ WS := ws_tab (List.mem_of_getElem? (i := 63) (by decide +kernel)) (by decide +kernel)
theorem k_39 : Jvm.Cond.fieldLink "NestedCore" 118 "NestedCore" "halted" "I" ∈ WS := ws_tab (List.mem_of_getElem? (i := 135) (by decide +kernel)) (by decide +kernel)
theorem k_40 : Jvm.Cond.fieldLink "NestedCore" 128 "NestedCore" "number" "I" ∈ WS := ws_tab (List.mem_of_getElem? (i := 134) (by decide +kernel)) (by decide +kernel)
theorem k_41 : Jvm.Cond.fieldLink "NestedCore" 13 "NestedCore" "before" "[I" ∈ WS := ws_tab (List.mem_of_getElem? (i := 128) (by decide +kernel)) (by decide +kernel)
theorem k_42 : Jvm.Cond.fieldLink "NestedCore" 137 "NestedCore" "taken" "I" ∈ WS := ws_tab (List.mem_of_getElem? (i := 136) (by decide +kernel)) (by decide +kernel)
theorem k_43 : Jvm.Cond.fieldLink "NestedCore" 140 "NestedCore" "chained" "I" ∈ WS := ws_tab (List.mem_of_getElem? (i := 137) (by decide +kernel)) (by decide +kernel)
theorem k_44 : Jvm.Cond.fieldLink "NestedCore" 143 "NestedCore" "faulted" "I" ∈ WS := ws_tab (List.mem_of_getElem? (i := 138) (by decide +kernel)) (by decide +kernel)
theorem k_45 : Jvm.Cond.fieldLink "NestedCore" 146 "NestedCore$Ticker" "counter" "I" ∈ WS := ws_tab (List.mem_of_getElem? (i := 121) (by decide +kernel)) (by decide +kernel)
theorem k_46 : Jvm.Cond.fieldLink "NestedCore" 19 "NestedCore" "memory" "LNestedCore$Memory;" ∈ WS := ws_tab (List.mem_of_getElem? (i := 129) (by decide +kernel)) (by decide +kernel)
theorem k_47 : Jvm.Cond.fieldLink "NestedCore" 190 "NestedCore$Exceptions" "active" "[Z" ∈ WS := ws_tab (List.mem_of_getElem? (i := 65) (by decide +kernel)) (by decide +kernel)
theorem k_48 : Jvm.Cond.fieldLink "NestedCore" 193 "NestedCore$Exceptions" "enabled" "[Z" ∈ WS := ws_tab (List.mem_of_getElem? (i := 61) (by decide +kernel)) (by decide +kernel)
theorem k_49 : Jvm.Cond.fieldLink "NestedCore" 26 "NestedCore" "areas" "LNestedCore$Areas;" ∈ WS := ws_tab (List.mem_of_getElem? (i := 130) (by decide +kernel)) (by decide +kernel)
theorem k_50 : Jvm.Cond.fieldLink "NestedCore" 33 "NestedCore" "exceptions" "LNestedCore$Exceptions;" ∈ WS := ws_tab (List.mem_of_getElem? (i := 131) (by decide +kernel)) (by decide +kernel)
theorem k_51 : Jvm.Cond.fieldLink "NestedCore" 40 "NestedCore" "flags" "LNestedCore$Flags;" ∈ WS := ws_tab (List.mem_of_getElem? (i := 132) (by decide +kernel)) (by decide +kernel)
theorem k_52 : Jvm.Cond.fieldLink "NestedCore" 47 "NestedCore" "ticker" "LNestedCore$Ticker;" ∈ WS := ws_tab (List.mem_of_getElem? (i := 133) (by decide +kernel)) (by decide +kernel)
theorem k_53 : Jvm.Cond.fieldLink "NestedCore" 75 "NestedCore$Exceptions" "mask" "Z" ∈ WS := ws_tab (List.mem_of_getElem? (i := 72) (by decide +kernel)) (by decide +kernel)
theorem k_54 : Jvm.Cond.fieldLink "NestedCore" 79 "NestedCore$Exceptions" "faults" "Z" ∈ WS := ws_tab (List.mem_of_getElem? (i := 74) (by decide +kernel)) (by decide +kernel)
theorem k_55 : Jvm.Cond.fieldLink "NestedCore" 82 "NestedCore$Exceptions" "floor" "I" ∈ WS := ws_tab (List.mem_of_getElem? (i := 70) (by decide +kernel)) (by decide +kernel)
theorem k_56 : Jvm.Cond.fieldLink "NestedCore" 86 "NestedCore$Exceptions" "split" "I" ∈ WS := ws_tab (List.mem_of_getElem? (i := 68) (by decide +kernel)) (by decide +kernel)
theorem k_57 : Jvm.Cond.fieldLink "NestedCore" 9 "NestedCore" "registers" "[I" ∈ WS := ws_tab (List.mem_of_getElem? (i := 127) (by decide +kernel)) (by decide +kernel)
theorem k_58 : Jvm.Cond.fieldLink "NestedCore" 93 "NestedCore$Ticker" "reload" "I" ∈ WS := ws_tab (List.mem_of_getElem? (i := 119) (by decide +kernel)) (by decide +kernel)
theorem k_59 : Jvm.Cond.fieldLink "NestedCoreModel" 114 "NestedCoreModel" "taken" "I" ∈ WS := ws_tab (List.mem_of_getElem? (i := 550) (by decide +kernel)) (by decide +kernel)
theorem k_60 : Jvm.Cond.fieldLink "NestedCoreModel" 120 "NestedCoreModel" "faults" "I" ∈ WS := ws_tab (List.mem_of_getElem? (i := 552) (by decide +kernel)) (by decide +kernel)
theorem k_61 : Jvm.Cond.fieldLink "NestedCoreModel" 13 "NestedCoreModel" "\x72" "[I" ∈ WS := ws_tab (List.mem_of_getElem? (i := 533) (by decide +kernel)) (by decide +kernel)
theorem k_62 : Jvm.Cond.fieldLink "NestedCoreModel" 141 "NestedCoreModel" "chained" "I" ∈ WS := ws_tab (List.mem_of_getElem? (i := 551) (by decide +kernel)) (by decide +kernel)
theorem k_63 : Jvm.Cond.fieldLink "NestedCoreModel" 16 "NestedCoreModel" "ranks" "[I" ∈ WS := ws_tab (List.mem_of_getElem? (i := 538) (by decide +kernel)) (by decide +kernel)
theorem k_64 : Jvm.Cond.fieldLink "NestedCoreModel" 19 "NestedCoreModel" "enabled" "[Z" ∈ WS := ws_tab (List.mem_of_getElem? (i := 539) (by decide +kernel)) (by decide +kernel)
theorem k_65 : Jvm.Cond.fieldLink "NestedCoreModel" 203 "NestedCoreModel" "reload" "I" ∈ WS := ws_tab (List.mem_of_getElem? (i := 546) (by decide +kernel)) (by decide +kernel)
theorem k_66 : Jvm.Cond.fieldLink "NestedCoreModel" 206 "NestedCoreModel" "counter" "I" ∈ WS := ws_tab (List.mem_of_getElem? (i := 547) (by decide +kernel)) (by decide +kernel)
theorem k_67 : Jvm.Cond.fieldLink "NestedCoreModel" 23 "NestedCoreModel" "pending" "[Z" ∈ WS := ws_tab (List.mem_of_getElem? (i := 540) (by decide +kernel)) (by decide +kernel)
theorem k_68 : Jvm.Cond.fieldLink "NestedCoreModel" 26 "NestedCoreModel" "active" "[Z" ∈ WS := ws_tab (List.mem_of_getElem? (i := 541) (by decide +kernel)) (by decide +kernel)
theorem k_69 : Jvm.Cond.fieldLink "NestedCoreModel" 29 "NestedCoreModel" "from" "[I" ∈ WS := ws_tab (List.mem_of_getElem? (i := 553) (by decide +kernel)) (by decide +kernel)
theorem k_70 : Jvm.Cond.fieldLink "NestedCoreModel" 32 "NestedCoreModel" "to" "[I" ∈ WS := ws_tab (List.mem_of_getElem? (i := 554) (by decide +kernel)) (by decide +kernel)
theorem k_71 : Jvm.Cond.fieldLink "NestedCoreModel" 35 "NestedCoreModel" "rights" "[I" ∈ WS := ws_tab (List.mem_of_getElem? (i := 555) (by decide +kernel)) (by decide +kernel)
theorem k_72 : Jvm.Cond.fieldLink "NestedCoreModel" 38 "NestedCoreModel" "never" "[Z" ∈ WS := ws_tab (List.mem_of_getElem? (i := 556) (by decide +kernel)) (by decide +kernel)
theorem k_73 : Jvm.Cond.fieldLink "NestedCoreModel" 41 "NestedCoreModel" "thrown" "I" ∈ WS := ws_tab (List.mem_of_getElem? (i := 531) (by decide +kernel)) (by decide +kernel)
theorem k_74 : Jvm.Cond.fieldLink "NestedCoreModel" 53 "NestedCoreModel" "split" "I" ∈ WS := ws_tab (List.mem_of_getElem? (i := 542) (by decide +kernel)) (by decide +kernel)
theorem k_75 : Jvm.Cond.fieldLink "NestedCoreModel" 60 "NestedCoreModel" "floor" "I" ∈ WS := ws_tab (List.mem_of_getElem? (i := 543) (by decide +kernel)) (by decide +kernel)
theorem k_76 : Jvm.Cond.fieldLink "NestedCoreModel" 63 "NestedCoreModel" "mask" "Z" ∈ WS := ws_tab (List.mem_of_getElem? (i := 544) (by decide +kernel)) (by decide +kernel)
theorem k_77 : Jvm.Cond.fieldLink "NestedCoreModel" 67 "NestedCoreModel" "faultsOn" "Z" ∈ WS := ws_tab (List.mem_of_getElem? (i := 545) (by decide +kernel)) (by decide +kernel)
theorem k_78 : Jvm.Cond.fieldLink "NestedCoreModel" 7 "NestedCoreModel" "bytes" "[I" ∈ WS := ws_tab (List.mem_of_getElem? (i := 532) (by decide +kernel)) (by decide +kernel)
theorem k_79 : Jvm.Cond.fieldLink "NestedCoreModel" 74 "NestedCoreModel" "number" "I" ∈ WS := ws_tab (List.mem_of_getElem? (i := 548) (by decide +kernel)) (by decide +kernel)
theorem k_80 : Jvm.Cond.fieldLink "NestedCoreModel" 80 "NestedCoreModel" "n" "Z" ∈ WS := ws_tab (List.mem_of_getElem? (i := 534) (by decide +kernel)) (by decide +kernel)
theorem k_81 : Jvm.Cond.fieldLink "NestedCoreModel" 84 "NestedCoreModel" "z" "Z" ∈ WS := ws_tab (List.mem_of_getElem? (i := 535) (by decide +kernel)) (by decide +kernel)
theorem k_82 : Jvm.Cond.fieldLink "NestedCoreModel" 88 "NestedCoreModel" "c" "Z" ∈ WS := ws_tab (List.mem_of_getElem? (i := 536) (by decide +kernel)) (by decide +kernel)
theorem k_83 : Jvm.Cond.fieldLink "NestedCoreModel" 92 "NestedCoreModel" "v" "Z" ∈ WS := ws_tab (List.mem_of_getElem? (i := 537) (by decide +kernel)) (by decide +kernel)
theorem k_84 : Jvm.Cond.fieldLink "NestedCoreModel" 99 "NestedCoreModel" "halted" "I" ∈ WS := ws_tab (List.mem_of_getElem? (i := 549) (by decide +kernel)) (by decide +kernel)
theorem k_85 : Jvm.Cond.fieldLink "NestedCore" 252 "NestedCore$Flags" "c" "Z" ∈ WS := ws_tab (List.mem_of_getElem? (i := 101) (by decide +kernel)) (by decide +kernel)
theorem k_86 : Jvm.Cond.methodLink "NestedCore" 289 y_In_bitCount ∈ WS := ws_tab (List.mem_of_getElem? (i := 457) (by decide +kernel)) (by decide +kernel)
theorem k_87 : Jvm.Cond.static y_In_bitCount ∈ WS := ws_tab (List.mem_of_getElem? (i := 458) (by decide +kernel)) (by decide +kernel)
theorem k_88 : Jvm.Cond.initialized "java/lang/Integer" ∈ WS := ws_tab (List.mem_of_getElem? (i := 14) (by decide +kernel)) (by decide +kernel)
set_option maxRecDepth 100000 in
theorem k_89 : Jvm.Cond.code y_In_bitCount b_In_bitCount 1 (some .int) ∈ WS := ws_tab (List.mem_of_getElem? (i := 459) rfl) rfl
theorem k_90 : Jvm.Cond.methodLink "NestedCore" 72 y_N_even ∈ WS := ws_tab (List.mem_of_getElem? (i := 265) (by decide +kernel)) (by decide +kernel)
theorem k_91 : Jvm.Cond.static y_N_even ∈ WS := ws_tab (List.mem_of_getElem? (i := 266) (by decide +kernel)) (by decide +kernel)
theorem k_92 : Jvm.Cond.initialized "NestedCore" ∈ WS := ws_tab (List.mem_of_getElem? (i := 1) (by decide +kernel)) (by decide +kernel)
set_option maxRecDepth 100000 in
theorem k_93 : Jvm.Cond.code y_N_even b_N_even 1 (some .int) ∈ WS := ws_tab (List.mem_of_getElem? (i := 267) rfl) rfl
theorem k_94 : Jvm.Cond.methodLink "NestedCoreModel" 154 y_Mo_ones ∈ WS := ws_tab (List.mem_of_getElem? (i := 737) (by decide +kernel)) (by decide +kernel)
theorem k_95 : Jvm.Cond.static y_Mo_ones ∈ WS := ws_tab (List.mem_of_getElem? (i := 738) (by decide +kernel)) (by decide +kernel)
theorem k_96 : Jvm.Cond.initialized "NestedCoreModel" ∈ WS := ws_tab (List.mem_of_getElem? (i := 7) (by decide +kernel)) (by decide +kernel)
set_option maxRecDepth 100000 in
theorem k_97 : Jvm.Cond.code y_Mo_ones b_Mo_ones 3 (some .int) ∈ WS := ws_tab (List.mem_of_getElem? (i := 739) rfl) rfl
theorem k_98 : Jvm.Cond.methodLink "NestedCoreModel" 45 y_Mo_isWord ∈ WS := ws_tab (List.mem_of_getElem? (i := 618) (by decide +kernel)) (by decide +kernel)
theorem k_99 : Jvm.Cond.static y_Mo_isWord ∈ WS := ws_tab (List.mem_of_getElem? (i := 619) (by decide +kernel)) (by decide +kernel)
set_option maxRecDepth 100000 in
theorem k_100 : Jvm.Cond.code y_Mo_isWord b_Mo_isWord 1 (some .boolean) ∈ WS := ws_tab (List.mem_of_getElem? (i := 620) rfl) rfl
theorem k_101 : Jvm.Cond.methodLink "NestedCoreModel" 96 y_Mo_isFrame ∈ WS := ws_tab (List.mem_of_getElem? (i := 681) (by decide +kernel)) (by decide +kernel)
theorem k_102 : Jvm.Cond.static y_Mo_isFrame ∈ WS := ws_tab (List.mem_of_getElem? (i := 682) (by decide +kernel)) (by decide +kernel)
set_option maxRecDepth 100000 in
theorem k_103 : Jvm.Cond.code y_Mo_isFrame b_Mo_isFrame 1 (some .boolean) ∈ WS := ws_tab (List.mem_of_getElem? (i := 683) rfl) rfl
theorem k_104 : Jvm.Cond.methodLink "NestedCore$Exceptions" 29 y_Ex_group ∈ WS := ws_tab (List.mem_of_getElem? (i := 332) (by decide +kernel)) (by decide +kernel)
theorem k_105 : Jvm.Cond.instanceMethod y_Ex_group ∈ WS := ws_tab (List.mem_of_getElem? (i := 333) (by decide +kernel)) (by decide +kernel)
theorem k_106 : Jvm.Cond.selects "NestedCore$Exceptions" y_Ex_group y_Ex_group ∈ WS := ws_tab (List.mem_of_getElem? (i := 334) (by decide +kernel)) (by decide +kernel)
theorem k_107 : Jvm.Cond.initialized "NestedCore$Exceptions" ∈ WS := ws_tab (List.mem_of_getElem? (i := 4) (by decide +kernel)) (by decide +kernel)
set_option maxRecDepth 100000 in
theorem k_108 : Jvm.Cond.code y_Ex_group b_Ex_group 2 (some .int) ∈ WS := ws_tab (List.mem_of_getElem? (i := 335) rfl) rfl
theorem k_109 : Jvm.Cond.methodLink "NestedCore$Exceptions" 49 y_Ex_level ∈ WS := ws_tab (List.mem_of_getElem? (i := 336) (by decide +kernel)) (by decide +kernel)
theorem k_110 : Jvm.Cond.instanceMethod y_Ex_level ∈ WS := ws_tab (List.mem_of_getElem? (i := 337) (by decide +kernel)) (by decide +kernel)
theorem k_111 : Jvm.Cond.selects "NestedCore$Exceptions" y_Ex_level y_Ex_level ∈ WS := ws_tab (List.mem_of_getElem? (i := 338) (by decide +kernel)) (by decide +kernel)
set_option maxRecDepth 100000 in
theorem k_112 : Jvm.Cond.code y_Ex_level b_Ex_level 3 (some .int) ∈ WS := ws_tab (List.mem_of_getElem? (i := 339) rfl) rfl
theorem k_113 : Jvm.Cond.methodLink "NestedCore$Flags" 24 y_Fl_ofResult ∈ WS := ws_tab (List.mem_of_getElem? (i := 407) (by decide +kernel)) (by decide +kernel)
theorem k_114 : Jvm.Cond.instanceMethod y_Fl_ofResult ∈ WS := ws_tab (List.mem_of_getElem? (i := 395) (by decide +kernel)) (by decide +kernel)
theorem k_115 : Jvm.Cond.selects "NestedCore$Flags" y_Fl_ofResult y_Fl_ofResult ∈ WS := ws_tab (List.mem_of_getElem? (i := 396) (by decide +kernel)) (by decide +kernel)
theorem k_116 : Jvm.Cond.initialized "NestedCore$Flags" ∈ WS := ws_tab (List.mem_of_getElem? (i := 5) (by decide +kernel)) (by decide +kernel)
set_option maxRecDepth 100000 in
theorem k_117 : Jvm.Cond.code y_Fl_ofResult b_Fl_ofResult 2 none ∈ WS := ws_tab (List.mem_of_getElem? (i := 397) rfl) rfl
theorem k_118 : Jvm.Cond.methodLink "NestedCore$Flags" 28 y_Fl_sum ∈ WS := ws_tab (List.mem_of_getElem? (i := 412) (by decide +kernel)) (by decide +kernel)
theorem k_119 : Jvm.Cond.instanceMethod y_Fl_sum ∈ WS := ws_tab (List.mem_of_getElem? (i := 403) (by decide +kernel)) (by decide +kernel)
theorem k_120 : Jvm.Cond.selects "NestedCore$Flags" y_Fl_sum y_Fl_sum ∈ WS := ws_tab (List.mem_of_getElem? (i := 404) (by decide +kernel)) (by decide +kernel)
set_option maxRecDepth 100000 in
theorem k_121 : Jvm.Cond.code y_Fl_sum b_Fl_sum 9 (some .int) ∈ WS := ws_tab (List.mem_of_getElem? (i := 405) rfl) rfl
theorem k_122 : Jvm.Cond.methodLink "NestedCore$Memory" 15 y_Me_load ∈ WS := ws_tab (List.mem_of_getElem? (i := 384) (by decide +kernel)) (by decide +kernel)
theorem k_123 : Jvm.Cond.instanceMethod y_Me_load ∈ WS := ws_tab (List.mem_of_getElem? (i := 254) (by decide +kernel)) (by decide +kernel)
theorem k_124 : Jvm.Cond.selects "NestedCore$Memory" y_Me_load y_Me_load ∈ WS := ws_tab (List.mem_of_getElem? (i := 255) (by decide +kernel)) (by decide +kernel)
theorem k_125 : Jvm.Cond.initialized "NestedCore$Memory" ∈ WS := ws_tab (List.mem_of_getElem? (i := 2) (by decide +kernel)) (by decide +kernel)
set_option maxRecDepth 100000 in
theorem k_126 : Jvm.Cond.code y_Me_load b_Me_load 2 (some .int) ∈ WS := ws_tab (List.mem_of_getElem? (i := 256) rfl) rfl
theorem k_127 : Jvm.Cond.methodLink "NestedCore" 112 y_Ar_lay ∈ WS := ws_tab (List.mem_of_getElem? (i := 308) (by decide +kernel)) (by decide +kernel)
theorem k_128 : Jvm.Cond.instanceMethod y_Ar_lay ∈ WS := ws_tab (List.mem_of_getElem? (i := 309) (by decide +kernel)) (by decide +kernel)
theorem k_129 : Jvm.Cond.selects "NestedCore$Areas" y_Ar_lay y_Ar_lay ∈ WS := ws_tab (List.mem_of_getElem? (i := 310) (by decide +kernel)) (by decide +kernel)
theorem k_130 : Jvm.Cond.initialized "NestedCore$Areas" ∈ WS := ws_tab (List.mem_of_getElem? (i := 3) (by decide +kernel)) (by decide +kernel)
set_option maxRecDepth 100000 in
theorem k_131 : Jvm.Cond.code y_Ar_lay b_Ar_lay 6 none ∈ WS := ws_tab (List.mem_of_getElem? (i := 311) rfl) rfl
theorem k_132 : Jvm.Cond.methodLink "NestedCore" 121 y_N_step ∈ WS := ws_tab (List.mem_of_getElem? (i := 320) (by decide +kernel)) (by decide +kernel)
theorem k_133 : Jvm.Cond.instanceMethod y_N_step ∈ WS := ws_tab (List.mem_of_getElem? (i := 322) (by decide +kernel)) (by decide +kernel)
theorem k_134 : Jvm.Cond.selects "NestedCore" y_N_step y_N_step ∈ WS := ws_sel (List.mem_of_getElem? (i := 1) (by decide +kernel)) (by decide +kernel)
set_option maxRecDepth 100000 in
theorem k_135 : Jvm.Cond.code y_N_step b_N_step 3 none ∈ WS := ws_tab (List.mem_of_getElem? (i := 323) rfl) rfl
theorem k_136 : Jvm.Cond.methodLink "NestedCore" 124 y_Fl_packed ∈ WS := ws_tab (List.mem_of_getElem? (i := 353) (by decide +kernel)) (by decide +kernel)
theorem k_137 : Jvm.Cond.instanceMethod y_Fl_packed ∈ WS := ws_tab (List.mem_of_getElem? (i := 354) (by decide +kernel)) (by decide +kernel)
theorem k_138 : Jvm.Cond.selects "NestedCore$Flags" y_Fl_packed y_Fl_packed ∈ WS := ws_tab (List.mem_of_getElem? (i := 355) (by decide +kernel)) (by decide +kernel)
set_option maxRecDepth 100000 in
theorem k_139 : Jvm.Cond.code y_Fl_packed b_Fl_packed 1 (some .int) ∈ WS := ws_tab (List.mem_of_getElem? (i := 356) rfl) rfl
theorem k_140 : Jvm.Cond.methodLink "NestedCore" 131 y_Ex_level ∈ WS := ws_tab (List.mem_of_getElem? (i := 471) (by decide +kernel)) (by decide +kernel)
theorem k_141 : Jvm.Cond.methodLink "NestedCore" 134 y_Ex_due ∈ WS := ws_tab (List.mem_of_getElem? (i := 328) (by decide +kernel)) (by decide +kernel)
theorem k_142 : Jvm.Cond.instanceMethod y_Ex_due ∈ WS := ws_tab (List.mem_of_getElem? (i := 329) (by decide +kernel)) (by decide +kernel)
theorem k_143 : Jvm.Cond.selects "NestedCore$Exceptions" y_Ex_due y_Ex_due ∈ WS := ws_tab (List.mem_of_getElem? (i := 330) (by decide +kernel)) (by decide +kernel)
set_option maxRecDepth 100000 in
theorem k_144 : Jvm.Cond.code y_Ex_due b_Ex_due 3 (some .int) ∈ WS := ws_tab (List.mem_of_getElem? (i := 331) rfl) rfl
theorem k_145 : Jvm.Cond.methodLink "NestedCore" 151 y_Ex_packed ∈ WS := ws_tab (List.mem_of_getElem? (i := 521) (by decide +kernel)) (by decide +kernel)
theorem k_146 : Jvm.Cond.instanceMethod y_Ex_packed ∈ WS := ws_tab (List.mem_of_getElem? (i := 522) (by decide +kernel)) (by decide +kernel)
theorem k_147 : Jvm.Cond.selects "NestedCore$Exceptions" y_Ex_packed y_Ex_packed ∈ WS := ws_tab (List.mem_of_getElem? (i := 523) (by decide +kernel)) (by decide +kernel)
set_option maxRecDepth 100000 in
theorem k_148 : Jvm.Cond.code y_Ex_packed b_Ex_packed 2 (some .int) ∈ WS := ws_tab (List.mem_of_getElem? (i := 524) rfl) rfl
theorem k_149 : Jvm.Cond.methodLink "NestedCore" 153 y_Ti_fires ∈ WS := ws_tab (List.mem_of_getElem? (i := 324) (by decide +kernel)) (by decide +kernel)
theorem k_150 : Jvm.Cond.instanceMethod y_Ti_fires ∈ WS := ws_tab (List.mem_of_getElem? (i := 325) (by decide +kernel)) (by decide +kernel)
theorem k_151 : Jvm.Cond.selects "NestedCore$Ticker" y_Ti_fires y_Ti_fires ∈ WS := ws_tab (List.mem_of_getElem? (i := 326) (by decide +kernel)) (by decide +kernel)
theorem k_152 : Jvm.Cond.initialized "NestedCore$Ticker" ∈ WS := ws_tab (List.mem_of_getElem? (i := 6) (by decide +kernel)) (by decide +kernel)
set_option maxRecDepth 100000 in
theorem k_153 : Jvm.Cond.code y_Ti_fires b_Ti_fires 1 (some .boolean) ∈ WS := ws_tab (List.mem_of_getElem? (i := 327) rfl) rfl
theorem k_154 : Jvm.Cond.methodLink "NestedCore" 157 y_N_take ∈ WS := ws_tab (List.mem_of_getElem? (i := 343) (by decide +kernel)) (by decide +kernel)
theorem k_155 : Jvm.Cond.instanceMethod y_N_take ∈ WS := ws_tab (List.mem_of_getElem? (i := 345) (by decide +kernel)) (by decide +kernel)
theorem k_156 : Jvm.Cond.selects "NestedCore" y_N_take y_N_take ∈ WS := ws_sel (List.mem_of_getElem? (i := 2) (by decide +kernel)) (by decide +kernel)
set_option maxRecDepth 100000 in
theorem k_157 : Jvm.Cond.code y_N_take b_N_take 5 none ∈ WS := ws_tab (List.mem_of_getElem? (i := 346) rfl) rfl
theorem k_158 : Jvm.Cond.methodLink "NestedCore" 166 y_N_fetchFault ∈ WS := ws_tab (List.mem_of_getElem? (i := 364) (by decide +kernel)) (by decide +kernel)
theorem k_159 : Jvm.Cond.instanceMethod y_N_fetchFault ∈ WS := ws_tab (List.mem_of_getElem? (i := 366) (by decide +kernel)) (by decide +kernel)
theorem k_160 : Jvm.Cond.selects "NestedCore" y_N_fetchFault y_N_fetchFault ∈ WS := ws_sel (List.mem_of_getElem? (i := 4) (by decide +kernel)) (by decide +kernel)
set_option maxRecDepth 100000 in
theorem k_161 : Jvm.Cond.code y_N_fetchFault b_N_fetchFault 1 (some .int) ∈ WS := ws_tab (List.mem_of_getElem? (i := 367) rfl) rfl
theorem k_162 : Jvm.Cond.methodLink "NestedCore" 169 y_N_fetch ∈ WS := ws_tab (List.mem_of_getElem? (i := 376) (by decide +kernel)) (by decide +kernel)
theorem k_163 : Jvm.Cond.instanceMethod y_N_fetch ∈ WS := ws_tab (List.mem_of_getElem? (i := 378) (by decide +kernel)) (by decide +kernel)
theorem k_164 : Jvm.Cond.selects "NestedCore" y_N_fetch y_N_fetch ∈ WS := ws_sel (List.mem_of_getElem? (i := 5) (by decide +kernel)) (by decide +kernel)
set_option maxRecDepth 100000 in
theorem k_165 : Jvm.Cond.code y_N_fetch b_N_fetch 2 (some .int) ∈ WS := ws_tab (List.mem_of_getElem? (i := 379) rfl) rfl
theorem k_166 : Jvm.Cond.methodLink "NestedCore" 172 y_N_execute ∈ WS := ws_tab (List.mem_of_getElem? (i := 386) (by decide +kernel)) (by decide +kernel)
theorem k_167 : Jvm.Cond.instanceMethod y_N_execute ∈ WS := ws_tab (List.mem_of_getElem? (i := 388) (by decide +kernel)) (by decide +kernel)
theorem k_168 : Jvm.Cond.selects "NestedCore" y_N_execute y_N_execute ∈ WS := ws_sel (List.mem_of_getElem? (i := 6) (by decide +kernel)) (by decide +kernel)
set_option maxRecDepth 100000 in
theorem k_169 : Jvm.Cond.code y_N_execute b_N_execute 2 (some .int) ∈ WS := ws_tab (List.mem_of_getElem? (i := 389) rfl) rfl
theorem k_170 : Jvm.Cond.methodLink "NestedCore" 175 y_N_land ∈ WS := ws_tab (List.mem_of_getElem? (i := 489) (by decide +kernel)) (by decide +kernel)
theorem k_171 : Jvm.Cond.instanceMethod y_N_land ∈ WS := ws_tab (List.mem_of_getElem? (i := 491) (by decide +kernel)) (by decide +kernel)
theorem k_172 : Jvm.Cond.selects "NestedCore" y_N_land y_N_land ∈ WS := ws_sel (List.mem_of_getElem? (i := 24) (by decide +kernel)) (by decide +kernel)
set_option maxRecDepth 100000 in
theorem k_173 : Jvm.Cond.code y_N_land b_N_land 2 (some .int) ∈ WS := ws_tab (List.mem_of_getElem? (i := 492) rfl) rfl
theorem k_174 : Jvm.Cond.methodLink "NestedCore" 178 y_N_raise ∈ WS := ws_tab (List.mem_of_getElem? (i := 509) (by decide +kernel)) (by decide +kernel)
theorem k_175 : Jvm.Cond.instanceMethod y_N_raise ∈ WS := ws_tab (List.mem_of_getElem? (i := 511) (by decide +kernel)) (by decide +kernel)
theorem k_176 : Jvm.Cond.selects "NestedCore" y_N_raise y_N_raise ∈ WS := ws_sel (List.mem_of_getElem? (i := 27) (by decide +kernel)) (by decide +kernel)
set_option maxRecDepth 100000 in
theorem k_177 : Jvm.Cond.code y_N_raise b_N_raise 3 none ∈ WS := ws_tab (List.mem_of_getElem? (i := 512) rfl) rfl
theorem k_178 : Jvm.Cond.methodLink "NestedCore" 181 y_Me_holdsFrame ∈ WS := ws_tab (List.mem_of_getElem? (i := 347) (by decide +kernel)) (by decide +kernel)
theorem k_179 : Jvm.Cond.instanceMethod y_Me_holdsFrame ∈ WS := ws_tab (List.mem_of_getElem? (i := 348) (by decide +kernel)) (by decide +kernel)
theorem k_180 : Jvm.Cond.selects "NestedCore$Memory" y_Me_holdsFrame y_Me_holdsFrame ∈ WS := ws_tab (List.mem_of_getElem? (i := 349) (by decide +kernel)) (by decide +kernel)
set_option maxRecDepth 100000 in
theorem k_181 : Jvm.Cond.code y_Me_holdsFrame b_Me_holdsFrame 2 (some .boolean) ∈ WS := ws_tab (List.mem_of_getElem? (i := 350) rfl) rfl
theorem k_182 : Jvm.Cond.methodLink "NestedCore" 187 y_N_enter ∈ WS := ws_tab (List.mem_of_getElem? (i := 357) (by decide +kernel)) (by decide +kernel)
theorem k_183 : Jvm.Cond.instanceMethod y_N_enter ∈ WS := ws_tab (List.mem_of_getElem? (i := 359) (by decide +kernel)) (by decide +kernel)
theorem k_184 : Jvm.Cond.selects "NestedCore" y_N_enter y_N_enter ∈ WS := ws_sel (List.mem_of_getElem? (i := 3) (by decide +kernel)) (by decide +kernel)
set_option maxRecDepth 100000 in
theorem k_185 : Jvm.Cond.code y_N_enter b_N_enter 2 none ∈ WS := ws_tab (List.mem_of_getElem? (i := 360) rfl) rfl
theorem k_186 : Jvm.Cond.methodLink "NestedCore" 196 y_Ex_group ∈ WS := ws_tab (List.mem_of_getElem? (i := 476) (by decide +kernel)) (by decide +kernel)
theorem k_187 : Jvm.Cond.methodLink "NestedCore" 199 y_N_comeBack ∈ WS := ws_tab (List.mem_of_getElem? (i := 493) (by decide +kernel)) (by decide +kernel)
theorem k_188 : Jvm.Cond.instanceMethod y_N_comeBack ∈ WS := ws_tab (List.mem_of_getElem? (i := 495) (by decide +kernel)) (by decide +kernel)
theorem k_189 : Jvm.Cond.selects "NestedCore" y_N_comeBack y_N_comeBack ∈ WS := ws_sel (List.mem_of_getElem? (i := 25) (by decide +kernel)) (by decide +kernel)
set_option maxRecDepth 100000 in
theorem k_190 : Jvm.Cond.code y_N_comeBack b_N_comeBack 6 (some .int) ∈ WS := ws_tab (List.mem_of_getElem? (i := 496) rfl) rfl
theorem k_191 : Jvm.Cond.methodLink "NestedCore" 202 y_Ex_leave ∈ WS := ws_tab (List.mem_of_getElem? (i := 497) (by decide +kernel)) (by decide +kernel)
theorem k_192 : Jvm.Cond.instanceMethod y_Ex_leave ∈ WS := ws_tab (List.mem_of_getElem? (i := 498) (by decide +kernel)) (by decide +kernel)
theorem k_193 : Jvm.Cond.selects "NestedCore$Exceptions" y_Ex_leave y_Ex_leave ∈ WS := ws_tab (List.mem_of_getElem? (i := 499) (by decide +kernel)) (by decide +kernel)
set_option maxRecDepth 100000 in
theorem k_194 : Jvm.Cond.code y_Ex_leave b_Ex_leave 2 none ∈ WS := ws_tab (List.mem_of_getElem? (i := 500) rfl) rfl
theorem k_195 : Jvm.Cond.methodLink "NestedCore" 205 y_N_unstack ∈ WS := ws_tab (List.mem_of_getElem? (i := 501) (by decide +kernel)) (by decide +kernel)
theorem k_196 : Jvm.Cond.instanceMethod y_N_unstack ∈ WS := ws_tab (List.mem_of_getElem? (i := 503) (by decide +kernel)) (by decide +kernel)
theorem k_197 : Jvm.Cond.selects "NestedCore" y_N_unstack y_N_unstack ∈ WS := ws_sel (List.mem_of_getElem? (i := 26) (by decide +kernel)) (by decide +kernel)
set_option maxRecDepth 100000 in
theorem k_198 : Jvm.Cond.code y_N_unstack b_N_unstack 4 none ∈ WS := ws_tab (List.mem_of_getElem? (i := 504) rfl) rfl
theorem k_199 : Jvm.Cond.methodLink "NestedCore" 208 y_Fl_unpack ∈ WS := ws_tab (List.mem_of_getElem? (i := 505) (by decide +kernel)) (by decide +kernel)
theorem k_200 : Jvm.Cond.instanceMethod y_Fl_unpack ∈ WS := ws_tab (List.mem_of_getElem? (i := 506) (by decide +kernel)) (by decide +kernel)
theorem k_201 : Jvm.Cond.selects "NestedCore$Flags" y_Fl_unpack y_Fl_unpack ∈ WS := ws_tab (List.mem_of_getElem? (i := 507) (by decide +kernel)) (by decide +kernel)
set_option maxRecDepth 100000 in
theorem k_202 : Jvm.Cond.code y_Fl_unpack b_Fl_unpack 2 none ∈ WS := ws_tab (List.mem_of_getElem? (i := 508) rfl) rfl
theorem k_203 : Jvm.Cond.methodLink "NestedCore" 211 y_Me_holdsHalf ∈ WS := ws_tab (List.mem_of_getElem? (i := 368) (by decide +kernel)) (by decide +kernel)
theorem k_204 : Jvm.Cond.instanceMethod y_Me_holdsHalf ∈ WS := ws_tab (List.mem_of_getElem? (i := 369) (by decide +kernel)) (by decide +kernel)
theorem k_205 : Jvm.Cond.selects "NestedCore$Memory" y_Me_holdsHalf y_Me_holdsHalf ∈ WS := ws_tab (List.mem_of_getElem? (i := 370) (by decide +kernel)) (by decide +kernel)
set_option maxRecDepth 100000 in
theorem k_206 : Jvm.Cond.code y_Me_holdsHalf b_Me_holdsHalf 2 (some .boolean) ∈ WS := ws_tab (List.mem_of_getElem? (i := 371) rfl) rfl
theorem k_207 : Jvm.Cond.methodLink "NestedCore" 214 y_Ar_bars ∈ WS := ws_tab (List.mem_of_getElem? (i := 372) (by decide +kernel)) (by decide +kernel)
theorem k_208 : Jvm.Cond.instanceMethod y_Ar_bars ∈ WS := ws_tab (List.mem_of_getElem? (i := 373) (by decide +kernel)) (by decide +kernel)
theorem k_209 : Jvm.Cond.selects "NestedCore$Areas" y_Ar_bars y_Ar_bars ∈ WS := ws_tab (List.mem_of_getElem? (i := 374) (by decide +kernel)) (by decide +kernel)
set_option maxRecDepth 100000 in
theorem k_210 : Jvm.Cond.code y_Ar_bars b_Ar_bars 5 (some .boolean) ∈ WS := ws_tab (List.mem_of_getElem? (i := 375) rfl) rfl
theorem k_211 : Jvm.Cond.methodLink "NestedCore" 218 y_Me_half ∈ WS := ws_tab (List.mem_of_getElem? (i := 380) (by decide +kernel)) (by decide +kernel)
theorem k_212 : Jvm.Cond.instanceMethod y_Me_half ∈ WS := ws_tab (List.mem_of_getElem? (i := 381) (by decide +kernel)) (by decide +kernel)
theorem k_213 : Jvm.Cond.selects "NestedCore$Memory" y_Me_half y_Me_half ∈ WS := ws_tab (List.mem_of_getElem? (i := 382) (by decide +kernel)) (by decide +kernel)
set_option maxRecDepth 100000 in
theorem k_214 : Jvm.Cond.code y_Me_half b_Me_half 2 (some .int) ∈ WS := ws_tab (List.mem_of_getElem? (i := 383) rfl) rfl
theorem k_215 : Jvm.Cond.methodLink "NestedCore" 221 y_N_shift ∈ WS := ws_tab (List.mem_of_getElem? (i := 390) (by decide +kernel)) (by decide +kernel)
theorem k_216 : Jvm.Cond.instanceMethod y_N_shift ∈ WS := ws_tab (List.mem_of_getElem? (i := 392) (by decide +kernel)) (by decide +kernel)
theorem k_217 : Jvm.Cond.selects "NestedCore" y_N_shift y_N_shift ∈ WS := ws_sel (List.mem_of_getElem? (i := 7) (by decide +kernel)) (by decide +kernel)
set_option maxRecDepth 100000 in
theorem k_218 : Jvm.Cond.code y_N_shift b_N_shift 6 (some .int) ∈ WS := ws_tab (List.mem_of_getElem? (i := 393) rfl) rfl
theorem k_219 : Jvm.Cond.methodLink "NestedCore" 224 y_N_addThree ∈ WS := ws_tab (List.mem_of_getElem? (i := 398) (by decide +kernel)) (by decide +kernel)
theorem k_220 : Jvm.Cond.instanceMethod y_N_addThree ∈ WS := ws_tab (List.mem_of_getElem? (i := 400) (by decide +kernel)) (by decide +kernel)
theorem k_221 : Jvm.Cond.selects "NestedCore" y_N_addThree y_N_addThree ∈ WS := ws_sel (List.mem_of_getElem? (i := 8) (by decide +kernel)) (by decide +kernel)
set_option maxRecDepth 100000 in
theorem k_222 : Jvm.Cond.code y_N_addThree b_N_addThree 5 (some .int) ∈ WS := ws_tab (List.mem_of_getElem? (i := 401) rfl) rfl
theorem k_223 : Jvm.Cond.methodLink "NestedCore" 227 y_N_withNumber ∈ WS := ws_tab (List.mem_of_getElem? (i := 413) (by decide +kernel)) (by decide +kernel)
theorem k_224 : Jvm.Cond.instanceMethod y_N_withNumber ∈ WS := ws_tab (List.mem_of_getElem? (i := 415) (by decide +kernel)) (by decide +kernel)
theorem k_225 : Jvm.Cond.selects "NestedCore" y_N_withNumber y_N_withNumber ∈ WS := ws_sel (List.mem_of_getElem? (i := 9) (by decide +kernel)) (by decide +kernel)
set_option maxRecDepth 100000 in
theorem k_226 : Jvm.Cond.code y_N_withNumber b_N_withNumber 4 (some .int) ∈ WS := ws_tab (List.mem_of_getElem? (i := 416) rfl) rfl
theorem k_227 : Jvm.Cond.methodLink "NestedCore" 230 y_N_combine ∈ WS := ws_tab (List.mem_of_getElem? (i := 417) (by decide +kernel)) (by decide +kernel)
theorem k_228 : Jvm.Cond.instanceMethod y_N_combine ∈ WS := ws_tab (List.mem_of_getElem? (i := 419) (by decide +kernel)) (by decide +kernel)
theorem k_229 : Jvm.Cond.selects "NestedCore" y_N_combine y_N_combine ∈ WS := ws_sel (List.mem_of_getElem? (i := 10) (by decide +kernel)) (by decide +kernel)
set_option maxRecDepth 100000 in
theorem k_230 : Jvm.Cond.code y_N_combine b_N_combine 5 (some .int) ∈ WS := ws_tab (List.mem_of_getElem? (i := 420) rfl) rfl
theorem k_231 : Jvm.Cond.methodLink "NestedCore" 233 y_N_copyOrBranch ∈ WS := ws_tab (List.mem_of_getElem? (i := 429) (by decide +kernel)) (by decide +kernel)
theorem k_232 : Jvm.Cond.instanceMethod y_N_copyOrBranch ∈ WS := ws_tab (List.mem_of_getElem? (i := 431) (by decide +kernel)) (by decide +kernel)
theorem k_233 : Jvm.Cond.selects "NestedCore" y_N_copyOrBranch y_N_copyOrBranch ∈ WS := ws_sel (List.mem_of_getElem? (i := 12) (by decide +kernel)) (by decide +kernel)
set_option maxRecDepth 100000 in
theorem k_234 : Jvm.Cond.code y_N_copyOrBranch b_N_copyOrBranch 2 (some .int) ∈ WS := ws_tab (List.mem_of_getElem? (i := 432) rfl) rfl
theorem k_235 : Jvm.Cond.methodLink "NestedCore" 236 y_N_move ∈ WS := ws_tab (List.mem_of_getElem? (i := 441) (by decide +kernel)) (by decide +kernel)
theorem k_236 : Jvm.Cond.instanceMethod y_N_move ∈ WS := ws_tab (List.mem_of_getElem? (i := 443) (by decide +kernel)) (by decide +kernel)
theorem k_237 : Jvm.Cond.selects "NestedCore" y_N_move y_N_move ∈ WS := ws_sel (List.mem_of_getElem? (i := 15) (by decide +kernel)) (by decide +kernel)
set_option maxRecDepth 100000 in
theorem k_238 : Jvm.Cond.code y_N_move b_N_move 6 (some .int) ∈ WS := ws_tab (List.mem_of_getElem? (i := 444) rfl) rfl
theorem k_239 : Jvm.Cond.methodLink "NestedCore" 240 y_N_stackOrSwitch ∈ WS := ws_tab (List.mem_of_getElem? (i := 449) (by decide +kernel)) (by decide +kernel)
theorem k_240 : Jvm.Cond.instanceMethod y_N_stackOrSwitch ∈ WS := ws_tab (List.mem_of_getElem? (i := 451) (by decide +kernel)) (by decide +kernel)
theorem k_241 : Jvm.Cond.selects "NestedCore" y_N_stackOrSwitch y_N_stackOrSwitch ∈ WS := ws_sel (List.mem_of_getElem? (i := 17) (by decide +kernel)) (by decide +kernel)
set_option maxRecDepth 100000 in
theorem k_242 : Jvm.Cond.code y_N_stackOrSwitch b_N_stackOrSwitch 3 (some .int) ∈ WS := ws_tab (List.mem_of_getElem? (i := 452) rfl) rfl
theorem k_243 : Jvm.Cond.methodLink "NestedCore" 243 y_N_callOut ∈ WS := ws_tab (List.mem_of_getElem? (i := 472) (by decide +kernel)) (by decide +kernel)
theorem k_244 : Jvm.Cond.instanceMethod y_N_callOut ∈ WS := ws_tab (List.mem_of_getElem? (i := 474) (by decide +kernel)) (by decide +kernel)
theorem k_245 : Jvm.Cond.selects "NestedCore" y_N_callOut y_N_callOut ∈ WS := ws_sel (List.mem_of_getElem? (i := 21) (by decide +kernel)) (by decide +kernel)
set_option maxRecDepth 100000 in
theorem k_246 : Jvm.Cond.code y_N_callOut b_N_callOut 1 (some .int) ∈ WS := ws_tab (List.mem_of_getElem? (i := 475) rfl) rfl
theorem k_247 : Jvm.Cond.methodLink "NestedCore" 246 y_N_branchIf ∈ WS := ws_tab (List.mem_of_getElem? (i := 477) (by decide +kernel)) (by decide +kernel)
theorem k_248 : Jvm.Cond.instanceMethod y_N_branchIf ∈ WS := ws_tab (List.mem_of_getElem? (i := 479) (by decide +kernel)) (by decide +kernel)
theorem k_249 : Jvm.Cond.selects "NestedCore" y_N_branchIf y_N_branchIf ∈ WS := ws_sel (List.mem_of_getElem? (i := 22) (by decide +kernel)) (by decide +kernel)
set_option maxRecDepth 100000 in
theorem k_250 : Jvm.Cond.code y_N_branchIf b_N_branchIf 3 (some .int) ∈ WS := ws_tab (List.mem_of_getElem? (i := 480) rfl) rfl
theorem k_251 : Jvm.Cond.methodLink "NestedCore" 249 y_N_branch ∈ WS := ws_tab (List.mem_of_getElem? (i := 485) (by decide +kernel)) (by decide +kernel)
theorem k_252 : Jvm.Cond.instanceMethod y_N_branch ∈ WS := ws_tab (List.mem_of_getElem? (i := 487) (by decide +kernel)) (by decide +kernel)
theorem k_253 : Jvm.Cond.selects "NestedCore" y_N_branch y_N_branch ∈ WS := ws_sel (List.mem_of_getElem? (i := 23) (by decide +kernel)) (by decide +kernel)
set_option maxRecDepth 100000 in
theorem k_254 : Jvm.Cond.code y_N_branch b_N_branch 2 (some .int) ∈ WS := ws_tab (List.mem_of_getElem? (i := 488) rfl) rfl
theorem k_255 : Jvm.Cond.methodLink "NestedCore" 255 y_Fl_ofResult ∈ WS := ws_tab (List.mem_of_getElem? (i := 394) (by decide +kernel)) (by decide +kernel)
theorem k_256 : Jvm.Cond.methodLink "NestedCore" 258 y_Fl_sum ∈ WS := ws_tab (List.mem_of_getElem? (i := 402) (by decide +kernel)) (by decide +kernel)
theorem k_257 : Jvm.Cond.methodLink "NestedCore" 261 y_Fl_difference ∈ WS := ws_tab (List.mem_of_getElem? (i := 408) (by decide +kernel)) (by decide +kernel)
theorem k_258 : Jvm.Cond.instanceMethod y_Fl_difference ∈ WS := ws_tab (List.mem_of_getElem? (i := 409) (by decide +kernel)) (by decide +kernel)
theorem k_259 : Jvm.Cond.selects "NestedCore$Flags" y_Fl_difference y_Fl_difference ∈ WS := ws_tab (List.mem_of_getElem? (i := 410) (by decide +kernel)) (by decide +kernel)
set_option maxRecDepth 100000 in
theorem k_260 : Jvm.Cond.code y_Fl_difference b_Fl_difference 3 (some .int) ∈ WS := ws_tab (List.mem_of_getElem? (i := 411) rfl) rfl
theorem k_261 : Jvm.Cond.methodLink "NestedCore" 265 y_N_bits ∈ WS := ws_tab (List.mem_of_getElem? (i := 421) (by decide +kernel)) (by decide +kernel)
theorem k_262 : Jvm.Cond.instanceMethod y_N_bits ∈ WS := ws_tab (List.mem_of_getElem? (i := 423) (by decide +kernel)) (by decide +kernel)
theorem k_263 : Jvm.Cond.selects "NestedCore" y_N_bits y_N_bits ∈ WS := ws_sel (List.mem_of_getElem? (i := 11) (by decide +kernel)) (by decide +kernel)
set_option maxRecDepth 100000 in
theorem k_264 : Jvm.Cond.code y_N_bits b_N_bits 3 (some .int) ∈ WS := ws_tab (List.mem_of_getElem? (i := 424) rfl) rfl
theorem k_265 : Jvm.Cond.methodLink "NestedCore" 268 y_Fl_carry ∈ WS := ws_tab (List.mem_of_getElem? (i := 425) (by decide +kernel)) (by decide +kernel)
theorem k_266 : Jvm.Cond.instanceMethod y_Fl_carry ∈ WS := ws_tab (List.mem_of_getElem? (i := 426) (by decide +kernel)) (by decide +kernel)
theorem k_267 : Jvm.Cond.selects "NestedCore$Flags" y_Fl_carry y_Fl_carry ∈ WS := ws_tab (List.mem_of_getElem? (i := 427) (by decide +kernel)) (by decide +kernel)
set_option maxRecDepth 100000 in
theorem k_268 : Jvm.Cond.code y_Fl_carry b_Fl_carry 1 (some .int) ∈ WS := ws_tab (List.mem_of_getElem? (i := 428) rfl) rfl
theorem k_269 : Jvm.Cond.methodLink "NestedCore" 271 y_N_copyAny ∈ WS := ws_tab (List.mem_of_getElem? (i := 433) (by decide +kernel)) (by decide +kernel)
theorem k_270 : Jvm.Cond.instanceMethod y_N_copyAny ∈ WS := ws_tab (List.mem_of_getElem? (i := 435) (by decide +kernel)) (by decide +kernel)
theorem k_271 : Jvm.Cond.selects "NestedCore" y_N_copyAny y_N_copyAny ∈ WS := ws_sel (List.mem_of_getElem? (i := 13) (by decide +kernel)) (by decide +kernel)
set_option maxRecDepth 100000 in
theorem k_272 : Jvm.Cond.code y_N_copyAny b_N_copyAny 4 (some .int) ∈ WS := ws_tab (List.mem_of_getElem? (i := 436) rfl) rfl
theorem k_273 : Jvm.Cond.methodLink "NestedCore" 274 y_N_branchTo ∈ WS := ws_tab (List.mem_of_getElem? (i := 437) (by decide +kernel)) (by decide +kernel)
theorem k_274 : Jvm.Cond.instanceMethod y_N_branchTo ∈ WS := ws_tab (List.mem_of_getElem? (i := 439) (by decide +kernel)) (by decide +kernel)
theorem k_275 : Jvm.Cond.selects "NestedCore" y_N_branchTo y_N_branchTo ∈ WS := ws_sel (List.mem_of_getElem? (i := 14) (by decide +kernel)) (by decide +kernel)
set_option maxRecDepth 100000 in
theorem k_276 : Jvm.Cond.code y_N_branchTo b_N_branchTo 3 (some .int) ∈ WS := ws_tab (List.mem_of_getElem? (i := 440) rfl) rfl
theorem k_277 : Jvm.Cond.methodLink "NestedCore" 277 y_N_faultAlong ∈ WS := ws_tab (List.mem_of_getElem? (i := 445) (by decide +kernel)) (by decide +kernel)
theorem k_278 : Jvm.Cond.instanceMethod y_N_faultAlong ∈ WS := ws_tab (List.mem_of_getElem? (i := 447) (by decide +kernel)) (by decide +kernel)
theorem k_279 : Jvm.Cond.selects "NestedCore" y_N_faultAlong y_N_faultAlong ∈ WS := ws_sel (List.mem_of_getElem? (i := 16) (by decide +kernel)) (by decide +kernel)
set_option maxRecDepth 100000 in
theorem k_280 : Jvm.Cond.code y_N_faultAlong b_N_faultAlong 5 (some .int) ∈ WS := ws_tab (List.mem_of_getElem? (i := 448) rfl) rfl
theorem k_281 : Jvm.Cond.methodLink "NestedCore" 280 y_N_push ∈ WS := ws_tab (List.mem_of_getElem? (i := 453) (by decide +kernel)) (by decide +kernel)
theorem k_282 : Jvm.Cond.instanceMethod y_N_push ∈ WS := ws_tab (List.mem_of_getElem? (i := 455) (by decide +kernel)) (by decide +kernel)
theorem k_283 : Jvm.Cond.selects "NestedCore" y_N_push y_N_push ∈ WS := ws_sel (List.mem_of_getElem? (i := 18) (by decide +kernel)) (by decide +kernel)
set_option maxRecDepth 100000 in
theorem k_284 : Jvm.Cond.code y_N_push b_N_push 7 (some .int) ∈ WS := ws_tab (List.mem_of_getElem? (i := 456) rfl) rfl
theorem k_285 : Jvm.Cond.methodLink "NestedCore" 283 y_N_pop ∈ WS := ws_tab (List.mem_of_getElem? (i := 463) (by decide +kernel)) (by decide +kernel)
theorem k_286 : Jvm.Cond.instanceMethod y_N_pop ∈ WS := ws_tab (List.mem_of_getElem? (i := 465) (by decide +kernel)) (by decide +kernel)
theorem k_287 : Jvm.Cond.selects "NestedCore" y_N_pop y_N_pop ∈ WS := ws_sel (List.mem_of_getElem? (i := 19) (by decide +kernel)) (by decide +kernel)
set_option maxRecDepth 100000 in
theorem k_288 : Jvm.Cond.code y_N_pop b_N_pop 6 (some .int) ∈ WS := ws_tab (List.mem_of_getElem? (i := 466) rfl) rfl
theorem k_289 : Jvm.Cond.methodLink "NestedCore" 286 y_N_switchOrNothing ∈ WS := ws_tab (List.mem_of_getElem? (i := 467) (by decide +kernel)) (by decide +kernel)
theorem k_290 : Jvm.Cond.instanceMethod y_N_switchOrNothing ∈ WS := ws_tab (List.mem_of_getElem? (i := 469) (by decide +kernel)) (by decide +kernel)
theorem k_291 : Jvm.Cond.selects "NestedCore" y_N_switchOrNothing y_N_switchOrNothing ∈ WS := ws_sel (List.mem_of_getElem? (i := 20) (by decide +kernel)) (by decide +kernel)
set_option maxRecDepth 100000 in
theorem k_292 : Jvm.Cond.code y_N_switchOrNothing b_N_switchOrNothing 2 (some .int) ∈ WS := ws_tab (List.mem_of_getElem? (i := 470) rfl) rfl
theorem k_293 : Jvm.Cond.methodLink "NestedCore" 294 y_Fl_meet ∈ WS := ws_tab (List.mem_of_getElem? (i := 481) (by decide +kernel)) (by decide +kernel)
theorem k_294 : Jvm.Cond.instanceMethod y_Fl_meet ∈ WS := ws_tab (List.mem_of_getElem? (i := 482) (by decide +kernel)) (by decide +kernel)
theorem k_295 : Jvm.Cond.selects "NestedCore$Flags" y_Fl_meet y_Fl_meet ∈ WS := ws_tab (List.mem_of_getElem? (i := 483) (by decide +kernel)) (by decide +kernel)
set_option maxRecDepth 100000 in
theorem k_296 : Jvm.Cond.code y_Fl_meet b_Fl_meet 3 (some .boolean) ∈ WS := ws_tab (List.mem_of_getElem? (i := 484) rfl) rfl
theorem k_297 : Jvm.Cond.methodLink "NestedCore" 51 y_Me_holdsWord ∈ WS := ws_tab (List.mem_of_getElem? (i := 172) (by decide +kernel)) (by decide +kernel)
theorem k_298 : Jvm.Cond.instanceMethod y_Me_holdsWord ∈ WS := ws_tab (List.mem_of_getElem? (i := 173) (by decide +kernel)) (by decide +kernel)
theorem k_299 : Jvm.Cond.selects "NestedCore$Memory" y_Me_holdsWord y_Me_holdsWord ∈ WS := ws_tab (List.mem_of_getElem? (i := 174) (by decide +kernel)) (by decide +kernel)
set_option maxRecDepth 100000 in
theorem k_300 : Jvm.Cond.code y_Me_holdsWord b_Me_holdsWord 2 (some .boolean) ∈ WS := ws_tab (List.mem_of_getElem? (i := 175) rfl) rfl
theorem k_301 : Jvm.Cond.methodLink "NestedCore" 62 y_Me_store ∈ WS := ws_tab (List.mem_of_getElem? (i := 242) (by decide +kernel)) (by decide +kernel)
theorem k_302 : Jvm.Cond.instanceMethod y_Me_store ∈ WS := ws_tab (List.mem_of_getElem? (i := 243) (by decide +kernel)) (by decide +kernel)
theorem k_303 : Jvm.Cond.selects "NestedCore$Memory" y_Me_store y_Me_store ∈ WS := ws_tab (List.mem_of_getElem? (i := 244) (by decide +kernel)) (by decide +kernel)
set_option maxRecDepth 100000 in
theorem k_304 : Jvm.Cond.code y_Me_store b_Me_store 3 none ∈ WS := ws_tab (List.mem_of_getElem? (i := 245) rfl) rfl
theorem k_305 : Jvm.Cond.methodLink "NestedCore" 66 y_Me_load ∈ WS := ws_tab (List.mem_of_getElem? (i := 253) (by decide +kernel)) (by decide +kernel)
theorem k_306 : Jvm.Cond.methodLink "NestedCore" 89 y_Ti_start ∈ WS := ws_tab (List.mem_of_getElem? (i := 268) (by decide +kernel)) (by decide +kernel)
theorem k_307 : Jvm.Cond.instanceMethod y_Ti_start ∈ WS := ws_tab (List.mem_of_getElem? (i := 269) (by decide +kernel)) (by decide +kernel)
theorem k_308 : Jvm.Cond.selects "NestedCore$Ticker" y_Ti_start y_Ti_start ∈ WS := ws_tab (List.mem_of_getElem? (i := 270) (by decide +kernel)) (by decide +kernel)
set_option maxRecDepth 100000 in
theorem k_309 : Jvm.Cond.code y_Ti_start b_Ti_start 2 none ∈ WS := ws_tab (List.mem_of_getElem? (i := 271) rfl) rfl
theorem k_310 : Jvm.Cond.methodLink "NestedCore" 98 y_Ex_order ∈ WS := ws_tab (List.mem_of_getElem? (i := 287) (by decide +kernel)) (by decide +kernel)
theorem k_311 : Jvm.Cond.instanceMethod y_Ex_order ∈ WS := ws_tab (List.mem_of_getElem? (i := 288) (by decide +kernel)) (by decide +kernel)
theorem k_312 : Jvm.Cond.selects "NestedCore$Exceptions" y_Ex_order y_Ex_order ∈ WS := ws_tab (List.mem_of_getElem? (i := 289) (by decide +kernel)) (by decide +kernel)
set_option maxRecDepth 100000 in
theorem k_313 : Jvm.Cond.code y_Ex_order b_Ex_order 4 none ∈ WS := ws_tab (List.mem_of_getElem? (i := 290) rfl) rfl
theorem k_314 : Jvm.Cond.methodLink "NestedCoreModel" 102 y_Mo_store ∈ WS := ws_tab (List.mem_of_getElem? (i := 625) (by decide +kernel)) (by decide +kernel)
theorem k_315 : Jvm.Cond.instanceMethod y_Mo_store ∈ WS := ws_tab (List.mem_of_getElem? (i := 627) (by decide +kernel)) (by decide +kernel)
theorem k_316 : Jvm.Cond.selects "NestedCoreModel" y_Mo_store y_Mo_store ∈ WS := ws_sel (List.mem_of_getElem? (i := 29) (by decide +kernel)) (by decide +kernel)
set_option maxRecDepth 100000 in
theorem k_317 : Jvm.Cond.code y_Mo_store b_Mo_store 4 none ∈ WS := ws_tab (List.mem_of_getElem? (i := 628) rfl) rfl
theorem k_318 : Jvm.Cond.methodLink "NestedCoreModel" 106 y_Mo_status ∈ WS := ws_tab (List.mem_of_getElem? (i := 684) (by decide +kernel)) (by decide +kernel)
theorem k_319 : Jvm.Cond.instanceMethod y_Mo_status ∈ WS := ws_tab (List.mem_of_getElem? (i := 686) (by decide +kernel)) (by decide +kernel)
theorem k_320 : Jvm.Cond.selects "NestedCoreModel" y_Mo_status y_Mo_status ∈ WS := ws_sel (List.mem_of_getElem? (i := 36) (by decide +kernel)) (by decide +kernel)
set_option maxRecDepth 100000 in
theorem k_321 : Jvm.Cond.code y_Mo_status b_Mo_status 2 (some .int) ∈ WS := ws_tab (List.mem_of_getElem? (i := 687) rfl) rfl
theorem k_322 : Jvm.Cond.methodLink "NestedCoreModel" 110 y_Mo_enter ∈ WS := ws_tab (List.mem_of_getElem? (i := 692) (by decide +kernel)) (by decide +kernel)
theorem k_323 : Jvm.Cond.instanceMethod y_Mo_enter ∈ WS := ws_tab (List.mem_of_getElem? (i := 694) (by decide +kernel)) (by decide +kernel)
theorem k_324 : Jvm.Cond.selects "NestedCoreModel" y_Mo_enter y_Mo_enter ∈ WS := ws_sel (List.mem_of_getElem? (i := 37) (by decide +kernel)) (by decide +kernel)
set_option maxRecDepth 100000 in
theorem k_325 : Jvm.Cond.code y_Mo_enter b_Mo_enter 2 none ∈ WS := ws_tab (List.mem_of_getElem? (i := 695) rfl) rfl
theorem k_326 : Jvm.Cond.methodLink "NestedCoreModel" 117 y_Mo_flags ∈ WS := ws_tab (List.mem_of_getElem? (i := 729) (by decide +kernel)) (by decide +kernel)
theorem k_327 : Jvm.Cond.instanceMethod y_Mo_flags ∈ WS := ws_tab (List.mem_of_getElem? (i := 731) (by decide +kernel)) (by decide +kernel)
theorem k_328 : Jvm.Cond.selects "NestedCoreModel" y_Mo_flags y_Mo_flags ∈ WS := ws_sel (List.mem_of_getElem? (i := 46) (by decide +kernel)) (by decide +kernel)
set_option maxRecDepth 100000 in
theorem k_329 : Jvm.Cond.code y_Mo_flags b_Mo_flags 2 none ∈ WS := ws_tab (List.mem_of_getElem? (i := 732) rfl) rfl
theorem k_330 : Jvm.Cond.methodLink "NestedCoreModel" 125 y_Mo_test ∈ WS := ws_tab (List.mem_of_getElem? (i := 760) (by decide +kernel)) (by decide +kernel)
theorem k_331 : Jvm.Cond.instanceMethod y_Mo_test ∈ WS := ws_tab (List.mem_of_getElem? (i := 762) (by decide +kernel)) (by decide +kernel)
theorem k_332 : Jvm.Cond.selects "NestedCoreModel" y_Mo_test y_Mo_test ∈ WS := ws_sel (List.mem_of_getElem? (i := 53) (by decide +kernel)) (by decide +kernel)
set_option maxRecDepth 100000 in
theorem k_333 : Jvm.Cond.code y_Mo_test b_Mo_test 2 none ∈ WS := ws_tab (List.mem_of_getElem? (i := 763) rfl) rfl
theorem k_334 : Jvm.Cond.methodLink "NestedCoreModel" 128 y_Mo_sum ∈ WS := ws_tab (List.mem_of_getElem? (i := 764) (by decide +kernel)) (by decide +kernel)
theorem k_335 : Jvm.Cond.instanceMethod y_Mo_sum ∈ WS := ws_tab (List.mem_of_getElem? (i := 766) (by decide +kernel)) (by decide +kernel)
theorem k_336 : Jvm.Cond.selects "NestedCoreModel" y_Mo_sum y_Mo_sum ∈ WS := ws_sel (List.mem_of_getElem? (i := 54) (by decide +kernel)) (by decide +kernel)
set_option maxRecDepth 100000 in
theorem k_337 : Jvm.Cond.code y_Mo_sum b_Mo_sum 9 (some .int) ∈ WS := ws_tab (List.mem_of_getElem? (i := 767) rfl) rfl
theorem k_338 : Jvm.Cond.methodLink "NestedCoreModel" 132 y_Mo_isReturn ∈ WS := ws_tab (List.mem_of_getElem? (i := 717) (by decide +kernel)) (by decide +kernel)
theorem k_339 : Jvm.Cond.instanceMethod y_Mo_isReturn ∈ WS := ws_tab (List.mem_of_getElem? (i := 719) (by decide +kernel)) (by decide +kernel)
theorem k_340 : Jvm.Cond.selects "NestedCoreModel" y_Mo_isReturn y_Mo_isReturn ∈ WS := ws_sel (List.mem_of_getElem? (i := 43) (by decide +kernel)) (by decide +kernel)
set_option maxRecDepth 100000 in
theorem k_341 : Jvm.Cond.code y_Mo_isReturn b_Mo_isReturn 2 (some .boolean) ∈ WS := ws_tab (List.mem_of_getElem? (i := 720) rfl) rfl
theorem k_342 : Jvm.Cond.methodLink "NestedCoreModel" 135 y_Mo_due ∈ WS := ws_tab (List.mem_of_getElem? (i := 665) (by decide +kernel)) (by decide +kernel)
theorem k_343 : Jvm.Cond.instanceMethod y_Mo_due ∈ WS := ws_tab (List.mem_of_getElem? (i := 667) (by decide +kernel)) (by decide +kernel)
theorem k_344 : Jvm.Cond.selects "NestedCoreModel" y_Mo_due y_Mo_due ∈ WS := ws_sel (List.mem_of_getElem? (i := 32) (by decide +kernel)) (by decide +kernel)
set_option maxRecDepth 100000 in
theorem k_345 : Jvm.Cond.code y_Mo_due b_Mo_due 3 (some .int) ∈ WS := ws_tab (List.mem_of_getElem? (i := 668) rfl) rfl
theorem k_346 : Jvm.Cond.methodLink "NestedCoreModel" 138 y_Mo_isBack ∈ WS := ws_tab (List.mem_of_getElem? (i := 721) (by decide +kernel)) (by decide +kernel)
theorem k_347 : Jvm.Cond.instanceMethod y_Mo_isBack ∈ WS := ws_tab (List.mem_of_getElem? (i := 723) (by decide +kernel)) (by decide +kernel)
theorem k_348 : Jvm.Cond.selects "NestedCoreModel" y_Mo_isBack y_Mo_isBack ∈ WS := ws_sel (List.mem_of_getElem? (i := 44) (by decide +kernel)) (by decide +kernel)
set_option maxRecDepth 100000 in
theorem k_349 : Jvm.Cond.code y_Mo_isBack b_Mo_isBack 4 (some .boolean) ∈ WS := ws_tab (List.mem_of_getElem? (i := 724) rfl) rfl
theorem k_350 : Jvm.Cond.methodLink "NestedCoreModel" 144 y_Mo_comeBack ∈ WS := ws_tab (List.mem_of_getElem? (i := 725) (by decide +kernel)) (by decide +kernel)
theorem k_351 : Jvm.Cond.instanceMethod y_Mo_comeBack ∈ WS := ws_tab (List.mem_of_getElem? (i := 727) (by decide +kernel)) (by decide +kernel)
theorem k_352 : Jvm.Cond.selects "NestedCoreModel" y_Mo_comeBack y_Mo_comeBack ∈ WS := ws_sel (List.mem_of_getElem? (i := 45) (by decide +kernel)) (by decide +kernel)
set_option maxRecDepth 100000 in
theorem k_353 : Jvm.Cond.code y_Mo_comeBack b_Mo_comeBack 4 none ∈ WS := ws_tab (List.mem_of_getElem? (i := 728) rfl) rfl
theorem k_354 : Jvm.Cond.methodLink "NestedCoreModel" 147 y_Mo_jump ∈ WS := ws_tab (List.mem_of_getElem? (i := 713) (by decide +kernel)) (by decide +kernel)
theorem k_355 : Jvm.Cond.instanceMethod y_Mo_jump ∈ WS := ws_tab (List.mem_of_getElem? (i := 715) (by decide +kernel)) (by decide +kernel)
theorem k_356 : Jvm.Cond.selects "NestedCoreModel" y_Mo_jump y_Mo_jump ∈ WS := ws_sel (List.mem_of_getElem? (i := 42) (by decide +kernel)) (by decide +kernel)
set_option maxRecDepth 100000 in
theorem k_357 : Jvm.Cond.code y_Mo_jump b_Mo_jump 4 (some .int) ∈ WS := ws_tab (List.mem_of_getElem? (i := 716) rfl) rfl
theorem k_358 : Jvm.Cond.methodLink "NestedCoreModel" 151 y_Mo_faultOf ∈ WS := ws_tab (List.mem_of_getElem? (i := 740) (by decide +kernel)) (by decide +kernel)
theorem k_359 : Jvm.Cond.instanceMethod y_Mo_faultOf ∈ WS := ws_tab (List.mem_of_getElem? (i := 742) (by decide +kernel)) (by decide +kernel)
theorem k_360 : Jvm.Cond.selects "NestedCoreModel" y_Mo_faultOf y_Mo_faultOf ∈ WS := ws_sel (List.mem_of_getElem? (i := 48) (by decide +kernel)) (by decide +kernel)
set_option maxRecDepth 100000 in
theorem k_361 : Jvm.Cond.code y_Mo_faultOf b_Mo_faultOf 5 (some .int) ∈ WS := ws_tab (List.mem_of_getElem? (i := 743) rfl) rfl
theorem k_362 : Jvm.Cond.methodLink "NestedCoreModel" 157 y_Mo_holds ∈ WS := ws_tab (List.mem_of_getElem? (i := 748) (by decide +kernel)) (by decide +kernel)
theorem k_363 : Jvm.Cond.instanceMethod y_Mo_holds ∈ WS := ws_tab (List.mem_of_getElem? (i := 750) (by decide +kernel)) (by decide +kernel)
theorem k_364 : Jvm.Cond.selects "NestedCoreModel" y_Mo_holds y_Mo_holds ∈ WS := ws_sel (List.mem_of_getElem? (i := 50) (by decide +kernel)) (by decide +kernel)
set_option maxRecDepth 100000 in
theorem k_365 : Jvm.Cond.code y_Mo_holds b_Mo_holds 2 (some .boolean) ∈ WS := ws_tab (List.mem_of_getElem? (i := 751) rfl) rfl
theorem k_366 : Jvm.Cond.methodLink "NestedCoreModel" 164 y_Mo_push ∈ WS := ws_tab (List.mem_of_getElem? (i := 793) (by decide +kernel)) (by decide +kernel)
theorem k_367 : Jvm.Cond.instanceMethod y_Mo_push ∈ WS := ws_tab (List.mem_of_getElem? (i := 795) (by decide +kernel)) (by decide +kernel)
theorem k_368 : Jvm.Cond.selects "NestedCoreModel" y_Mo_push y_Mo_push ∈ WS := ws_sel (List.mem_of_getElem? (i := 60) (by decide +kernel)) (by decide +kernel)
set_option maxRecDepth 100000 in
theorem k_369 : Jvm.Cond.code y_Mo_push b_Mo_push 6 (some .int) ∈ WS := ws_tab (List.mem_of_getElem? (i := 796) rfl) rfl
theorem k_370 : Jvm.Cond.methodLink "NestedCoreModel" 168 y_Mo_shift ∈ WS := ws_tab (List.mem_of_getElem? (i := 756) (by decide +kernel)) (by decide +kernel)
theorem k_371 : Jvm.Cond.instanceMethod y_Mo_shift ∈ WS := ws_tab (List.mem_of_getElem? (i := 758) (by decide +kernel)) (by decide +kernel)
theorem k_372 : Jvm.Cond.selects "NestedCoreModel" y_Mo_shift y_Mo_shift ∈ WS := ws_sel (List.mem_of_getElem? (i := 52) (by decide +kernel)) (by decide +kernel)
set_option maxRecDepth 100000 in
theorem k_373 : Jvm.Cond.code y_Mo_shift b_Mo_shift 6 (some .int) ∈ WS := ws_tab (List.mem_of_getElem? (i := 759) rfl) rfl
theorem k_374 : Jvm.Cond.methodLink "NestedCoreModel" 171 y_Mo_immediate ∈ WS := ws_tab (List.mem_of_getElem? (i := 769) (by decide +kernel)) (by decide +kernel)
theorem k_375 : Jvm.Cond.instanceMethod y_Mo_immediate ∈ WS := ws_tab (List.mem_of_getElem? (i := 771) (by decide +kernel)) (by decide +kernel)
theorem k_376 : Jvm.Cond.selects "NestedCoreModel" y_Mo_immediate y_Mo_immediate ∈ WS := ws_sel (List.mem_of_getElem? (i := 55) (by decide +kernel)) (by decide +kernel)
set_option maxRecDepth 100000 in
theorem k_377 : Jvm.Cond.code y_Mo_immediate b_Mo_immediate 6 (some .int) ∈ WS := ws_tab (List.mem_of_getElem? (i := 772) rfl) rfl
theorem k_378 : Jvm.Cond.methodLink "NestedCoreModel" 174 y_Mo_logic ∈ WS := ws_tab (List.mem_of_getElem? (i := 773) (by decide +kernel)) (by decide +kernel)
theorem k_379 : Jvm.Cond.instanceMethod y_Mo_logic ∈ WS := ws_tab (List.mem_of_getElem? (i := 775) (by decide +kernel)) (by decide +kernel)
theorem k_380 : Jvm.Cond.selects "NestedCoreModel" y_Mo_logic y_Mo_logic ∈ WS := ws_sel (List.mem_of_getElem? (i := 56) (by decide +kernel)) (by decide +kernel)
set_option maxRecDepth 100000 in
theorem k_381 : Jvm.Cond.code y_Mo_logic b_Mo_logic 7 (some .int) ∈ WS := ws_tab (List.mem_of_getElem? (i := 776) rfl) rfl
theorem k_382 : Jvm.Cond.methodLink "NestedCoreModel" 177 y_Mo_moveHigh ∈ WS := ws_tab (List.mem_of_getElem? (i := 777) (by decide +kernel)) (by decide +kernel)
theorem k_383 : Jvm.Cond.instanceMethod y_Mo_moveHigh ∈ WS := ws_tab (List.mem_of_getElem? (i := 779) (by decide +kernel)) (by decide +kernel)
theorem k_384 : Jvm.Cond.selects "NestedCoreModel" y_Mo_moveHigh y_Mo_moveHigh ∈ WS := ws_sel (List.mem_of_getElem? (i := 57) (by decide +kernel)) (by decide +kernel)
set_option maxRecDepth 100000 in
theorem k_385 : Jvm.Cond.code y_Mo_moveHigh b_Mo_moveHigh 4 (some .int) ∈ WS := ws_tab (List.mem_of_getElem? (i := 780) rfl) rfl
theorem k_386 : Jvm.Cond.methodLink "NestedCoreModel" 180 y_Mo_move ∈ WS := ws_tab (List.mem_of_getElem? (i := 781) (by decide +kernel)) (by decide +kernel)
theorem k_387 : Jvm.Cond.instanceMethod y_Mo_move ∈ WS := ws_tab (List.mem_of_getElem? (i := 783) (by decide +kernel)) (by decide +kernel)
theorem k_388 : Jvm.Cond.selects "NestedCoreModel" y_Mo_move y_Mo_move ∈ WS := ws_sel (List.mem_of_getElem? (i := 58) (by decide +kernel)) (by decide +kernel)
set_option maxRecDepth 100000 in
theorem k_389 : Jvm.Cond.code y_Mo_move b_Mo_move 5 (some .int) ∈ WS := ws_tab (List.mem_of_getElem? (i := 784) rfl) rfl
theorem k_390 : Jvm.Cond.methodLink "NestedCoreModel" 184 y_Mo_special ∈ WS := ws_tab (List.mem_of_getElem? (i := 785) (by decide +kernel)) (by decide +kernel)
theorem k_391 : Jvm.Cond.instanceMethod y_Mo_special ∈ WS := ws_tab (List.mem_of_getElem? (i := 787) (by decide +kernel)) (by decide +kernel)
theorem k_392 : Jvm.Cond.selects "NestedCoreModel" y_Mo_special y_Mo_special ∈ WS := ws_sel (List.mem_of_getElem? (i := 59) (by decide +kernel)) (by decide +kernel)
set_option maxRecDepth 100000 in
theorem k_393 : Jvm.Cond.code y_Mo_special b_Mo_special 2 (some .int) ∈ WS := ws_tab (List.mem_of_getElem? (i := 788) rfl) rfl
theorem k_394 : Jvm.Cond.methodLink "NestedCoreModel" 188 y_Mo_exchange ∈ WS := ws_tab (List.mem_of_getElem? (i := 709) (by decide +kernel)) (by decide +kernel)
theorem k_395 : Jvm.Cond.instanceMethod y_Mo_exchange ∈ WS := ws_tab (List.mem_of_getElem? (i := 711) (by decide +kernel)) (by decide +kernel)
theorem k_396 : Jvm.Cond.selects "NestedCoreModel" y_Mo_exchange y_Mo_exchange ∈ WS := ws_sel (List.mem_of_getElem? (i := 41) (by decide +kernel)) (by decide +kernel)
set_option maxRecDepth 100000 in
theorem k_397 : Jvm.Cond.code y_Mo_exchange b_Mo_exchange 3 (some .int) ∈ WS := ws_tab (List.mem_of_getElem? (i := 712) rfl) rfl
theorem k_398 : Jvm.Cond.methodLink "NestedCoreModel" 191 y_Mo_pop ∈ WS := ws_tab (List.mem_of_getElem? (i := 733) (by decide +kernel)) (by decide +kernel)
theorem k_399 : Jvm.Cond.instanceMethod y_Mo_pop ∈ WS := ws_tab (List.mem_of_getElem? (i := 735) (by decide +kernel)) (by decide +kernel)
theorem k_400 : Jvm.Cond.selects "NestedCoreModel" y_Mo_pop y_Mo_pop ∈ WS := ws_sel (List.mem_of_getElem? (i := 47) (by decide +kernel)) (by decide +kernel)
set_option maxRecDepth 100000 in
theorem k_401 : Jvm.Cond.code y_Mo_pop b_Mo_pop 10 (some .int) ∈ WS := ws_tab (List.mem_of_getElem? (i := 736) rfl) rfl
theorem k_402 : Jvm.Cond.methodLink "NestedCoreModel" 194 y_Mo_conditional ∈ WS := ws_tab (List.mem_of_getElem? (i := 744) (by decide +kernel)) (by decide +kernel)
theorem k_403 : Jvm.Cond.instanceMethod y_Mo_conditional ∈ WS := ws_tab (List.mem_of_getElem? (i := 746) (by decide +kernel)) (by decide +kernel)
theorem k_404 : Jvm.Cond.selects "NestedCoreModel" y_Mo_conditional y_Mo_conditional ∈ WS := ws_sel (List.mem_of_getElem? (i := 49) (by decide +kernel)) (by decide +kernel)
set_option maxRecDepth 100000 in
theorem k_405 : Jvm.Cond.code y_Mo_conditional b_Mo_conditional 4 (some .int) ∈ WS := ws_tab (List.mem_of_getElem? (i := 747) rfl) rfl
theorem k_406 : Jvm.Cond.methodLink "NestedCoreModel" 197 y_Mo_plain ∈ WS := ws_tab (List.mem_of_getElem? (i := 752) (by decide +kernel)) (by decide +kernel)
theorem k_407 : Jvm.Cond.instanceMethod y_Mo_plain ∈ WS := ws_tab (List.mem_of_getElem? (i := 754) (by decide +kernel)) (by decide +kernel)
theorem k_408 : Jvm.Cond.selects "NestedCoreModel" y_Mo_plain y_Mo_plain ∈ WS := ws_sel (List.mem_of_getElem? (i := 51) (by decide +kernel)) (by decide +kernel)
set_option maxRecDepth 100000 in
theorem k_409 : Jvm.Cond.code y_Mo_plain b_Mo_plain 5 (some .int) ∈ WS := ws_tab (List.mem_of_getElem? (i := 755) rfl) rfl
theorem k_410 : Jvm.Cond.methodLink "NestedCoreModel" 200 y_Mo_does ∈ WS := ws_tab (List.mem_of_getElem? (i := 704) (by decide +kernel)) (by decide +kernel)
theorem k_411 : Jvm.Cond.instanceMethod y_Mo_does ∈ WS := ws_tab (List.mem_of_getElem? (i := 706) (by decide +kernel)) (by decide +kernel)
theorem k_412 : Jvm.Cond.selects "NestedCoreModel" y_Mo_does y_Mo_does ∈ WS := ws_sel (List.mem_of_getElem? (i := 40) (by decide +kernel)) (by decide +kernel)
set_option maxRecDepth 100000 in
theorem k_413 : Jvm.Cond.code y_Mo_does b_Mo_does 3 (some .int) ∈ WS := ws_tab (List.mem_of_getElem? (i := 707) rfl) rfl
theorem k_414 : Jvm.Cond.methodLink "NestedCoreModel" 209 y_Mo_take ∈ WS := ws_tab (List.mem_of_getElem? (i := 677) (by decide +kernel)) (by decide +kernel)
theorem k_415 : Jvm.Cond.instanceMethod y_Mo_take ∈ WS := ws_tab (List.mem_of_getElem? (i := 679) (by decide +kernel)) (by decide +kernel)
theorem k_416 : Jvm.Cond.selects "NestedCoreModel" y_Mo_take y_Mo_take ∈ WS := ws_sel (List.mem_of_getElem? (i := 35) (by decide +kernel)) (by decide +kernel)
set_option maxRecDepth 100000 in
theorem k_417 : Jvm.Cond.code y_Mo_take b_Mo_take 5 none ∈ WS := ws_tab (List.mem_of_getElem? (i := 680) rfl) rfl
theorem k_418 : Jvm.Cond.methodLink "NestedCoreModel" 212 y_Mo_fetched ∈ WS := ws_tab (List.mem_of_getElem? (i := 696) (by decide +kernel)) (by decide +kernel)
theorem k_419 : Jvm.Cond.instanceMethod y_Mo_fetched ∈ WS := ws_tab (List.mem_of_getElem? (i := 698) (by decide +kernel)) (by decide +kernel)
theorem k_420 : Jvm.Cond.selects "NestedCoreModel" y_Mo_fetched y_Mo_fetched ∈ WS := ws_sel (List.mem_of_getElem? (i := 38) (by decide +kernel)) (by decide +kernel)
set_option maxRecDepth 100000 in
theorem k_421 : Jvm.Cond.code y_Mo_fetched b_Mo_fetched 2 (some .int) ∈ WS := ws_tab (List.mem_of_getElem? (i := 699) rfl) rfl
theorem k_422 : Jvm.Cond.methodLink "NestedCoreModel" 215 y_Mo_fault ∈ WS := ws_tab (List.mem_of_getElem? (i := 798) (by decide +kernel)) (by decide +kernel)
theorem k_423 : Jvm.Cond.instanceMethod y_Mo_fault ∈ WS := ws_tab (List.mem_of_getElem? (i := 800) (by decide +kernel)) (by decide +kernel)
theorem k_424 : Jvm.Cond.selects "NestedCoreModel" y_Mo_fault y_Mo_fault ∈ WS := ws_sel (List.mem_of_getElem? (i := 61) (by decide +kernel)) (by decide +kernel)
set_option maxRecDepth 100000 in
theorem k_425 : Jvm.Cond.code y_Mo_fault b_Mo_fault 3 none ∈ WS := ws_tab (List.mem_of_getElem? (i := 801) rfl) rfl
theorem k_426 : Jvm.Cond.methodLink "NestedCoreModel" 218 y_Mo_fails ∈ WS := ws_tab (List.mem_of_getElem? (i := 621) (by decide +kernel)) (by decide +kernel)
theorem k_427 : Jvm.Cond.instanceMethod y_Mo_fails ∈ WS := ws_tab (List.mem_of_getElem? (i := 623) (by decide +kernel)) (by decide +kernel)
theorem k_428 : Jvm.Cond.selects "NestedCoreModel" y_Mo_fails y_Mo_fails ∈ WS := ws_sel (List.mem_of_getElem? (i := 28) (by decide +kernel)) (by decide +kernel)
set_option maxRecDepth 100000 in
theorem k_429 : Jvm.Cond.code y_Mo_fails b_Mo_fails 2 (some .boolean) ∈ WS := ws_tab (List.mem_of_getElem? (i := 624) rfl) rfl
theorem k_430 : Jvm.Cond.methodLink "NestedCoreModel" 222 y_Mo_step ∈ WS := ws_tab (List.mem_of_getElem? (i := 661) (by decide +kernel)) (by decide +kernel)
theorem k_431 : Jvm.Cond.instanceMethod y_Mo_step ∈ WS := ws_tab (List.mem_of_getElem? (i := 663) (by decide +kernel)) (by decide +kernel)
theorem k_432 : Jvm.Cond.selects "NestedCoreModel" y_Mo_step y_Mo_step ∈ WS := ws_sel (List.mem_of_getElem? (i := 31) (by decide +kernel)) (by decide +kernel)
set_option maxRecDepth 100000 in
theorem k_433 : Jvm.Cond.code y_Mo_step b_Mo_step 3 none ∈ WS := ws_tab (List.mem_of_getElem? (i := 664) rfl) rfl
theorem k_434 : Jvm.Cond.methodLink "NestedCoreModel" 49 y_Mo_barred ∈ WS := ws_tab (List.mem_of_getElem? (i := 700) (by decide +kernel)) (by decide +kernel)
theorem k_435 : Jvm.Cond.instanceMethod y_Mo_barred ∈ WS := ws_tab (List.mem_of_getElem? (i := 702) (by decide +kernel)) (by decide +kernel)
theorem k_436 : Jvm.Cond.selects "NestedCoreModel" y_Mo_barred y_Mo_barred ∈ WS := ws_sel (List.mem_of_getElem? (i := 39) (by decide +kernel)) (by decide +kernel)
set_option maxRecDepth 100000 in
theorem k_437 : Jvm.Cond.code y_Mo_barred b_Mo_barred 5 (some .boolean) ∈ WS := ws_tab (List.mem_of_getElem? (i := 703) rfl) rfl
theorem k_438 : Jvm.Cond.methodLink "NestedCoreModel" 56 y_Mo_group ∈ WS := ws_tab (List.mem_of_getElem? (i := 669) (by decide +kernel)) (by decide +kernel)
theorem k_439 : Jvm.Cond.instanceMethod y_Mo_group ∈ WS := ws_tab (List.mem_of_getElem? (i := 671) (by decide +kernel)) (by decide +kernel)
theorem k_440 : Jvm.Cond.selects "NestedCoreModel" y_Mo_group y_Mo_group ∈ WS := ws_sel (List.mem_of_getElem? (i := 33) (by decide +kernel)) (by decide +kernel)
set_option maxRecDepth 100000 in
theorem k_441 : Jvm.Cond.code y_Mo_group b_Mo_group 2 (some .int) ∈ WS := ws_tab (List.mem_of_getElem? (i := 672) rfl) rfl
theorem k_442 : Jvm.Cond.methodLink "NestedCoreModel" 70 y_Mo_level ∈ WS := ws_tab (List.mem_of_getElem? (i := 673) (by decide +kernel)) (by decide +kernel)
theorem k_443 : Jvm.Cond.instanceMethod y_Mo_level ∈ WS := ws_tab (List.mem_of_getElem? (i := 675) (by decide +kernel)) (by decide +kernel)
theorem k_444 : Jvm.Cond.selects "NestedCoreModel" y_Mo_level y_Mo_level ∈ WS := ws_sel (List.mem_of_getElem? (i := 34) (by decide +kernel)) (by decide +kernel)
set_option maxRecDepth 100000 in
theorem k_445 : Jvm.Cond.code y_Mo_level b_Mo_level 3 (some .int) ∈ WS := ws_tab (List.mem_of_getElem? (i := 676) rfl) rfl
theorem k_446 : Jvm.Cond.methodLink "NestedCoreModel" 77 y_Mo_load ∈ WS := ws_tab (List.mem_of_getElem? (i := 633) (by decide +kernel)) (by decide +kernel)
theorem k_447 : Jvm.Cond.instanceMethod y_Mo_load ∈ WS := ws_tab (List.mem_of_getElem? (i := 635) (by decide +kernel)) (by decide +kernel)
theorem k_448 : Jvm.Cond.selects "NestedCoreModel" y_Mo_load y_Mo_load ∈ WS := ws_sel (List.mem_of_getElem? (i := 30) (by decide +kernel)) (by decide +kernel)
set_option maxRecDepth 100000 in
theorem k_449 : Jvm.Cond.code y_Mo_load b_Mo_load 2 (some .int) ∈ WS := ws_tab (List.mem_of_getElem? (i := 636) rfl) rfl
theorem k_450 : Jvm.Cond.static ⟨"java/lang/Math", "min", "(II)I"⟩ ∈ WS := ws_tab (List.mem_of_getElem? (i := 341) (by decide +kernel)) (by decide +kernel)
theorem k_451 : Jvm.Cond.initialized "java/lang/Math" ∈ WS := ws_tab (List.mem_of_getElem? (i := 12) (by decide +kernel)) (by decide +kernel)
theorem k_452 : Jvm.Cond.static ⟨"java/lang/System", "arraycopy", "(Ljava/lang/Object;ILjava/lang/Object;II)V"⟩ ∈ WS := ws_tab (List.mem_of_getElem? (i := 362) (by decide +kernel)) (by decide +kernel)
theorem k_453 : Jvm.Cond.initialized "java/lang/System" ∈ WS := ws_tab (List.mem_of_getElem? (i := 13) (by decide +kernel)) (by decide +kernel)
theorem in_N : ∀ w ∈ u_ws "NestedCore" F_N 12, w ∈ WS := in_of (by decide +kernel)
theorem in_Me : ∀ w ∈ u_ws "NestedCore$Memory" F_Me 1, w ∈ WS := in_of (by decide +kernel)
theorem in_Ar : ∀ w ∈ u_ws "NestedCore$Areas" F_Ar 4, w ∈ WS := in_of (by decide +kernel)
theorem in_Ex : ∀ w ∈ u_ws "NestedCore$Exceptions" F_Ex 8, w ∈ WS := in_of (by decide +kernel)
theorem in_Fl : ∀ w ∈ u_ws "NestedCore$Flags" F_Fl 4, w ∈ WS := in_of (by decide +kernel)
theorem in_Ti : ∀ w ∈ u_ws "NestedCore$Ticker" F_Ti 2, w ∈ WS := in_of (by decide +kernel)
theorem in_Mo : ∀ w ∈ u_ws "NestedCoreModel" F_Mo 26, w ∈ WS := in_of (by decide +kernel)
section ROWS
variable {p : Program} {l : Launch} {e : Env} {R : Room} {s : State} {m : MethodId} {args : Array Value} {below : List Frame} {meth : Method} {c : Code} {H : Heap} {locs : List Loc} {cells slots : Nat} {Q : State → Prop}
variable {cc : ByteArray} {pc nL : Nat} {ls : Array Slot} {rest : List Value} {D : va_G} {cI cZ : ClassId} {A : Nat → Prop} {a : Nat → Nat} {σ : nS}
theorem g_Ar_15 (hx : p.tables.exec = Jvm.exec) (hb : c.code = cc) (hts : ∀ w ∈ WS, w.before args s = true) (hown : s.vm.findClass "NestedCore$Areas" = some m.cls) (hK : va_K D clS (tyS cI cZ) s) (hP : va_P D clS (wC cI cZ a σ) H) (hd : decode cc pc = .ok (.getfield 15, 3)) (kk : W p l e R s m args below meth c H locs cells slots Q (F0 m (pc + 3) ls (.ref (a 7) :: rest))) : W p l e R s m args below meth c H locs cells slots Q (F0 m pc ls (.ref (a 5) :: rest)) :=
  va_get (D := D) (ci := 2) (v := .ref (a 7)) (C := "NestedCore$Areas") (T := F_Ar) (N := 4) hx hb hts in_Ar hown hK hP 5 rfl rfl 1 (by decide) (hts _ k_19) (fun _ h => h) rfl hd kk
theorem g_Ar_18 (hx : p.tables.exec = Jvm.exec) (hb : c.code = cc) (hts : ∀ w ∈ WS, w.before args s = true) (hown : s.vm.findClass "NestedCore$Areas" = some m.cls) (hK : va_K D clS (tyS cI cZ) s) (hP : va_P D clS (wC cI cZ a σ) H) (hd : decode cc pc = .ok (.getfield 18, 3)) (kk : W p l e R s m args below meth c H locs cells slots Q (F0 m (pc + 3) ls (.ref (a 8) :: rest))) : W p l e R s m args below meth c H locs cells slots Q (F0 m pc ls (.ref (a 5) :: rest)) :=
  va_get (D := D) (ci := 2) (v := .ref (a 8)) (C := "NestedCore$Areas") (T := F_Ar) (N := 4) hx hb hts in_Ar hown hK hP 5 rfl rfl 2 (by decide) (hts _ k_20) (fun _ h => h) rfl hd kk
theorem g_Ar_21 (hx : p.tables.exec = Jvm.exec) (hb : c.code = cc) (hts : ∀ w ∈ WS, w.before args s = true) (hown : s.vm.findClass "NestedCore$Areas" = some m.cls) (hK : va_K D clS (tyS cI cZ) s) (hP : va_P D clS (wC cI cZ a σ) H) (hd : decode cc pc = .ok (.getfield 21, 3)) (kk : W p l e R s m args below meth c H locs cells slots Q (F0 m (pc + 3) ls (.ref (a 9) :: rest))) : W p l e R s m args below meth c H locs cells slots Q (F0 m pc ls (.ref (a 5) :: rest)) :=
  va_get (D := D) (ci := 2) (v := .ref (a 9)) (C := "NestedCore$Areas") (T := F_Ar) (N := 4) hx hb hts in_Ar hown hK hP 5 rfl rfl 3 (by decide) (hts _ k_21) (fun _ h => h) rfl hd kk
theorem g_Ar_9 (hx : p.tables.exec = Jvm.exec) (hb : c.code = cc) (hts : ∀ w ∈ WS, w.before args s = true) (hown : s.vm.findClass "NestedCore$Areas" = some m.cls) (hK : va_K D clS (tyS cI cZ) s) (hP : va_P D clS (wC cI cZ a σ) H) (hd : decode cc pc = .ok (.getfield 9, 3)) (kk : W p l e R s m args below meth c H locs cells slots Q (F0 m (pc + 3) ls (.ref (a 6) :: rest))) : W p l e R s m args below meth c H locs cells slots Q (F0 m pc ls (.ref (a 5) :: rest)) :=
  va_get (D := D) (ci := 2) (v := .ref (a 6)) (C := "NestedCore$Areas") (T := F_Ar) (N := 4) hx hb hts in_Ar hown hK hP 5 rfl rfl 0 (by decide) (hts _ k_22) (fun _ h => h) rfl hd kk
theorem g_Ex_15 (hx : p.tables.exec = Jvm.exec) (hb : c.code = cc) (hts : ∀ w ∈ WS, w.before args s = true) (hown : s.vm.findClass "NestedCore$Exceptions" = some m.cls) (hK : va_K D clS (tyS cI cZ) s) (hP : va_P D clS (wC cI cZ a σ) H) (hd : decode cc pc = .ok (.getfield 15, 3)) (kk : W p l e R s m args below meth c H locs cells slots Q (F0 m (pc + 3) ls (.ref (a 12) :: rest))) : W p l e R s m args below meth c H locs cells slots Q (F0 m pc ls (.ref (a 10) :: rest)) :=
  va_get (D := D) (ci := 3) (v := .ref (a 12)) (C := "NestedCore$Exceptions") (T := F_Ex) (N := 8) hx hb hts in_Ex hown hK hP 10 rfl rfl 1 (by decide) (hts _ k_23) (fun _ h => h) rfl hd kk
theorem g_Ex_18 (hx : p.tables.exec = Jvm.exec) (hb : c.code = cc) (hts : ∀ w ∈ WS, w.before args s = true) (hown : s.vm.findClass "NestedCore$Exceptions" = some m.cls) (hK : va_K D clS (tyS cI cZ) s) (hP : va_P D clS (wC cI cZ a σ) H) (hd : decode cc pc = .ok (.getfield 18, 3)) (kk : W p l e R s m args below meth c H locs cells slots Q (F0 m (pc + 3) ls (.ref (a 13) :: rest))) : W p l e R s m args below meth c H locs cells slots Q (F0 m pc ls (.ref (a 10) :: rest)) :=
  va_get (D := D) (ci := 3) (v := .ref (a 13)) (C := "NestedCore$Exceptions") (T := F_Ex) (N := 8) hx hb hts in_Ex hown hK hP 10 rfl rfl 2 (by decide) (hts _ k_24) (fun _ h => h) rfl hd kk
theorem g_Ex_21 (hx : p.tables.exec = Jvm.exec) (hb : c.code = cc) (hts : ∀ w ∈ WS, w.before args s = true) (hown : s.vm.findClass "NestedCore$Exceptions" = some m.cls) (hK : va_K D clS (tyS cI cZ) s) (hP : va_P D clS (wC cI cZ a σ) H) (hd : decode cc pc = .ok (.getfield 21, 3)) (kk : W p l e R s m args below meth c H locs cells slots Q (F0 m (pc + 3) ls (.ref (a 14) :: rest))) : W p l e R s m args below meth c H locs cells slots Q (F0 m pc ls (.ref (a 10) :: rest)) :=
  va_get (D := D) (ci := 3) (v := .ref (a 14)) (C := "NestedCore$Exceptions") (T := F_Ex) (N := 8) hx hb hts in_Ex hown hK hP 10 rfl rfl 3 (by decide) (hts _ k_25) (fun _ h => h) rfl hd kk
theorem g_Ex_25 (hx : p.tables.exec = Jvm.exec) (hb : c.code = cc) (hts : ∀ w ∈ WS, w.before args s = true) (hown : s.vm.findClass "NestedCore$Exceptions" = some m.cls) (hK : va_K D clS (tyS cI cZ) s) (hP : va_P D clS (wC cI cZ a σ) H) (hd : decode cc pc = .ok (.getfield 25, 3)) (kk : W p l e R s m args below meth c H locs cells slots Q (F0 m (pc + 3) ls (.int (σ 8 0) :: rest))) : W p l e R s m args below meth c H locs cells slots Q (F0 m pc ls (.ref (a 10) :: rest)) :=
  va_get (D := D) (ci := 3) (v := .int (σ 8 0)) (C := "NestedCore$Exceptions") (T := F_Ex) (N := 8) hx hb hts in_Ex hown hK hP 10 rfl rfl 4 (by decide) (hts _ k_26) (fun _ h => h) rfl hd kk
theorem g_Ex_39 (hx : p.tables.exec = Jvm.exec) (hb : c.code = cc) (hts : ∀ w ∈ WS, w.before args s = true) (hown : s.vm.findClass "NestedCore$Exceptions" = some m.cls) (hK : va_K D clS (tyS cI cZ) s) (hP : va_P D clS (wC cI cZ a σ) H) (hd : decode cc pc = .ok (.getfield 39, 3)) (kk : W p l e R s m args below meth c H locs cells slots Q (F0 m (pc + 3) ls (.int (σ 8 1) :: rest))) : W p l e R s m args below meth c H locs cells slots Q (F0 m pc ls (.ref (a 10) :: rest)) :=
  va_get (D := D) (ci := 3) (v := .int (σ 8 1)) (C := "NestedCore$Exceptions") (T := F_Ex) (N := 8) hx hb hts in_Ex hown hK hP 10 rfl rfl 5 (by decide) (hts _ k_27) (fun _ h => h) rfl hd kk
theorem g_Ex_42 (hx : p.tables.exec = Jvm.exec) (hb : c.code = cc) (hts : ∀ w ∈ WS, w.before args s = true) (hown : s.vm.findClass "NestedCore$Exceptions" = some m.cls) (hK : va_K D clS (tyS cI cZ) s) (hP : va_P D clS (wC cI cZ a σ) H) (hd : decode cc pc = .ok (.getfield 42, 3)) (kk : W p l e R s m args below meth c H locs cells slots Q (F0 m (pc + 3) ls (.int (σ 8 2) :: rest))) : W p l e R s m args below meth c H locs cells slots Q (F0 m pc ls (.ref (a 10) :: rest)) :=
  va_get (D := D) (ci := 3) (v := .int (σ 8 2)) (C := "NestedCore$Exceptions") (T := F_Ex) (N := 8) hx hb hts in_Ex hown hK hP 10 rfl rfl 6 (by decide) (hts _ k_28) (fun _ h => h) rfl hd kk
theorem g_Ex_46 (hx : p.tables.exec = Jvm.exec) (hb : c.code = cc) (hts : ∀ w ∈ WS, w.before args s = true) (hown : s.vm.findClass "NestedCore$Exceptions" = some m.cls) (hK : va_K D clS (tyS cI cZ) s) (hP : va_P D clS (wC cI cZ a σ) H) (hd : decode cc pc = .ok (.getfield 46, 3)) (kk : W p l e R s m args below meth c H locs cells slots Q (F0 m (pc + 3) ls (.int (σ 8 3) :: rest))) : W p l e R s m args below meth c H locs cells slots Q (F0 m pc ls (.ref (a 10) :: rest)) :=
  va_get (D := D) (ci := 3) (v := .int (σ 8 3)) (C := "NestedCore$Exceptions") (T := F_Ex) (N := 8) hx hb hts in_Ex hown hK hP 10 rfl rfl 7 (by decide) (hts _ k_29) (fun _ h => h) rfl hd kk
theorem g_Ex_9 (hx : p.tables.exec = Jvm.exec) (hb : c.code = cc) (hts : ∀ w ∈ WS, w.before args s = true) (hown : s.vm.findClass "NestedCore$Exceptions" = some m.cls) (hK : va_K D clS (tyS cI cZ) s) (hP : va_P D clS (wC cI cZ a σ) H) (hd : decode cc pc = .ok (.getfield 9, 3)) (kk : W p l e R s m args below meth c H locs cells slots Q (F0 m (pc + 3) ls (.ref (a 11) :: rest))) : W p l e R s m args below meth c H locs cells slots Q (F0 m pc ls (.ref (a 10) :: rest)) :=
  va_get (D := D) (ci := 3) (v := .ref (a 11)) (C := "NestedCore$Exceptions") (T := F_Ex) (N := 8) hx hb hts in_Ex hown hK hP 10 rfl rfl 0 (by decide) (hts _ k_30) (fun _ h => h) rfl hd kk
theorem g_Fl_13 (hx : p.tables.exec = Jvm.exec) (hb : c.code = cc) (hts : ∀ w ∈ WS, w.before args s = true) (hown : s.vm.findClass "NestedCore$Flags" = some m.cls) (hK : va_K D clS (tyS cI cZ) s) (hP : va_P D clS (wC cI cZ a σ) H) (hd : decode cc pc = .ok (.getfield 13, 3)) (kk : W p l e R s m args below meth c H locs cells slots Q (F0 m (pc + 3) ls (.int (σ 8 5) :: rest))) : W p l e R s m args below meth c H locs cells slots Q (F0 m pc ls (.ref (a 15) :: rest)) :=
  va_get (D := D) (ci := 4) (v := .int (σ 8 5)) (C := "NestedCore$Flags") (T := F_Fl) (N := 4) hx hb hts in_Fl hown hK hP 15 rfl rfl 1 (by decide) (hts _ k_31) (fun _ h => h) rfl hd kk
theorem g_Fl_16 (hx : p.tables.exec = Jvm.exec) (hb : c.code = cc) (hts : ∀ w ∈ WS, w.before args s = true) (hown : s.vm.findClass "NestedCore$Flags" = some m.cls) (hK : va_K D clS (tyS cI cZ) s) (hP : va_P D clS (wC cI cZ a σ) H) (hd : decode cc pc = .ok (.getfield 16, 3)) (kk : W p l e R s m args below meth c H locs cells slots Q (F0 m (pc + 3) ls (.int (σ 8 6) :: rest))) : W p l e R s m args below meth c H locs cells slots Q (F0 m pc ls (.ref (a 15) :: rest)) :=
  va_get (D := D) (ci := 4) (v := .int (σ 8 6)) (C := "NestedCore$Flags") (T := F_Fl) (N := 4) hx hb hts in_Fl hown hK hP 15 rfl rfl 2 (by decide) (hts _ k_32) (fun _ h => h) rfl hd kk
theorem g_Fl_21 (hx : p.tables.exec = Jvm.exec) (hb : c.code = cc) (hts : ∀ w ∈ WS, w.before args s = true) (hown : s.vm.findClass "NestedCore$Flags" = some m.cls) (hK : va_K D clS (tyS cI cZ) s) (hP : va_P D clS (wC cI cZ a σ) H) (hd : decode cc pc = .ok (.getfield 21, 3)) (kk : W p l e R s m args below meth c H locs cells slots Q (F0 m (pc + 3) ls (.int (σ 8 7) :: rest))) : W p l e R s m args below meth c H locs cells slots Q (F0 m pc ls (.ref (a 15) :: rest)) :=
  va_get (D := D) (ci := 4) (v := .int (σ 8 7)) (C := "NestedCore$Flags") (T := F_Fl) (N := 4) hx hb hts in_Fl hown hK hP 15 rfl rfl 3 (by decide) (hts _ k_33) (fun _ h => h) rfl hd kk
theorem g_Fl_7 (hx : p.tables.exec = Jvm.exec) (hb : c.code = cc) (hts : ∀ w ∈ WS, w.before args s = true) (hown : s.vm.findClass "NestedCore$Flags" = some m.cls) (hK : va_K D clS (tyS cI cZ) s) (hP : va_P D clS (wC cI cZ a σ) H) (hd : decode cc pc = .ok (.getfield 7, 3)) (kk : W p l e R s m args below meth c H locs cells slots Q (F0 m (pc + 3) ls (.int (σ 8 4) :: rest))) : W p l e R s m args below meth c H locs cells slots Q (F0 m pc ls (.ref (a 15) :: rest)) :=
  va_get (D := D) (ci := 4) (v := .int (σ 8 4)) (C := "NestedCore$Flags") (T := F_Fl) (N := 4) hx hb hts in_Fl hown hK hP 15 rfl rfl 0 (by decide) (hts _ k_34) (fun _ h => h) rfl hd kk
theorem g_Me_9 (hx : p.tables.exec = Jvm.exec) (hb : c.code = cc) (hts : ∀ w ∈ WS, w.before args s = true) (hown : s.vm.findClass "NestedCore$Memory" = some m.cls) (hK : va_K D clS (tyS cI cZ) s) (hP : va_P D clS (wC cI cZ a σ) H) (hd : decode cc pc = .ok (.getfield 9, 3)) (kk : W p l e R s m args below meth c H locs cells slots Q (F0 m (pc + 3) ls (.ref (a 4) :: rest))) : W p l e R s m args below meth c H locs cells slots Q (F0 m pc ls (.ref (a 3) :: rest)) :=
  va_get (D := D) (ci := 1) (v := .ref (a 4)) (C := "NestedCore$Memory") (T := F_Me) (N := 1) hx hb hts in_Me hown hK hP 3 rfl rfl 0 (by decide) (hts _ k_35) (fun _ h => h) rfl hd kk
theorem g_Ti_13 (hx : p.tables.exec = Jvm.exec) (hb : c.code = cc) (hts : ∀ w ∈ WS, w.before args s = true) (hown : s.vm.findClass "NestedCore$Ticker" = some m.cls) (hK : va_K D clS (tyS cI cZ) s) (hP : va_P D clS (wC cI cZ a σ) H) (hd : decode cc pc = .ok (.getfield 13, 3)) (kk : W p l e R s m args below meth c H locs cells slots Q (F0 m (pc + 3) ls (.int (σ 8 9) :: rest))) : W p l e R s m args below meth c H locs cells slots Q (F0 m pc ls (.ref (a 16) :: rest)) :=
  va_get (D := D) (ci := 5) (v := .int (σ 8 9)) (C := "NestedCore$Ticker") (T := F_Ti) (N := 2) hx hb hts in_Ti hown hK hP 16 rfl rfl 1 (by decide) (hts _ k_36) (fun _ h => h) rfl hd kk
theorem g_Ti_7 (hx : p.tables.exec = Jvm.exec) (hb : c.code = cc) (hts : ∀ w ∈ WS, w.before args s = true) (hown : s.vm.findClass "NestedCore$Ticker" = some m.cls) (hK : va_K D clS (tyS cI cZ) s) (hP : va_P D clS (wC cI cZ a σ) H) (hd : decode cc pc = .ok (.getfield 7, 3)) (kk : W p l e R s m args below meth c H locs cells slots Q (F0 m (pc + 3) ls (.int (σ 8 8) :: rest))) : W p l e R s m args below meth c H locs cells slots Q (F0 m pc ls (.ref (a 16) :: rest)) :=
  va_get (D := D) (ci := 5) (v := .int (σ 8 8)) (C := "NestedCore$Ticker") (T := F_Ti) (N := 2) hx hb hts in_Ti hown hK hP 16 rfl rfl 0 (by decide) (hts _ k_37) (fun _ h => h) rfl hd kk
theorem g_N_104 (hx : p.tables.exec = Jvm.exec) (hb : c.code = cc) (hts : ∀ w ∈ WS, w.before args s = true) (hown : s.vm.findClass "NestedCore" = some m.cls) (hK : va_K D clS (tyS cI cZ) s) (hP : va_P D clS (wC cI cZ a σ) H) (hd : decode cc pc = .ok (.getfield 104, 3)) (kk : W p l e R s m args below meth c H locs cells slots Q (F0 m (pc + 3) ls (.ref (a 12) :: rest))) : W p l e R s m args below meth c H locs cells slots Q (F0 m pc ls (.ref (a 10) :: rest)) :=
  va_get (D := D) (ci := 3) (v := .ref (a 12)) (C := "NestedCore$Exceptions") (T := F_Ex) (N := 8) hx hb hts in_Ex hown hK hP 10 rfl rfl 1 (by decide) (hts _ k_38) (fun _ h => h) rfl hd kk
theorem g_N_118 (hx : p.tables.exec = Jvm.exec) (hb : c.code = cc) (hts : ∀ w ∈ WS, w.before args s = true) (hown : s.vm.findClass "NestedCore" = some m.cls) (hK : va_K D clS (tyS cI cZ) s) (hP : va_P D clS (wC cI cZ a σ) H) (hd : decode cc pc = .ok (.getfield 118, 3)) (kk : W p l e R s m args below meth c H locs cells slots Q (F0 m (pc + 3) ls (.int (σ 8 11) :: rest))) : W p l e R s m args below meth c H locs cells slots Q (F0 m pc ls (.ref (a 0) :: rest)) :=
  va_get (D := D) (ci := 0) (v := .int (σ 8 11)) (C := "NestedCore") (T := F_N) (N := 12) hx hb hts in_N hown hK hP 0 rfl rfl 8 (by decide) (hts _ k_39) (fun _ h => h) rfl hd kk
theorem g_N_128 (hx : p.tables.exec = Jvm.exec) (hb : c.code = cc) (hts : ∀ w ∈ WS, w.before args s = true) (hown : s.vm.findClass "NestedCore" = some m.cls) (hK : va_K D clS (tyS cI cZ) s) (hP : va_P D clS (wC cI cZ a σ) H) (hd : decode cc pc = .ok (.getfield 128, 3)) (kk : W p l e R s m args below meth c H locs cells slots Q (F0 m (pc + 3) ls (.int (σ 8 10) :: rest))) : W p l e R s m args below meth c H locs cells slots Q (F0 m pc ls (.ref (a 0) :: rest)) :=
  va_get (D := D) (ci := 0) (v := .int (σ 8 10)) (C := "NestedCore") (T := F_N) (N := 12) hx hb hts in_N hown hK hP 0 rfl rfl 7 (by decide) (hts _ k_40) (fun _ h => h) rfl hd kk
theorem g_N_13 (hx : p.tables.exec = Jvm.exec) (hb : c.code = cc) (hts : ∀ w ∈ WS, w.before args s = true) (hown : s.vm.findClass "NestedCore" = some m.cls) (hK : va_K D clS (tyS cI cZ) s) (hP : va_P D clS (wC cI cZ a σ) H) (hd : decode cc pc = .ok (.getfield 13, 3)) (kk : W p l e R s m args below meth c H locs cells slots Q (F0 m (pc + 3) ls (.ref (a 2) :: rest))) : W p l e R s m args below meth c H locs cells slots Q (F0 m pc ls (.ref (a 0) :: rest)) :=
  va_get (D := D) (ci := 0) (v := .ref (a 2)) (C := "NestedCore") (T := F_N) (N := 12) hx hb hts in_N hown hK hP 0 rfl rfl 1 (by decide) (hts _ k_41) (fun _ h => h) rfl hd kk
theorem g_N_137 (hx : p.tables.exec = Jvm.exec) (hb : c.code = cc) (hts : ∀ w ∈ WS, w.before args s = true) (hown : s.vm.findClass "NestedCore" = some m.cls) (hK : va_K D clS (tyS cI cZ) s) (hP : va_P D clS (wC cI cZ a σ) H) (hd : decode cc pc = .ok (.getfield 137, 3)) (kk : W p l e R s m args below meth c H locs cells slots Q (F0 m (pc + 3) ls (.int (σ 8 12) :: rest))) : W p l e R s m args below meth c H locs cells slots Q (F0 m pc ls (.ref (a 0) :: rest)) :=
  va_get (D := D) (ci := 0) (v := .int (σ 8 12)) (C := "NestedCore") (T := F_N) (N := 12) hx hb hts in_N hown hK hP 0 rfl rfl 9 (by decide) (hts _ k_42) (fun _ h => h) rfl hd kk
theorem g_N_140 (hx : p.tables.exec = Jvm.exec) (hb : c.code = cc) (hts : ∀ w ∈ WS, w.before args s = true) (hown : s.vm.findClass "NestedCore" = some m.cls) (hK : va_K D clS (tyS cI cZ) s) (hP : va_P D clS (wC cI cZ a σ) H) (hd : decode cc pc = .ok (.getfield 140, 3)) (kk : W p l e R s m args below meth c H locs cells slots Q (F0 m (pc + 3) ls (.int (σ 8 13) :: rest))) : W p l e R s m args below meth c H locs cells slots Q (F0 m pc ls (.ref (a 0) :: rest)) :=
  va_get (D := D) (ci := 0) (v := .int (σ 8 13)) (C := "NestedCore") (T := F_N) (N := 12) hx hb hts in_N hown hK hP 0 rfl rfl 10 (by decide) (hts _ k_43) (fun _ h => h) rfl hd kk
theorem g_N_143 (hx : p.tables.exec = Jvm.exec) (hb : c.code = cc) (hts : ∀ w ∈ WS, w.before args s = true) (hown : s.vm.findClass "NestedCore" = some m.cls) (hK : va_K D clS (tyS cI cZ) s) (hP : va_P D clS (wC cI cZ a σ) H) (hd : decode cc pc = .ok (.getfield 143, 3)) (kk : W p l e R s m args below meth c H locs cells slots Q (F0 m (pc + 3) ls (.int (σ 8 14) :: rest))) : W p l e R s m args below meth c H locs cells slots Q (F0 m pc ls (.ref (a 0) :: rest)) :=
  va_get (D := D) (ci := 0) (v := .int (σ 8 14)) (C := "NestedCore") (T := F_N) (N := 12) hx hb hts in_N hown hK hP 0 rfl rfl 11 (by decide) (hts _ k_44) (fun _ h => h) rfl hd kk
theorem g_N_146 (hx : p.tables.exec = Jvm.exec) (hb : c.code = cc) (hts : ∀ w ∈ WS, w.before args s = true) (hown : s.vm.findClass "NestedCore" = some m.cls) (hK : va_K D clS (tyS cI cZ) s) (hP : va_P D clS (wC cI cZ a σ) H) (hd : decode cc pc = .ok (.getfield 146, 3)) (kk : W p l e R s m args below meth c H locs cells slots Q (F0 m (pc + 3) ls (.int (σ 8 9) :: rest))) : W p l e R s m args below meth c H locs cells slots Q (F0 m pc ls (.ref (a 16) :: rest)) :=
  va_get (D := D) (ci := 5) (v := .int (σ 8 9)) (C := "NestedCore$Ticker") (T := F_Ti) (N := 2) hx hb hts in_Ti hown hK hP 16 rfl rfl 1 (by decide) (hts _ k_45) (fun _ h => h) rfl hd kk
theorem g_N_19 (hx : p.tables.exec = Jvm.exec) (hb : c.code = cc) (hts : ∀ w ∈ WS, w.before args s = true) (hown : s.vm.findClass "NestedCore" = some m.cls) (hK : va_K D clS (tyS cI cZ) s) (hP : va_P D clS (wC cI cZ a σ) H) (hd : decode cc pc = .ok (.getfield 19, 3)) (kk : W p l e R s m args below meth c H locs cells slots Q (F0 m (pc + 3) ls (.ref (a 3) :: rest))) : W p l e R s m args below meth c H locs cells slots Q (F0 m pc ls (.ref (a 0) :: rest)) :=
  va_get (D := D) (ci := 0) (v := .ref (a 3)) (C := "NestedCore") (T := F_N) (N := 12) hx hb hts in_N hown hK hP 0 rfl rfl 2 (by decide) (hts _ k_46) (fun _ h => h) rfl hd kk
theorem g_N_190 (hx : p.tables.exec = Jvm.exec) (hb : c.code = cc) (hts : ∀ w ∈ WS, w.before args s = true) (hown : s.vm.findClass "NestedCore" = some m.cls) (hK : va_K D clS (tyS cI cZ) s) (hP : va_P D clS (wC cI cZ a σ) H) (hd : decode cc pc = .ok (.getfield 190, 3)) (kk : W p l e R s m args below meth c H locs cells slots Q (F0 m (pc + 3) ls (.ref (a 13) :: rest))) : W p l e R s m args below meth c H locs cells slots Q (F0 m pc ls (.ref (a 10) :: rest)) :=
  va_get (D := D) (ci := 3) (v := .ref (a 13)) (C := "NestedCore$Exceptions") (T := F_Ex) (N := 8) hx hb hts in_Ex hown hK hP 10 rfl rfl 2 (by decide) (hts _ k_47) (fun _ h => h) rfl hd kk
theorem g_N_193 (hx : p.tables.exec = Jvm.exec) (hb : c.code = cc) (hts : ∀ w ∈ WS, w.before args s = true) (hown : s.vm.findClass "NestedCore" = some m.cls) (hK : va_K D clS (tyS cI cZ) s) (hP : va_P D clS (wC cI cZ a σ) H) (hd : decode cc pc = .ok (.getfield 193, 3)) (kk : W p l e R s m args below meth c H locs cells slots Q (F0 m (pc + 3) ls (.ref (a 11) :: rest))) : W p l e R s m args below meth c H locs cells slots Q (F0 m pc ls (.ref (a 10) :: rest)) :=
  va_get (D := D) (ci := 3) (v := .ref (a 11)) (C := "NestedCore$Exceptions") (T := F_Ex) (N := 8) hx hb hts in_Ex hown hK hP 10 rfl rfl 0 (by decide) (hts _ k_48) (fun _ h => h) rfl hd kk
theorem g_N_26 (hx : p.tables.exec = Jvm.exec) (hb : c.code = cc) (hts : ∀ w ∈ WS, w.before args s = true) (hown : s.vm.findClass "NestedCore" = some m.cls) (hK : va_K D clS (tyS cI cZ) s) (hP : va_P D clS (wC cI cZ a σ) H) (hd : decode cc pc = .ok (.getfield 26, 3)) (kk : W p l e R s m args below meth c H locs cells slots Q (F0 m (pc + 3) ls (.ref (a 5) :: rest))) : W p l e R s m args below meth c H locs cells slots Q (F0 m pc ls (.ref (a 0) :: rest)) :=
  va_get (D := D) (ci := 0) (v := .ref (a 5)) (C := "NestedCore") (T := F_N) (N := 12) hx hb hts in_N hown hK hP 0 rfl rfl 3 (by decide) (hts _ k_49) (fun _ h => h) rfl hd kk
theorem g_N_33 (hx : p.tables.exec = Jvm.exec) (hb : c.code = cc) (hts : ∀ w ∈ WS, w.before args s = true) (hown : s.vm.findClass "NestedCore" = some m.cls) (hK : va_K D clS (tyS cI cZ) s) (hP : va_P D clS (wC cI cZ a σ) H) (hd : decode cc pc = .ok (.getfield 33, 3)) (kk : W p l e R s m args below meth c H locs cells slots Q (F0 m (pc + 3) ls (.ref (a 10) :: rest))) : W p l e R s m args below meth c H locs cells slots Q (F0 m pc ls (.ref (a 0) :: rest)) :=
  va_get (D := D) (ci := 0) (v := .ref (a 10)) (C := "NestedCore") (T := F_N) (N := 12) hx hb hts in_N hown hK hP 0 rfl rfl 4 (by decide) (hts _ k_50) (fun _ h => h) rfl hd kk
theorem g_N_40 (hx : p.tables.exec = Jvm.exec) (hb : c.code = cc) (hts : ∀ w ∈ WS, w.before args s = true) (hown : s.vm.findClass "NestedCore" = some m.cls) (hK : va_K D clS (tyS cI cZ) s) (hP : va_P D clS (wC cI cZ a σ) H) (hd : decode cc pc = .ok (.getfield 40, 3)) (kk : W p l e R s m args below meth c H locs cells slots Q (F0 m (pc + 3) ls (.ref (a 15) :: rest))) : W p l e R s m args below meth c H locs cells slots Q (F0 m pc ls (.ref (a 0) :: rest)) :=
  va_get (D := D) (ci := 0) (v := .ref (a 15)) (C := "NestedCore") (T := F_N) (N := 12) hx hb hts in_N hown hK hP 0 rfl rfl 5 (by decide) (hts _ k_51) (fun _ h => h) rfl hd kk
theorem g_N_47 (hx : p.tables.exec = Jvm.exec) (hb : c.code = cc) (hts : ∀ w ∈ WS, w.before args s = true) (hown : s.vm.findClass "NestedCore" = some m.cls) (hK : va_K D clS (tyS cI cZ) s) (hP : va_P D clS (wC cI cZ a σ) H) (hd : decode cc pc = .ok (.getfield 47, 3)) (kk : W p l e R s m args below meth c H locs cells slots Q (F0 m (pc + 3) ls (.ref (a 16) :: rest))) : W p l e R s m args below meth c H locs cells slots Q (F0 m pc ls (.ref (a 0) :: rest)) :=
  va_get (D := D) (ci := 0) (v := .ref (a 16)) (C := "NestedCore") (T := F_N) (N := 12) hx hb hts in_N hown hK hP 0 rfl rfl 6 (by decide) (hts _ k_52) (fun _ h => h) rfl hd kk
theorem g_N_75 (hx : p.tables.exec = Jvm.exec) (hb : c.code = cc) (hts : ∀ w ∈ WS, w.before args s = true) (hown : s.vm.findClass "NestedCore" = some m.cls) (hK : va_K D clS (tyS cI cZ) s) (hP : va_P D clS (wC cI cZ a σ) H) (hd : decode cc pc = .ok (.getfield 75, 3)) (kk : W p l e R s m args below meth c H locs cells slots Q (F0 m (pc + 3) ls (.int (σ 8 2) :: rest))) : W p l e R s m args below meth c H locs cells slots Q (F0 m pc ls (.ref (a 10) :: rest)) :=
  va_get (D := D) (ci := 3) (v := .int (σ 8 2)) (C := "NestedCore$Exceptions") (T := F_Ex) (N := 8) hx hb hts in_Ex hown hK hP 10 rfl rfl 6 (by decide) (hts _ k_53) (fun _ h => h) rfl hd kk
theorem g_N_79 (hx : p.tables.exec = Jvm.exec) (hb : c.code = cc) (hts : ∀ w ∈ WS, w.before args s = true) (hown : s.vm.findClass "NestedCore" = some m.cls) (hK : va_K D clS (tyS cI cZ) s) (hP : va_P D clS (wC cI cZ a σ) H) (hd : decode cc pc = .ok (.getfield 79, 3)) (kk : W p l e R s m args below meth c H locs cells slots Q (F0 m (pc + 3) ls (.int (σ 8 3) :: rest))) : W p l e R s m args below meth c H locs cells slots Q (F0 m pc ls (.ref (a 10) :: rest)) :=
  va_get (D := D) (ci := 3) (v := .int (σ 8 3)) (C := "NestedCore$Exceptions") (T := F_Ex) (N := 8) hx hb hts in_Ex hown hK hP 10 rfl rfl 7 (by decide) (hts _ k_54) (fun _ h => h) rfl hd kk
theorem g_N_82 (hx : p.tables.exec = Jvm.exec) (hb : c.code = cc) (hts : ∀ w ∈ WS, w.before args s = true) (hown : s.vm.findClass "NestedCore" = some m.cls) (hK : va_K D clS (tyS cI cZ) s) (hP : va_P D clS (wC cI cZ a σ) H) (hd : decode cc pc = .ok (.getfield 82, 3)) (kk : W p l e R s m args below meth c H locs cells slots Q (F0 m (pc + 3) ls (.int (σ 8 1) :: rest))) : W p l e R s m args below meth c H locs cells slots Q (F0 m pc ls (.ref (a 10) :: rest)) :=
  va_get (D := D) (ci := 3) (v := .int (σ 8 1)) (C := "NestedCore$Exceptions") (T := F_Ex) (N := 8) hx hb hts in_Ex hown hK hP 10 rfl rfl 5 (by decide) (hts _ k_55) (fun _ h => h) rfl hd kk
theorem g_N_86 (hx : p.tables.exec = Jvm.exec) (hb : c.code = cc) (hts : ∀ w ∈ WS, w.before args s = true) (hown : s.vm.findClass "NestedCore" = some m.cls) (hK : va_K D clS (tyS cI cZ) s) (hP : va_P D clS (wC cI cZ a σ) H) (hd : decode cc pc = .ok (.getfield 86, 3)) (kk : W p l e R s m args below meth c H locs cells slots Q (F0 m (pc + 3) ls (.int (σ 8 0) :: rest))) : W p l e R s m args below meth c H locs cells slots Q (F0 m pc ls (.ref (a 10) :: rest)) :=
  va_get (D := D) (ci := 3) (v := .int (σ 8 0)) (C := "NestedCore$Exceptions") (T := F_Ex) (N := 8) hx hb hts in_Ex hown hK hP 10 rfl rfl 4 (by decide) (hts _ k_56) (fun _ h => h) rfl hd kk
theorem g_N_9 (hx : p.tables.exec = Jvm.exec) (hb : c.code = cc) (hts : ∀ w ∈ WS, w.before args s = true) (hown : s.vm.findClass "NestedCore" = some m.cls) (hK : va_K D clS (tyS cI cZ) s) (hP : va_P D clS (wC cI cZ a σ) H) (hd : decode cc pc = .ok (.getfield 9, 3)) (kk : W p l e R s m args below meth c H locs cells slots Q (F0 m (pc + 3) ls (.ref (a 1) :: rest))) : W p l e R s m args below meth c H locs cells slots Q (F0 m pc ls (.ref (a 0) :: rest)) :=
  va_get (D := D) (ci := 0) (v := .ref (a 1)) (C := "NestedCore") (T := F_N) (N := 12) hx hb hts in_N hown hK hP 0 rfl rfl 0 (by decide) (hts _ k_57) (fun _ h => h) rfl hd kk
theorem g_N_93 (hx : p.tables.exec = Jvm.exec) (hb : c.code = cc) (hts : ∀ w ∈ WS, w.before args s = true) (hown : s.vm.findClass "NestedCore" = some m.cls) (hK : va_K D clS (tyS cI cZ) s) (hP : va_P D clS (wC cI cZ a σ) H) (hd : decode cc pc = .ok (.getfield 93, 3)) (kk : W p l e R s m args below meth c H locs cells slots Q (F0 m (pc + 3) ls (.int (σ 8 8) :: rest))) : W p l e R s m args below meth c H locs cells slots Q (F0 m pc ls (.ref (a 16) :: rest)) :=
  va_get (D := D) (ci := 5) (v := .int (σ 8 8)) (C := "NestedCore$Ticker") (T := F_Ti) (N := 2) hx hb hts in_Ti hown hK hP 16 rfl rfl 0 (by decide) (hts _ k_58) (fun _ h => h) rfl hd kk
theorem g_Mo_114 (hx : p.tables.exec = Jvm.exec) (hb : c.code = cc) (hts : ∀ w ∈ WS, w.before args s = true) (hown : s.vm.findClass "NestedCoreModel" = some m.cls) (hK : va_K D clS (tyS cI cZ) s) (hP : va_P D clS (wM cI cZ a σ) H) (hd : decode cc pc = .ok (.getfield 114, 3)) (kk : W p l e R s m args below meth c H locs cells slots Q (F0 m (pc + 3) ls (.int (σ 8 12) :: rest))) : W p l e R s m args below meth c H locs cells slots Q (F0 m pc ls (.ref (a 0) :: rest)) :=
  va_get (D := D) (ci := 6) (v := .int (σ 8 12)) (C := "NestedCoreModel") (T := F_Mo) (N := 26) hx hb hts in_Mo hown hK hP 0 rfl rfl 19 (by decide) (hts _ k_59) (fun _ h => h) rfl hd kk
theorem g_Mo_120 (hx : p.tables.exec = Jvm.exec) (hb : c.code = cc) (hts : ∀ w ∈ WS, w.before args s = true) (hown : s.vm.findClass "NestedCoreModel" = some m.cls) (hK : va_K D clS (tyS cI cZ) s) (hP : va_P D clS (wM cI cZ a σ) H) (hd : decode cc pc = .ok (.getfield 120, 3)) (kk : W p l e R s m args below meth c H locs cells slots Q (F0 m (pc + 3) ls (.int (σ 8 14) :: rest))) : W p l e R s m args below meth c H locs cells slots Q (F0 m pc ls (.ref (a 0) :: rest)) :=
  va_get (D := D) (ci := 6) (v := .int (σ 8 14)) (C := "NestedCoreModel") (T := F_Mo) (N := 26) hx hb hts in_Mo hown hK hP 0 rfl rfl 21 (by decide) (hts _ k_60) (fun _ h => h) rfl hd kk
theorem g_Mo_13 (hx : p.tables.exec = Jvm.exec) (hb : c.code = cc) (hts : ∀ w ∈ WS, w.before args s = true) (hown : s.vm.findClass "NestedCoreModel" = some m.cls) (hK : va_K D clS (tyS cI cZ) s) (hP : va_P D clS (wM cI cZ a σ) H) (hd : decode cc pc = .ok (.getfield 13, 3)) (kk : W p l e R s m args below meth c H locs cells slots Q (F0 m (pc + 3) ls (.ref (a 2) :: rest))) : W p l e R s m args below meth c H locs cells slots Q (F0 m pc ls (.ref (a 0) :: rest)) :=
  va_get (D := D) (ci := 6) (v := .ref (a 2)) (C := "NestedCoreModel") (T := F_Mo) (N := 26) hx hb hts in_Mo hown hK hP 0 rfl rfl 2 (by decide) (hts _ k_61) (fun _ h => h) rfl hd kk
theorem g_Mo_141 (hx : p.tables.exec = Jvm.exec) (hb : c.code = cc) (hts : ∀ w ∈ WS, w.before args s = true) (hown : s.vm.findClass "NestedCoreModel" = some m.cls) (hK : va_K D clS (tyS cI cZ) s) (hP : va_P D clS (wM cI cZ a σ) H) (hd : decode cc pc = .ok (.getfield 141, 3)) (kk : W p l e R s m args below meth c H locs cells slots Q (F0 m (pc + 3) ls (.int (σ 8 13) :: rest))) : W p l e R s m args below meth c H locs cells slots Q (F0 m pc ls (.ref (a 0) :: rest)) :=
  va_get (D := D) (ci := 6) (v := .int (σ 8 13)) (C := "NestedCoreModel") (T := F_Mo) (N := 26) hx hb hts in_Mo hown hK hP 0 rfl rfl 20 (by decide) (hts _ k_62) (fun _ h => h) rfl hd kk
theorem g_Mo_16 (hx : p.tables.exec = Jvm.exec) (hb : c.code = cc) (hts : ∀ w ∈ WS, w.before args s = true) (hown : s.vm.findClass "NestedCoreModel" = some m.cls) (hK : va_K D clS (tyS cI cZ) s) (hP : va_P D clS (wM cI cZ a σ) H) (hd : decode cc pc = .ok (.getfield 16, 3)) (kk : W p l e R s m args below meth c H locs cells slots Q (F0 m (pc + 3) ls (.ref (a 3) :: rest))) : W p l e R s m args below meth c H locs cells slots Q (F0 m pc ls (.ref (a 0) :: rest)) :=
  va_get (D := D) (ci := 6) (v := .ref (a 3)) (C := "NestedCoreModel") (T := F_Mo) (N := 26) hx hb hts in_Mo hown hK hP 0 rfl rfl 7 (by decide) (hts _ k_63) (fun _ h => h) rfl hd kk
theorem g_Mo_19 (hx : p.tables.exec = Jvm.exec) (hb : c.code = cc) (hts : ∀ w ∈ WS, w.before args s = true) (hown : s.vm.findClass "NestedCoreModel" = some m.cls) (hK : va_K D clS (tyS cI cZ) s) (hP : va_P D clS (wM cI cZ a σ) H) (hd : decode cc pc = .ok (.getfield 19, 3)) (kk : W p l e R s m args below meth c H locs cells slots Q (F0 m (pc + 3) ls (.ref (a 4) :: rest))) : W p l e R s m args below meth c H locs cells slots Q (F0 m pc ls (.ref (a 0) :: rest)) :=
  va_get (D := D) (ci := 6) (v := .ref (a 4)) (C := "NestedCoreModel") (T := F_Mo) (N := 26) hx hb hts in_Mo hown hK hP 0 rfl rfl 8 (by decide) (hts _ k_64) (fun _ h => h) rfl hd kk
theorem g_Mo_203 (hx : p.tables.exec = Jvm.exec) (hb : c.code = cc) (hts : ∀ w ∈ WS, w.before args s = true) (hown : s.vm.findClass "NestedCoreModel" = some m.cls) (hK : va_K D clS (tyS cI cZ) s) (hP : va_P D clS (wM cI cZ a σ) H) (hd : decode cc pc = .ok (.getfield 203, 3)) (kk : W p l e R s m args below meth c H locs cells slots Q (F0 m (pc + 3) ls (.int (σ 8 8) :: rest))) : W p l e R s m args below meth c H locs cells slots Q (F0 m pc ls (.ref (a 0) :: rest)) :=
  va_get (D := D) (ci := 6) (v := .int (σ 8 8)) (C := "NestedCoreModel") (T := F_Mo) (N := 26) hx hb hts in_Mo hown hK hP 0 rfl rfl 15 (by decide) (hts _ k_65) (fun _ h => h) rfl hd kk
theorem g_Mo_206 (hx : p.tables.exec = Jvm.exec) (hb : c.code = cc) (hts : ∀ w ∈ WS, w.before args s = true) (hown : s.vm.findClass "NestedCoreModel" = some m.cls) (hK : va_K D clS (tyS cI cZ) s) (hP : va_P D clS (wM cI cZ a σ) H) (hd : decode cc pc = .ok (.getfield 206, 3)) (kk : W p l e R s m args below meth c H locs cells slots Q (F0 m (pc + 3) ls (.int (σ 8 9) :: rest))) : W p l e R s m args below meth c H locs cells slots Q (F0 m pc ls (.ref (a 0) :: rest)) :=
  va_get (D := D) (ci := 6) (v := .int (σ 8 9)) (C := "NestedCoreModel") (T := F_Mo) (N := 26) hx hb hts in_Mo hown hK hP 0 rfl rfl 16 (by decide) (hts _ k_66) (fun _ h => h) rfl hd kk
theorem g_Mo_23 (hx : p.tables.exec = Jvm.exec) (hb : c.code = cc) (hts : ∀ w ∈ WS, w.before args s = true) (hown : s.vm.findClass "NestedCoreModel" = some m.cls) (hK : va_K D clS (tyS cI cZ) s) (hP : va_P D clS (wM cI cZ a σ) H) (hd : decode cc pc = .ok (.getfield 23, 3)) (kk : W p l e R s m args below meth c H locs cells slots Q (F0 m (pc + 3) ls (.ref (a 5) :: rest))) : W p l e R s m args below meth c H locs cells slots Q (F0 m pc ls (.ref (a 0) :: rest)) :=
  va_get (D := D) (ci := 6) (v := .ref (a 5)) (C := "NestedCoreModel") (T := F_Mo) (N := 26) hx hb hts in_Mo hown hK hP 0 rfl rfl 9 (by decide) (hts _ k_67) (fun _ h => h) rfl hd kk
theorem g_Mo_26 (hx : p.tables.exec = Jvm.exec) (hb : c.code = cc) (hts : ∀ w ∈ WS, w.before args s = true) (hown : s.vm.findClass "NestedCoreModel" = some m.cls) (hK : va_K D clS (tyS cI cZ) s) (hP : va_P D clS (wM cI cZ a σ) H) (hd : decode cc pc = .ok (.getfield 26, 3)) (kk : W p l e R s m args below meth c H locs cells slots Q (F0 m (pc + 3) ls (.ref (a 6) :: rest))) : W p l e R s m args below meth c H locs cells slots Q (F0 m pc ls (.ref (a 0) :: rest)) :=
  va_get (D := D) (ci := 6) (v := .ref (a 6)) (C := "NestedCoreModel") (T := F_Mo) (N := 26) hx hb hts in_Mo hown hK hP 0 rfl rfl 10 (by decide) (hts _ k_68) (fun _ h => h) rfl hd kk
theorem g_Mo_29 (hx : p.tables.exec = Jvm.exec) (hb : c.code = cc) (hts : ∀ w ∈ WS, w.before args s = true) (hown : s.vm.findClass "NestedCoreModel" = some m.cls) (hK : va_K D clS (tyS cI cZ) s) (hP : va_P D clS (wM cI cZ a σ) H) (hd : decode cc pc = .ok (.getfield 29, 3)) (kk : W p l e R s m args below meth c H locs cells slots Q (F0 m (pc + 3) ls (.ref (a 7) :: rest))) : W p l e R s m args below meth c H locs cells slots Q (F0 m pc ls (.ref (a 0) :: rest)) :=
  va_get (D := D) (ci := 6) (v := .ref (a 7)) (C := "NestedCoreModel") (T := F_Mo) (N := 26) hx hb hts in_Mo hown hK hP 0 rfl rfl 22 (by decide) (hts _ k_69) (fun _ h => h) rfl hd kk
theorem g_Mo_32 (hx : p.tables.exec = Jvm.exec) (hb : c.code = cc) (hts : ∀ w ∈ WS, w.before args s = true) (hown : s.vm.findClass "NestedCoreModel" = some m.cls) (hK : va_K D clS (tyS cI cZ) s) (hP : va_P D clS (wM cI cZ a σ) H) (hd : decode cc pc = .ok (.getfield 32, 3)) (kk : W p l e R s m args below meth c H locs cells slots Q (F0 m (pc + 3) ls (.ref (a 8) :: rest))) : W p l e R s m args below meth c H locs cells slots Q (F0 m pc ls (.ref (a 0) :: rest)) :=
  va_get (D := D) (ci := 6) (v := .ref (a 8)) (C := "NestedCoreModel") (T := F_Mo) (N := 26) hx hb hts in_Mo hown hK hP 0 rfl rfl 23 (by decide) (hts _ k_70) (fun _ h => h) rfl hd kk
theorem g_Mo_35 (hx : p.tables.exec = Jvm.exec) (hb : c.code = cc) (hts : ∀ w ∈ WS, w.before args s = true) (hown : s.vm.findClass "NestedCoreModel" = some m.cls) (hK : va_K D clS (tyS cI cZ) s) (hP : va_P D clS (wM cI cZ a σ) H) (hd : decode cc pc = .ok (.getfield 35, 3)) (kk : W p l e R s m args below meth c H locs cells slots Q (F0 m (pc + 3) ls (.ref (a 9) :: rest))) : W p l e R s m args below meth c H locs cells slots Q (F0 m pc ls (.ref (a 0) :: rest)) :=
  va_get (D := D) (ci := 6) (v := .ref (a 9)) (C := "NestedCoreModel") (T := F_Mo) (N := 26) hx hb hts in_Mo hown hK hP 0 rfl rfl 24 (by decide) (hts _ k_71) (fun _ h => h) rfl hd kk
theorem g_Mo_38 (hx : p.tables.exec = Jvm.exec) (hb : c.code = cc) (hts : ∀ w ∈ WS, w.before args s = true) (hown : s.vm.findClass "NestedCoreModel" = some m.cls) (hK : va_K D clS (tyS cI cZ) s) (hP : va_P D clS (wM cI cZ a σ) H) (hd : decode cc pc = .ok (.getfield 38, 3)) (kk : W p l e R s m args below meth c H locs cells slots Q (F0 m (pc + 3) ls (.ref (a 10) :: rest))) : W p l e R s m args below meth c H locs cells slots Q (F0 m pc ls (.ref (a 0) :: rest)) :=
  va_get (D := D) (ci := 6) (v := .ref (a 10)) (C := "NestedCoreModel") (T := F_Mo) (N := 26) hx hb hts in_Mo hown hK hP 0 rfl rfl 25 (by decide) (hts _ k_72) (fun _ h => h) rfl hd kk
theorem g_Mo_41 (hx : p.tables.exec = Jvm.exec) (hb : c.code = cc) (hts : ∀ w ∈ WS, w.before args s = true) (hown : s.vm.findClass "NestedCoreModel" = some m.cls) (hK : va_K D clS (tyS cI cZ) s) (hP : va_P D clS (wM cI cZ a σ) H) (hd : decode cc pc = .ok (.getfield 41, 3)) (kk : W p l e R s m args below meth c H locs cells slots Q (F0 m (pc + 3) ls (.int (σ 8 15) :: rest))) : W p l e R s m args below meth c H locs cells slots Q (F0 m pc ls (.ref (a 0) :: rest)) :=
  va_get (D := D) (ci := 6) (v := .int (σ 8 15)) (C := "NestedCoreModel") (T := F_Mo) (N := 26) hx hb hts in_Mo hown hK hP 0 rfl rfl 0 (by decide) (hts _ k_73) (fun _ h => h) rfl hd kk
theorem g_Mo_53 (hx : p.tables.exec = Jvm.exec) (hb : c.code = cc) (hts : ∀ w ∈ WS, w.before args s = true) (hown : s.vm.findClass "NestedCoreModel" = some m.cls) (hK : va_K D clS (tyS cI cZ) s) (hP : va_P D clS (wM cI cZ a σ) H) (hd : decode cc pc = .ok (.getfield 53, 3)) (kk : W p l e R s m args below meth c H locs cells slots Q (F0 m (pc + 3) ls (.int (σ 8 0) :: rest))) : W p l e R s m args below meth c H locs cells slots Q (F0 m pc ls (.ref (a 0) :: rest)) :=
  va_get (D := D) (ci := 6) (v := .int (σ 8 0)) (C := "NestedCoreModel") (T := F_Mo) (N := 26) hx hb hts in_Mo hown hK hP 0 rfl rfl 11 (by decide) (hts _ k_74) (fun _ h => h) rfl hd kk
theorem g_Mo_60 (hx : p.tables.exec = Jvm.exec) (hb : c.code = cc) (hts : ∀ w ∈ WS, w.before args s = true) (hown : s.vm.findClass "NestedCoreModel" = some m.cls) (hK : va_K D clS (tyS cI cZ) s) (hP : va_P D clS (wM cI cZ a σ) H) (hd : decode cc pc = .ok (.getfield 60, 3)) (kk : W p l e R s m args below meth c H locs cells slots Q (F0 m (pc + 3) ls (.int (σ 8 1) :: rest))) : W p l e R s m args below meth c H locs cells slots Q (F0 m pc ls (.ref (a 0) :: rest)) :=
  va_get (D := D) (ci := 6) (v := .int (σ 8 1)) (C := "NestedCoreModel") (T := F_Mo) (N := 26) hx hb hts in_Mo hown hK hP 0 rfl rfl 12 (by decide) (hts _ k_75) (fun _ h => h) rfl hd kk
theorem g_Mo_63 (hx : p.tables.exec = Jvm.exec) (hb : c.code = cc) (hts : ∀ w ∈ WS, w.before args s = true) (hown : s.vm.findClass "NestedCoreModel" = some m.cls) (hK : va_K D clS (tyS cI cZ) s) (hP : va_P D clS (wM cI cZ a σ) H) (hd : decode cc pc = .ok (.getfield 63, 3)) (kk : W p l e R s m args below meth c H locs cells slots Q (F0 m (pc + 3) ls (.int (σ 8 2) :: rest))) : W p l e R s m args below meth c H locs cells slots Q (F0 m pc ls (.ref (a 0) :: rest)) :=
  va_get (D := D) (ci := 6) (v := .int (σ 8 2)) (C := "NestedCoreModel") (T := F_Mo) (N := 26) hx hb hts in_Mo hown hK hP 0 rfl rfl 13 (by decide) (hts _ k_76) (fun _ h => h) rfl hd kk
theorem g_Mo_67 (hx : p.tables.exec = Jvm.exec) (hb : c.code = cc) (hts : ∀ w ∈ WS, w.before args s = true) (hown : s.vm.findClass "NestedCoreModel" = some m.cls) (hK : va_K D clS (tyS cI cZ) s) (hP : va_P D clS (wM cI cZ a σ) H) (hd : decode cc pc = .ok (.getfield 67, 3)) (kk : W p l e R s m args below meth c H locs cells slots Q (F0 m (pc + 3) ls (.int (σ 8 3) :: rest))) : W p l e R s m args below meth c H locs cells slots Q (F0 m pc ls (.ref (a 0) :: rest)) :=
  va_get (D := D) (ci := 6) (v := .int (σ 8 3)) (C := "NestedCoreModel") (T := F_Mo) (N := 26) hx hb hts in_Mo hown hK hP 0 rfl rfl 14 (by decide) (hts _ k_77) (fun _ h => h) rfl hd kk
theorem g_Mo_7 (hx : p.tables.exec = Jvm.exec) (hb : c.code = cc) (hts : ∀ w ∈ WS, w.before args s = true) (hown : s.vm.findClass "NestedCoreModel" = some m.cls) (hK : va_K D clS (tyS cI cZ) s) (hP : va_P D clS (wM cI cZ a σ) H) (hd : decode cc pc = .ok (.getfield 7, 3)) (kk : W p l e R s m args below meth c H locs cells slots Q (F0 m (pc + 3) ls (.ref (a 1) :: rest))) : W p l e R s m args below meth c H locs cells slots Q (F0 m pc ls (.ref (a 0) :: rest)) :=
  va_get (D := D) (ci := 6) (v := .ref (a 1)) (C := "NestedCoreModel") (T := F_Mo) (N := 26) hx hb hts in_Mo hown hK hP 0 rfl rfl 1 (by decide) (hts _ k_78) (fun _ h => h) rfl hd kk
theorem g_Mo_74 (hx : p.tables.exec = Jvm.exec) (hb : c.code = cc) (hts : ∀ w ∈ WS, w.before args s = true) (hown : s.vm.findClass "NestedCoreModel" = some m.cls) (hK : va_K D clS (tyS cI cZ) s) (hP : va_P D clS (wM cI cZ a σ) H) (hd : decode cc pc = .ok (.getfield 74, 3)) (kk : W p l e R s m args below meth c H locs cells slots Q (F0 m (pc + 3) ls (.int (σ 8 10) :: rest))) : W p l e R s m args below meth c H locs cells slots Q (F0 m pc ls (.ref (a 0) :: rest)) :=
  va_get (D := D) (ci := 6) (v := .int (σ 8 10)) (C := "NestedCoreModel") (T := F_Mo) (N := 26) hx hb hts in_Mo hown hK hP 0 rfl rfl 17 (by decide) (hts _ k_79) (fun _ h => h) rfl hd kk
theorem g_Mo_80 (hx : p.tables.exec = Jvm.exec) (hb : c.code = cc) (hts : ∀ w ∈ WS, w.before args s = true) (hown : s.vm.findClass "NestedCoreModel" = some m.cls) (hK : va_K D clS (tyS cI cZ) s) (hP : va_P D clS (wM cI cZ a σ) H) (hd : decode cc pc = .ok (.getfield 80, 3)) (kk : W p l e R s m args below meth c H locs cells slots Q (F0 m (pc + 3) ls (.int (σ 8 4) :: rest))) : W p l e R s m args below meth c H locs cells slots Q (F0 m pc ls (.ref (a 0) :: rest)) :=
  va_get (D := D) (ci := 6) (v := .int (σ 8 4)) (C := "NestedCoreModel") (T := F_Mo) (N := 26) hx hb hts in_Mo hown hK hP 0 rfl rfl 3 (by decide) (hts _ k_80) (fun _ h => h) rfl hd kk
theorem g_Mo_84 (hx : p.tables.exec = Jvm.exec) (hb : c.code = cc) (hts : ∀ w ∈ WS, w.before args s = true) (hown : s.vm.findClass "NestedCoreModel" = some m.cls) (hK : va_K D clS (tyS cI cZ) s) (hP : va_P D clS (wM cI cZ a σ) H) (hd : decode cc pc = .ok (.getfield 84, 3)) (kk : W p l e R s m args below meth c H locs cells slots Q (F0 m (pc + 3) ls (.int (σ 8 5) :: rest))) : W p l e R s m args below meth c H locs cells slots Q (F0 m pc ls (.ref (a 0) :: rest)) :=
  va_get (D := D) (ci := 6) (v := .int (σ 8 5)) (C := "NestedCoreModel") (T := F_Mo) (N := 26) hx hb hts in_Mo hown hK hP 0 rfl rfl 4 (by decide) (hts _ k_81) (fun _ h => h) rfl hd kk
theorem g_Mo_88 (hx : p.tables.exec = Jvm.exec) (hb : c.code = cc) (hts : ∀ w ∈ WS, w.before args s = true) (hown : s.vm.findClass "NestedCoreModel" = some m.cls) (hK : va_K D clS (tyS cI cZ) s) (hP : va_P D clS (wM cI cZ a σ) H) (hd : decode cc pc = .ok (.getfield 88, 3)) (kk : W p l e R s m args below meth c H locs cells slots Q (F0 m (pc + 3) ls (.int (σ 8 6) :: rest))) : W p l e R s m args below meth c H locs cells slots Q (F0 m pc ls (.ref (a 0) :: rest)) :=
  va_get (D := D) (ci := 6) (v := .int (σ 8 6)) (C := "NestedCoreModel") (T := F_Mo) (N := 26) hx hb hts in_Mo hown hK hP 0 rfl rfl 5 (by decide) (hts _ k_82) (fun _ h => h) rfl hd kk
theorem g_Mo_92 (hx : p.tables.exec = Jvm.exec) (hb : c.code = cc) (hts : ∀ w ∈ WS, w.before args s = true) (hown : s.vm.findClass "NestedCoreModel" = some m.cls) (hK : va_K D clS (tyS cI cZ) s) (hP : va_P D clS (wM cI cZ a σ) H) (hd : decode cc pc = .ok (.getfield 92, 3)) (kk : W p l e R s m args below meth c H locs cells slots Q (F0 m (pc + 3) ls (.int (σ 8 7) :: rest))) : W p l e R s m args below meth c H locs cells slots Q (F0 m pc ls (.ref (a 0) :: rest)) :=
  va_get (D := D) (ci := 6) (v := .int (σ 8 7)) (C := "NestedCoreModel") (T := F_Mo) (N := 26) hx hb hts in_Mo hown hK hP 0 rfl rfl 6 (by decide) (hts _ k_83) (fun _ h => h) rfl hd kk
theorem g_Mo_99 (hx : p.tables.exec = Jvm.exec) (hb : c.code = cc) (hts : ∀ w ∈ WS, w.before args s = true) (hown : s.vm.findClass "NestedCoreModel" = some m.cls) (hK : va_K D clS (tyS cI cZ) s) (hP : va_P D clS (wM cI cZ a σ) H) (hd : decode cc pc = .ok (.getfield 99, 3)) (kk : W p l e R s m args below meth c H locs cells slots Q (F0 m (pc + 3) ls (.int (σ 8 11) :: rest))) : W p l e R s m args below meth c H locs cells slots Q (F0 m pc ls (.ref (a 0) :: rest)) :=
  va_get (D := D) (ci := 6) (v := .int (σ 8 11)) (C := "NestedCoreModel") (T := F_Mo) (N := 26) hx hb hts in_Mo hown hK hP 0 rfl rfl 18 (by decide) (hts _ k_84) (fun _ h => h) rfl hd kk
theorem p_Ex_46 {b : Bool} (hx : p.tables.exec = Jvm.exec) (hb : c.code = cc) (hts : ∀ w ∈ WS, w.before args s = true) (hown : s.vm.findClass "NestedCore$Exceptions" = some m.cls) (hK : va_K D clS (tyS cI cZ) s) (S : St D (wC cI cZ a) A s σ H locs) (hd : decode cc pc = .ok (.putfield 46, 3)) (kk : ∀ (H : Heap) (locs : List Loc), St D (wC cI cZ a) A s (up2 σ 8 3 (bI b)) H locs → W p l e R s m args below meth c H locs cells slots Q (F0 m (pc + 3) ls rest)) : W p l e R s m args below meth c H locs cells slots Q (F0 m pc ls (.int (bI b) :: .ref (a 10) :: rest)) :=
  va_put (D := D) (ci := 3) (v := .int (bI b)) (ty := .boolean) (C := "NestedCore$Exceptions") (T := F_Ex) (N := 8) hx hb hts in_Ex t_Ex t_Ex_ok n_Ex hown hK S.1 S.2.1 S.2.2 10 rfl rfl 7 (by decide) (hts _ k_29) (fun _ h => h) rfl (by decide +kernel) (bI_narrow b) (bI_fits b) (Nat.le_of_ble_eq_true rfl) hd (fun H1 locs1 hP hD hS => kk H1 locs1 ⟨hP, hD, hS⟩)
theorem p_Fl_13 {b : Bool} (hx : p.tables.exec = Jvm.exec) (hb : c.code = cc) (hts : ∀ w ∈ WS, w.before args s = true) (hown : s.vm.findClass "NestedCore$Flags" = some m.cls) (hK : va_K D clS (tyS cI cZ) s) (S : St D (wC cI cZ a) A s σ H locs) (hd : decode cc pc = .ok (.putfield 13, 3)) (kk : ∀ (H : Heap) (locs : List Loc), St D (wC cI cZ a) A s (up2 σ 8 5 (bI b)) H locs → W p l e R s m args below meth c H locs cells slots Q (F0 m (pc + 3) ls rest)) : W p l e R s m args below meth c H locs cells slots Q (F0 m pc ls (.int (bI b) :: .ref (a 15) :: rest)) :=
  va_put (D := D) (ci := 4) (v := .int (bI b)) (ty := .boolean) (C := "NestedCore$Flags") (T := F_Fl) (N := 4) hx hb hts in_Fl t_Fl t_Fl_ok n_Fl hown hK S.1 S.2.1 S.2.2 15 rfl rfl 1 (by decide) (hts _ k_31) (fun _ h => h) rfl (by decide +kernel) (bI_narrow b) (bI_fits b) (Nat.le_of_ble_eq_true rfl) hd (fun H1 locs1 hP hD hS => kk H1 locs1 ⟨hP, hD, hS⟩)
theorem p_Fl_16 {b : Bool} (hx : p.tables.exec = Jvm.exec) (hb : c.code = cc) (hts : ∀ w ∈ WS, w.before args s = true) (hown : s.vm.findClass "NestedCore$Flags" = some m.cls) (hK : va_K D clS (tyS cI cZ) s) (S : St D (wC cI cZ a) A s σ H locs) (hd : decode cc pc = .ok (.putfield 16, 3)) (kk : ∀ (H : Heap) (locs : List Loc), St D (wC cI cZ a) A s (up2 σ 8 6 (bI b)) H locs → W p l e R s m args below meth c H locs cells slots Q (F0 m (pc + 3) ls rest)) : W p l e R s m args below meth c H locs cells slots Q (F0 m pc ls (.int (bI b) :: .ref (a 15) :: rest)) :=
  va_put (D := D) (ci := 4) (v := .int (bI b)) (ty := .boolean) (C := "NestedCore$Flags") (T := F_Fl) (N := 4) hx hb hts in_Fl t_Fl t_Fl_ok n_Fl hown hK S.1 S.2.1 S.2.2 15 rfl rfl 2 (by decide) (hts _ k_32) (fun _ h => h) rfl (by decide +kernel) (bI_narrow b) (bI_fits b) (Nat.le_of_ble_eq_true rfl) hd (fun H1 locs1 hP hD hS => kk H1 locs1 ⟨hP, hD, hS⟩)
theorem p_Fl_21 {b : Bool} (hx : p.tables.exec = Jvm.exec) (hb : c.code = cc) (hts : ∀ w ∈ WS, w.before args s = true) (hown : s.vm.findClass "NestedCore$Flags" = some m.cls) (hK : va_K D clS (tyS cI cZ) s) (S : St D (wC cI cZ a) A s σ H locs) (hd : decode cc pc = .ok (.putfield 21, 3)) (kk : ∀ (H : Heap) (locs : List Loc), St D (wC cI cZ a) A s (up2 σ 8 7 (bI b)) H locs → W p l e R s m args below meth c H locs cells slots Q (F0 m (pc + 3) ls rest)) : W p l e R s m args below meth c H locs cells slots Q (F0 m pc ls (.int (bI b) :: .ref (a 15) :: rest)) :=
  va_put (D := D) (ci := 4) (v := .int (bI b)) (ty := .boolean) (C := "NestedCore$Flags") (T := F_Fl) (N := 4) hx hb hts in_Fl t_Fl t_Fl_ok n_Fl hown hK S.1 S.2.1 S.2.2 15 rfl rfl 3 (by decide) (hts _ k_33) (fun _ h => h) rfl (by decide +kernel) (bI_narrow b) (bI_fits b) (Nat.le_of_ble_eq_true rfl) hd (fun H1 locs1 hP hD hS => kk H1 locs1 ⟨hP, hD, hS⟩)
theorem p_Fl_7 {b : Bool} (hx : p.tables.exec = Jvm.exec) (hb : c.code = cc) (hts : ∀ w ∈ WS, w.before args s = true) (hown : s.vm.findClass "NestedCore$Flags" = some m.cls) (hK : va_K D clS (tyS cI cZ) s) (S : St D (wC cI cZ a) A s σ H locs) (hd : decode cc pc = .ok (.putfield 7, 3)) (kk : ∀ (H : Heap) (locs : List Loc), St D (wC cI cZ a) A s (up2 σ 8 4 (bI b)) H locs → W p l e R s m args below meth c H locs cells slots Q (F0 m (pc + 3) ls rest)) : W p l e R s m args below meth c H locs cells slots Q (F0 m pc ls (.int (bI b) :: .ref (a 15) :: rest)) :=
  va_put (D := D) (ci := 4) (v := .int (bI b)) (ty := .boolean) (C := "NestedCore$Flags") (T := F_Fl) (N := 4) hx hb hts in_Fl t_Fl t_Fl_ok n_Fl hown hK S.1 S.2.1 S.2.2 15 rfl rfl 0 (by decide) (hts _ k_34) (fun _ h => h) rfl (by decide +kernel) (bI_narrow b) (bI_fits b) (Nat.le_of_ble_eq_true rfl) hd (fun H1 locs1 hP hD hS => kk H1 locs1 ⟨hP, hD, hS⟩)
theorem p_Ti_13 {v : Int32} (hx : p.tables.exec = Jvm.exec) (hb : c.code = cc) (hts : ∀ w ∈ WS, w.before args s = true) (hown : s.vm.findClass "NestedCore$Ticker" = some m.cls) (hK : va_K D clS (tyS cI cZ) s) (S : St D (wC cI cZ a) A s σ H locs) (hd : decode cc pc = .ok (.putfield 13, 3)) (kk : ∀ (H : Heap) (locs : List Loc), St D (wC cI cZ a) A s (up2 σ 8 9 (v)) H locs → W p l e R s m args below meth c H locs cells slots Q (F0 m (pc + 3) ls rest)) : W p l e R s m args below meth c H locs cells slots Q (F0 m pc ls (.int (v) :: .ref (a 16) :: rest)) :=
  va_put (D := D) (ci := 5) (v := .int (v)) (ty := .int) (C := "NestedCore$Ticker") (T := F_Ti) (N := 2) hx hb hts in_Ti t_Ti t_Ti_ok n_Ti hown hK S.1 S.2.1 S.2.2 16 rfl rfl 1 (by decide) (hts _ k_36) (fun _ h => h) rfl (by decide +kernel) rfl rfl (Nat.le_of_ble_eq_true rfl) hd (fun H1 locs1 hP hD hS => kk H1 locs1 ⟨hP, hD, hS⟩)
theorem p_Ti_7 {v : Int32} (hx : p.tables.exec = Jvm.exec) (hb : c.code = cc) (hts : ∀ w ∈ WS, w.before args s = true) (hown : s.vm.findClass "NestedCore$Ticker" = some m.cls) (hK : va_K D clS (tyS cI cZ) s) (S : St D (wC cI cZ a) A s σ H locs) (hd : decode cc pc = .ok (.putfield 7, 3)) (kk : ∀ (H : Heap) (locs : List Loc), St D (wC cI cZ a) A s (up2 σ 8 8 (v)) H locs → W p l e R s m args below meth c H locs cells slots Q (F0 m (pc + 3) ls rest)) : W p l e R s m args below meth c H locs cells slots Q (F0 m pc ls (.int (v) :: .ref (a 16) :: rest)) :=
  va_put (D := D) (ci := 5) (v := .int (v)) (ty := .int) (C := "NestedCore$Ticker") (T := F_Ti) (N := 2) hx hb hts in_Ti t_Ti t_Ti_ok n_Ti hown hK S.1 S.2.1 S.2.2 16 rfl rfl 0 (by decide) (hts _ k_37) (fun _ h => h) rfl (by decide +kernel) rfl rfl (Nat.le_of_ble_eq_true rfl) hd (fun H1 locs1 hP hD hS => kk H1 locs1 ⟨hP, hD, hS⟩)
theorem p_N_118 {v : Int32} (hx : p.tables.exec = Jvm.exec) (hb : c.code = cc) (hts : ∀ w ∈ WS, w.before args s = true) (hown : s.vm.findClass "NestedCore" = some m.cls) (hK : va_K D clS (tyS cI cZ) s) (S : St D (wC cI cZ a) A s σ H locs) (hd : decode cc pc = .ok (.putfield 118, 3)) (kk : ∀ (H : Heap) (locs : List Loc), St D (wC cI cZ a) A s (up2 σ 8 11 (v)) H locs → W p l e R s m args below meth c H locs cells slots Q (F0 m (pc + 3) ls rest)) : W p l e R s m args below meth c H locs cells slots Q (F0 m pc ls (.int (v) :: .ref (a 0) :: rest)) :=
  va_put (D := D) (ci := 0) (v := .int (v)) (ty := .int) (C := "NestedCore") (T := F_N) (N := 12) hx hb hts in_N t_N t_N_ok n_N hown hK S.1 S.2.1 S.2.2 0 rfl rfl 8 (by decide) (hts _ k_39) (fun _ h => h) rfl (by decide +kernel) rfl rfl (Nat.le_of_ble_eq_true rfl) hd (fun H1 locs1 hP hD hS => kk H1 locs1 ⟨hP, hD, hS⟩)
theorem p_N_128 {v : Int32} (hx : p.tables.exec = Jvm.exec) (hb : c.code = cc) (hts : ∀ w ∈ WS, w.before args s = true) (hown : s.vm.findClass "NestedCore" = some m.cls) (hK : va_K D clS (tyS cI cZ) s) (S : St D (wC cI cZ a) A s σ H locs) (hd : decode cc pc = .ok (.putfield 128, 3)) (kk : ∀ (H : Heap) (locs : List Loc), St D (wC cI cZ a) A s (up2 σ 8 10 (v)) H locs → W p l e R s m args below meth c H locs cells slots Q (F0 m (pc + 3) ls rest)) : W p l e R s m args below meth c H locs cells slots Q (F0 m pc ls (.int (v) :: .ref (a 0) :: rest)) :=
  va_put (D := D) (ci := 0) (v := .int (v)) (ty := .int) (C := "NestedCore") (T := F_N) (N := 12) hx hb hts in_N t_N t_N_ok n_N hown hK S.1 S.2.1 S.2.2 0 rfl rfl 7 (by decide) (hts _ k_40) (fun _ h => h) rfl (by decide +kernel) rfl rfl (Nat.le_of_ble_eq_true rfl) hd (fun H1 locs1 hP hD hS => kk H1 locs1 ⟨hP, hD, hS⟩)
theorem p_N_137 {v : Int32} (hx : p.tables.exec = Jvm.exec) (hb : c.code = cc) (hts : ∀ w ∈ WS, w.before args s = true) (hown : s.vm.findClass "NestedCore" = some m.cls) (hK : va_K D clS (tyS cI cZ) s) (S : St D (wC cI cZ a) A s σ H locs) (hd : decode cc pc = .ok (.putfield 137, 3)) (kk : ∀ (H : Heap) (locs : List Loc), St D (wC cI cZ a) A s (up2 σ 8 12 (v)) H locs → W p l e R s m args below meth c H locs cells slots Q (F0 m (pc + 3) ls rest)) : W p l e R s m args below meth c H locs cells slots Q (F0 m pc ls (.int (v) :: .ref (a 0) :: rest)) :=
  va_put (D := D) (ci := 0) (v := .int (v)) (ty := .int) (C := "NestedCore") (T := F_N) (N := 12) hx hb hts in_N t_N t_N_ok n_N hown hK S.1 S.2.1 S.2.2 0 rfl rfl 9 (by decide) (hts _ k_42) (fun _ h => h) rfl (by decide +kernel) rfl rfl (Nat.le_of_ble_eq_true rfl) hd (fun H1 locs1 hP hD hS => kk H1 locs1 ⟨hP, hD, hS⟩)
theorem p_N_140 {v : Int32} (hx : p.tables.exec = Jvm.exec) (hb : c.code = cc) (hts : ∀ w ∈ WS, w.before args s = true) (hown : s.vm.findClass "NestedCore" = some m.cls) (hK : va_K D clS (tyS cI cZ) s) (S : St D (wC cI cZ a) A s σ H locs) (hd : decode cc pc = .ok (.putfield 140, 3)) (kk : ∀ (H : Heap) (locs : List Loc), St D (wC cI cZ a) A s (up2 σ 8 13 (v)) H locs → W p l e R s m args below meth c H locs cells slots Q (F0 m (pc + 3) ls rest)) : W p l e R s m args below meth c H locs cells slots Q (F0 m pc ls (.int (v) :: .ref (a 0) :: rest)) :=
  va_put (D := D) (ci := 0) (v := .int (v)) (ty := .int) (C := "NestedCore") (T := F_N) (N := 12) hx hb hts in_N t_N t_N_ok n_N hown hK S.1 S.2.1 S.2.2 0 rfl rfl 10 (by decide) (hts _ k_43) (fun _ h => h) rfl (by decide +kernel) rfl rfl (Nat.le_of_ble_eq_true rfl) hd (fun H1 locs1 hP hD hS => kk H1 locs1 ⟨hP, hD, hS⟩)
theorem p_N_143 {v : Int32} (hx : p.tables.exec = Jvm.exec) (hb : c.code = cc) (hts : ∀ w ∈ WS, w.before args s = true) (hown : s.vm.findClass "NestedCore" = some m.cls) (hK : va_K D clS (tyS cI cZ) s) (S : St D (wC cI cZ a) A s σ H locs) (hd : decode cc pc = .ok (.putfield 143, 3)) (kk : ∀ (H : Heap) (locs : List Loc), St D (wC cI cZ a) A s (up2 σ 8 14 (v)) H locs → W p l e R s m args below meth c H locs cells slots Q (F0 m (pc + 3) ls rest)) : W p l e R s m args below meth c H locs cells slots Q (F0 m pc ls (.int (v) :: .ref (a 0) :: rest)) :=
  va_put (D := D) (ci := 0) (v := .int (v)) (ty := .int) (C := "NestedCore") (T := F_N) (N := 12) hx hb hts in_N t_N t_N_ok n_N hown hK S.1 S.2.1 S.2.2 0 rfl rfl 11 (by decide) (hts _ k_44) (fun _ h => h) rfl (by decide +kernel) rfl rfl (Nat.le_of_ble_eq_true rfl) hd (fun H1 locs1 hP hD hS => kk H1 locs1 ⟨hP, hD, hS⟩)
theorem p_N_252 {b : Bool} (hx : p.tables.exec = Jvm.exec) (hb : c.code = cc) (hts : ∀ w ∈ WS, w.before args s = true) (hown : s.vm.findClass "NestedCore" = some m.cls) (hK : va_K D clS (tyS cI cZ) s) (S : St D (wC cI cZ a) A s σ H locs) (hd : decode cc pc = .ok (.putfield 252, 3)) (kk : ∀ (H : Heap) (locs : List Loc), St D (wC cI cZ a) A s (up2 σ 8 6 (bI b)) H locs → W p l e R s m args below meth c H locs cells slots Q (F0 m (pc + 3) ls rest)) : W p l e R s m args below meth c H locs cells slots Q (F0 m pc ls (.int (bI b) :: .ref (a 15) :: rest)) :=
  va_put (D := D) (ci := 4) (v := .int (bI b)) (ty := .boolean) (C := "NestedCore$Flags") (T := F_Fl) (N := 4) hx hb hts in_Fl t_Fl t_Fl_ok n_Fl hown hK S.1 S.2.1 S.2.2 15 rfl rfl 2 (by decide) (hts _ k_85) (fun _ h => h) rfl (by decide +kernel) (bI_narrow b) (bI_fits b) (Nat.le_of_ble_eq_true rfl) hd (fun H1 locs1 hP hD hS => kk H1 locs1 ⟨hP, hD, hS⟩)
theorem p_N_75 {b : Bool} (hx : p.tables.exec = Jvm.exec) (hb : c.code = cc) (hts : ∀ w ∈ WS, w.before args s = true) (hown : s.vm.findClass "NestedCore" = some m.cls) (hK : va_K D clS (tyS cI cZ) s) (S : St D (wC cI cZ a) A s σ H locs) (hd : decode cc pc = .ok (.putfield 75, 3)) (kk : ∀ (H : Heap) (locs : List Loc), St D (wC cI cZ a) A s (up2 σ 8 2 (bI b)) H locs → W p l e R s m args below meth c H locs cells slots Q (F0 m (pc + 3) ls rest)) : W p l e R s m args below meth c H locs cells slots Q (F0 m pc ls (.int (bI b) :: .ref (a 10) :: rest)) :=
  va_put (D := D) (ci := 3) (v := .int (bI b)) (ty := .boolean) (C := "NestedCore$Exceptions") (T := F_Ex) (N := 8) hx hb hts in_Ex t_Ex t_Ex_ok n_Ex hown hK S.1 S.2.1 S.2.2 10 rfl rfl 6 (by decide) (hts _ k_53) (fun _ h => h) rfl (by decide +kernel) (bI_narrow b) (bI_fits b) (Nat.le_of_ble_eq_true rfl) hd (fun H1 locs1 hP hD hS => kk H1 locs1 ⟨hP, hD, hS⟩)
theorem p_N_79 {b : Bool} (hx : p.tables.exec = Jvm.exec) (hb : c.code = cc) (hts : ∀ w ∈ WS, w.before args s = true) (hown : s.vm.findClass "NestedCore" = some m.cls) (hK : va_K D clS (tyS cI cZ) s) (S : St D (wC cI cZ a) A s σ H locs) (hd : decode cc pc = .ok (.putfield 79, 3)) (kk : ∀ (H : Heap) (locs : List Loc), St D (wC cI cZ a) A s (up2 σ 8 3 (bI b)) H locs → W p l e R s m args below meth c H locs cells slots Q (F0 m (pc + 3) ls rest)) : W p l e R s m args below meth c H locs cells slots Q (F0 m pc ls (.int (bI b) :: .ref (a 10) :: rest)) :=
  va_put (D := D) (ci := 3) (v := .int (bI b)) (ty := .boolean) (C := "NestedCore$Exceptions") (T := F_Ex) (N := 8) hx hb hts in_Ex t_Ex t_Ex_ok n_Ex hown hK S.1 S.2.1 S.2.2 10 rfl rfl 7 (by decide) (hts _ k_54) (fun _ h => h) rfl (by decide +kernel) (bI_narrow b) (bI_fits b) (Nat.le_of_ble_eq_true rfl) hd (fun H1 locs1 hP hD hS => kk H1 locs1 ⟨hP, hD, hS⟩)
theorem p_N_82 {v : Int32} (hx : p.tables.exec = Jvm.exec) (hb : c.code = cc) (hts : ∀ w ∈ WS, w.before args s = true) (hown : s.vm.findClass "NestedCore" = some m.cls) (hK : va_K D clS (tyS cI cZ) s) (S : St D (wC cI cZ a) A s σ H locs) (hd : decode cc pc = .ok (.putfield 82, 3)) (kk : ∀ (H : Heap) (locs : List Loc), St D (wC cI cZ a) A s (up2 σ 8 1 (v)) H locs → W p l e R s m args below meth c H locs cells slots Q (F0 m (pc + 3) ls rest)) : W p l e R s m args below meth c H locs cells slots Q (F0 m pc ls (.int (v) :: .ref (a 10) :: rest)) :=
  va_put (D := D) (ci := 3) (v := .int (v)) (ty := .int) (C := "NestedCore$Exceptions") (T := F_Ex) (N := 8) hx hb hts in_Ex t_Ex t_Ex_ok n_Ex hown hK S.1 S.2.1 S.2.2 10 rfl rfl 5 (by decide) (hts _ k_55) (fun _ h => h) rfl (by decide +kernel) rfl rfl (Nat.le_of_ble_eq_true rfl) hd (fun H1 locs1 hP hD hS => kk H1 locs1 ⟨hP, hD, hS⟩)
theorem p_N_86 {v : Int32} (hx : p.tables.exec = Jvm.exec) (hb : c.code = cc) (hts : ∀ w ∈ WS, w.before args s = true) (hown : s.vm.findClass "NestedCore" = some m.cls) (hK : va_K D clS (tyS cI cZ) s) (S : St D (wC cI cZ a) A s σ H locs) (hd : decode cc pc = .ok (.putfield 86, 3)) (kk : ∀ (H : Heap) (locs : List Loc), St D (wC cI cZ a) A s (up2 σ 8 0 (v)) H locs → W p l e R s m args below meth c H locs cells slots Q (F0 m (pc + 3) ls rest)) : W p l e R s m args below meth c H locs cells slots Q (F0 m pc ls (.int (v) :: .ref (a 10) :: rest)) :=
  va_put (D := D) (ci := 3) (v := .int (v)) (ty := .int) (C := "NestedCore$Exceptions") (T := F_Ex) (N := 8) hx hb hts in_Ex t_Ex t_Ex_ok n_Ex hown hK S.1 S.2.1 S.2.2 10 rfl rfl 4 (by decide) (hts _ k_56) (fun _ h => h) rfl (by decide +kernel) rfl rfl (Nat.le_of_ble_eq_true rfl) hd (fun H1 locs1 hP hD hS => kk H1 locs1 ⟨hP, hD, hS⟩)
theorem p_Mo_114 {v : Int32} (hx : p.tables.exec = Jvm.exec) (hb : c.code = cc) (hts : ∀ w ∈ WS, w.before args s = true) (hown : s.vm.findClass "NestedCoreModel" = some m.cls) (hK : va_K D clS (tyS cI cZ) s) (S : St D (wM cI cZ a) A s σ H locs) (hd : decode cc pc = .ok (.putfield 114, 3)) (kk : ∀ (H : Heap) (locs : List Loc), St D (wM cI cZ a) A s (up2 σ 8 12 (v)) H locs → W p l e R s m args below meth c H locs cells slots Q (F0 m (pc + 3) ls rest)) : W p l e R s m args below meth c H locs cells slots Q (F0 m pc ls (.int (v) :: .ref (a 0) :: rest)) :=
  va_put (D := D) (ci := 6) (v := .int (v)) (ty := .int) (C := "NestedCoreModel") (T := F_Mo) (N := 26) hx hb hts in_Mo t_Mo t_Mo_ok n_Mo hown hK S.1 S.2.1 S.2.2 0 rfl rfl 19 (by decide) (hts _ k_59) (fun _ h => h) rfl (by decide +kernel) rfl rfl (Nat.le_of_ble_eq_true rfl) hd (fun H1 locs1 hP hD hS => kk H1 locs1 ⟨hP, hD, hS⟩)
theorem p_Mo_120 {v : Int32} (hx : p.tables.exec = Jvm.exec) (hb : c.code = cc) (hts : ∀ w ∈ WS, w.before args s = true) (hown : s.vm.findClass "NestedCoreModel" = some m.cls) (hK : va_K D clS (tyS cI cZ) s) (S : St D (wM cI cZ a) A s σ H locs) (hd : decode cc pc = .ok (.putfield 120, 3)) (kk : ∀ (H : Heap) (locs : List Loc), St D (wM cI cZ a) A s (up2 σ 8 14 (v)) H locs → W p l e R s m args below meth c H locs cells slots Q (F0 m (pc + 3) ls rest)) : W p l e R s m args below meth c H locs cells slots Q (F0 m pc ls (.int (v) :: .ref (a 0) :: rest)) :=
  va_put (D := D) (ci := 6) (v := .int (v)) (ty := .int) (C := "NestedCoreModel") (T := F_Mo) (N := 26) hx hb hts in_Mo t_Mo t_Mo_ok n_Mo hown hK S.1 S.2.1 S.2.2 0 rfl rfl 21 (by decide) (hts _ k_60) (fun _ h => h) rfl (by decide +kernel) rfl rfl (Nat.le_of_ble_eq_true rfl) hd (fun H1 locs1 hP hD hS => kk H1 locs1 ⟨hP, hD, hS⟩)
theorem p_Mo_141 {v : Int32} (hx : p.tables.exec = Jvm.exec) (hb : c.code = cc) (hts : ∀ w ∈ WS, w.before args s = true) (hown : s.vm.findClass "NestedCoreModel" = some m.cls) (hK : va_K D clS (tyS cI cZ) s) (S : St D (wM cI cZ a) A s σ H locs) (hd : decode cc pc = .ok (.putfield 141, 3)) (kk : ∀ (H : Heap) (locs : List Loc), St D (wM cI cZ a) A s (up2 σ 8 13 (v)) H locs → W p l e R s m args below meth c H locs cells slots Q (F0 m (pc + 3) ls rest)) : W p l e R s m args below meth c H locs cells slots Q (F0 m pc ls (.int (v) :: .ref (a 0) :: rest)) :=
  va_put (D := D) (ci := 6) (v := .int (v)) (ty := .int) (C := "NestedCoreModel") (T := F_Mo) (N := 26) hx hb hts in_Mo t_Mo t_Mo_ok n_Mo hown hK S.1 S.2.1 S.2.2 0 rfl rfl 20 (by decide) (hts _ k_62) (fun _ h => h) rfl (by decide +kernel) rfl rfl (Nat.le_of_ble_eq_true rfl) hd (fun H1 locs1 hP hD hS => kk H1 locs1 ⟨hP, hD, hS⟩)
theorem p_Mo_203 {v : Int32} (hx : p.tables.exec = Jvm.exec) (hb : c.code = cc) (hts : ∀ w ∈ WS, w.before args s = true) (hown : s.vm.findClass "NestedCoreModel" = some m.cls) (hK : va_K D clS (tyS cI cZ) s) (S : St D (wM cI cZ a) A s σ H locs) (hd : decode cc pc = .ok (.putfield 203, 3)) (kk : ∀ (H : Heap) (locs : List Loc), St D (wM cI cZ a) A s (up2 σ 8 8 (v)) H locs → W p l e R s m args below meth c H locs cells slots Q (F0 m (pc + 3) ls rest)) : W p l e R s m args below meth c H locs cells slots Q (F0 m pc ls (.int (v) :: .ref (a 0) :: rest)) :=
  va_put (D := D) (ci := 6) (v := .int (v)) (ty := .int) (C := "NestedCoreModel") (T := F_Mo) (N := 26) hx hb hts in_Mo t_Mo t_Mo_ok n_Mo hown hK S.1 S.2.1 S.2.2 0 rfl rfl 15 (by decide) (hts _ k_65) (fun _ h => h) rfl (by decide +kernel) rfl rfl (Nat.le_of_ble_eq_true rfl) hd (fun H1 locs1 hP hD hS => kk H1 locs1 ⟨hP, hD, hS⟩)
theorem p_Mo_206 {v : Int32} (hx : p.tables.exec = Jvm.exec) (hb : c.code = cc) (hts : ∀ w ∈ WS, w.before args s = true) (hown : s.vm.findClass "NestedCoreModel" = some m.cls) (hK : va_K D clS (tyS cI cZ) s) (S : St D (wM cI cZ a) A s σ H locs) (hd : decode cc pc = .ok (.putfield 206, 3)) (kk : ∀ (H : Heap) (locs : List Loc), St D (wM cI cZ a) A s (up2 σ 8 9 (v)) H locs → W p l e R s m args below meth c H locs cells slots Q (F0 m (pc + 3) ls rest)) : W p l e R s m args below meth c H locs cells slots Q (F0 m pc ls (.int (v) :: .ref (a 0) :: rest)) :=
  va_put (D := D) (ci := 6) (v := .int (v)) (ty := .int) (C := "NestedCoreModel") (T := F_Mo) (N := 26) hx hb hts in_Mo t_Mo t_Mo_ok n_Mo hown hK S.1 S.2.1 S.2.2 0 rfl rfl 16 (by decide) (hts _ k_66) (fun _ h => h) rfl (by decide +kernel) rfl rfl (Nat.le_of_ble_eq_true rfl) hd (fun H1 locs1 hP hD hS => kk H1 locs1 ⟨hP, hD, hS⟩)
theorem p_Mo_41 {v : Int32} (hx : p.tables.exec = Jvm.exec) (hb : c.code = cc) (hts : ∀ w ∈ WS, w.before args s = true) (hown : s.vm.findClass "NestedCoreModel" = some m.cls) (hK : va_K D clS (tyS cI cZ) s) (S : St D (wM cI cZ a) A s σ H locs) (hd : decode cc pc = .ok (.putfield 41, 3)) (kk : ∀ (H : Heap) (locs : List Loc), St D (wM cI cZ a) A s (up2 σ 8 15 (v)) H locs → W p l e R s m args below meth c H locs cells slots Q (F0 m (pc + 3) ls rest)) : W p l e R s m args below meth c H locs cells slots Q (F0 m pc ls (.int (v) :: .ref (a 0) :: rest)) :=
  va_put (D := D) (ci := 6) (v := .int (v)) (ty := .int) (C := "NestedCoreModel") (T := F_Mo) (N := 26) hx hb hts in_Mo t_Mo t_Mo_ok n_Mo hown hK S.1 S.2.1 S.2.2 0 rfl rfl 0 (by decide) (hts _ k_73) (fun _ h => h) rfl (by decide +kernel) rfl rfl (Nat.le_of_ble_eq_true rfl) hd (fun H1 locs1 hP hD hS => kk H1 locs1 ⟨hP, hD, hS⟩)
theorem p_Mo_53 {v : Int32} (hx : p.tables.exec = Jvm.exec) (hb : c.code = cc) (hts : ∀ w ∈ WS, w.before args s = true) (hown : s.vm.findClass "NestedCoreModel" = some m.cls) (hK : va_K D clS (tyS cI cZ) s) (S : St D (wM cI cZ a) A s σ H locs) (hd : decode cc pc = .ok (.putfield 53, 3)) (kk : ∀ (H : Heap) (locs : List Loc), St D (wM cI cZ a) A s (up2 σ 8 0 (v)) H locs → W p l e R s m args below meth c H locs cells slots Q (F0 m (pc + 3) ls rest)) : W p l e R s m args below meth c H locs cells slots Q (F0 m pc ls (.int (v) :: .ref (a 0) :: rest)) :=
  va_put (D := D) (ci := 6) (v := .int (v)) (ty := .int) (C := "NestedCoreModel") (T := F_Mo) (N := 26) hx hb hts in_Mo t_Mo t_Mo_ok n_Mo hown hK S.1 S.2.1 S.2.2 0 rfl rfl 11 (by decide) (hts _ k_74) (fun _ h => h) rfl (by decide +kernel) rfl rfl (Nat.le_of_ble_eq_true rfl) hd (fun H1 locs1 hP hD hS => kk H1 locs1 ⟨hP, hD, hS⟩)
theorem p_Mo_60 {v : Int32} (hx : p.tables.exec = Jvm.exec) (hb : c.code = cc) (hts : ∀ w ∈ WS, w.before args s = true) (hown : s.vm.findClass "NestedCoreModel" = some m.cls) (hK : va_K D clS (tyS cI cZ) s) (S : St D (wM cI cZ a) A s σ H locs) (hd : decode cc pc = .ok (.putfield 60, 3)) (kk : ∀ (H : Heap) (locs : List Loc), St D (wM cI cZ a) A s (up2 σ 8 1 (v)) H locs → W p l e R s m args below meth c H locs cells slots Q (F0 m (pc + 3) ls rest)) : W p l e R s m args below meth c H locs cells slots Q (F0 m pc ls (.int (v) :: .ref (a 0) :: rest)) :=
  va_put (D := D) (ci := 6) (v := .int (v)) (ty := .int) (C := "NestedCoreModel") (T := F_Mo) (N := 26) hx hb hts in_Mo t_Mo t_Mo_ok n_Mo hown hK S.1 S.2.1 S.2.2 0 rfl rfl 12 (by decide) (hts _ k_75) (fun _ h => h) rfl (by decide +kernel) rfl rfl (Nat.le_of_ble_eq_true rfl) hd (fun H1 locs1 hP hD hS => kk H1 locs1 ⟨hP, hD, hS⟩)
theorem p_Mo_63 {b : Bool} (hx : p.tables.exec = Jvm.exec) (hb : c.code = cc) (hts : ∀ w ∈ WS, w.before args s = true) (hown : s.vm.findClass "NestedCoreModel" = some m.cls) (hK : va_K D clS (tyS cI cZ) s) (S : St D (wM cI cZ a) A s σ H locs) (hd : decode cc pc = .ok (.putfield 63, 3)) (kk : ∀ (H : Heap) (locs : List Loc), St D (wM cI cZ a) A s (up2 σ 8 2 (bI b)) H locs → W p l e R s m args below meth c H locs cells slots Q (F0 m (pc + 3) ls rest)) : W p l e R s m args below meth c H locs cells slots Q (F0 m pc ls (.int (bI b) :: .ref (a 0) :: rest)) :=
  va_put (D := D) (ci := 6) (v := .int (bI b)) (ty := .boolean) (C := "NestedCoreModel") (T := F_Mo) (N := 26) hx hb hts in_Mo t_Mo t_Mo_ok n_Mo hown hK S.1 S.2.1 S.2.2 0 rfl rfl 13 (by decide) (hts _ k_76) (fun _ h => h) rfl (by decide +kernel) (bI_narrow b) (bI_fits b) (Nat.le_of_ble_eq_true rfl) hd (fun H1 locs1 hP hD hS => kk H1 locs1 ⟨hP, hD, hS⟩)
theorem p_Mo_67 {b : Bool} (hx : p.tables.exec = Jvm.exec) (hb : c.code = cc) (hts : ∀ w ∈ WS, w.before args s = true) (hown : s.vm.findClass "NestedCoreModel" = some m.cls) (hK : va_K D clS (tyS cI cZ) s) (S : St D (wM cI cZ a) A s σ H locs) (hd : decode cc pc = .ok (.putfield 67, 3)) (kk : ∀ (H : Heap) (locs : List Loc), St D (wM cI cZ a) A s (up2 σ 8 3 (bI b)) H locs → W p l e R s m args below meth c H locs cells slots Q (F0 m (pc + 3) ls rest)) : W p l e R s m args below meth c H locs cells slots Q (F0 m pc ls (.int (bI b) :: .ref (a 0) :: rest)) :=
  va_put (D := D) (ci := 6) (v := .int (bI b)) (ty := .boolean) (C := "NestedCoreModel") (T := F_Mo) (N := 26) hx hb hts in_Mo t_Mo t_Mo_ok n_Mo hown hK S.1 S.2.1 S.2.2 0 rfl rfl 14 (by decide) (hts _ k_77) (fun _ h => h) rfl (by decide +kernel) (bI_narrow b) (bI_fits b) (Nat.le_of_ble_eq_true rfl) hd (fun H1 locs1 hP hD hS => kk H1 locs1 ⟨hP, hD, hS⟩)
theorem p_Mo_74 {v : Int32} (hx : p.tables.exec = Jvm.exec) (hb : c.code = cc) (hts : ∀ w ∈ WS, w.before args s = true) (hown : s.vm.findClass "NestedCoreModel" = some m.cls) (hK : va_K D clS (tyS cI cZ) s) (S : St D (wM cI cZ a) A s σ H locs) (hd : decode cc pc = .ok (.putfield 74, 3)) (kk : ∀ (H : Heap) (locs : List Loc), St D (wM cI cZ a) A s (up2 σ 8 10 (v)) H locs → W p l e R s m args below meth c H locs cells slots Q (F0 m (pc + 3) ls rest)) : W p l e R s m args below meth c H locs cells slots Q (F0 m pc ls (.int (v) :: .ref (a 0) :: rest)) :=
  va_put (D := D) (ci := 6) (v := .int (v)) (ty := .int) (C := "NestedCoreModel") (T := F_Mo) (N := 26) hx hb hts in_Mo t_Mo t_Mo_ok n_Mo hown hK S.1 S.2.1 S.2.2 0 rfl rfl 17 (by decide) (hts _ k_79) (fun _ h => h) rfl (by decide +kernel) rfl rfl (Nat.le_of_ble_eq_true rfl) hd (fun H1 locs1 hP hD hS => kk H1 locs1 ⟨hP, hD, hS⟩)
theorem p_Mo_80 {b : Bool} (hx : p.tables.exec = Jvm.exec) (hb : c.code = cc) (hts : ∀ w ∈ WS, w.before args s = true) (hown : s.vm.findClass "NestedCoreModel" = some m.cls) (hK : va_K D clS (tyS cI cZ) s) (S : St D (wM cI cZ a) A s σ H locs) (hd : decode cc pc = .ok (.putfield 80, 3)) (kk : ∀ (H : Heap) (locs : List Loc), St D (wM cI cZ a) A s (up2 σ 8 4 (bI b)) H locs → W p l e R s m args below meth c H locs cells slots Q (F0 m (pc + 3) ls rest)) : W p l e R s m args below meth c H locs cells slots Q (F0 m pc ls (.int (bI b) :: .ref (a 0) :: rest)) :=
  va_put (D := D) (ci := 6) (v := .int (bI b)) (ty := .boolean) (C := "NestedCoreModel") (T := F_Mo) (N := 26) hx hb hts in_Mo t_Mo t_Mo_ok n_Mo hown hK S.1 S.2.1 S.2.2 0 rfl rfl 3 (by decide) (hts _ k_80) (fun _ h => h) rfl (by decide +kernel) (bI_narrow b) (bI_fits b) (Nat.le_of_ble_eq_true rfl) hd (fun H1 locs1 hP hD hS => kk H1 locs1 ⟨hP, hD, hS⟩)
theorem p_Mo_84 {b : Bool} (hx : p.tables.exec = Jvm.exec) (hb : c.code = cc) (hts : ∀ w ∈ WS, w.before args s = true) (hown : s.vm.findClass "NestedCoreModel" = some m.cls) (hK : va_K D clS (tyS cI cZ) s) (S : St D (wM cI cZ a) A s σ H locs) (hd : decode cc pc = .ok (.putfield 84, 3)) (kk : ∀ (H : Heap) (locs : List Loc), St D (wM cI cZ a) A s (up2 σ 8 5 (bI b)) H locs → W p l e R s m args below meth c H locs cells slots Q (F0 m (pc + 3) ls rest)) : W p l e R s m args below meth c H locs cells slots Q (F0 m pc ls (.int (bI b) :: .ref (a 0) :: rest)) :=
  va_put (D := D) (ci := 6) (v := .int (bI b)) (ty := .boolean) (C := "NestedCoreModel") (T := F_Mo) (N := 26) hx hb hts in_Mo t_Mo t_Mo_ok n_Mo hown hK S.1 S.2.1 S.2.2 0 rfl rfl 4 (by decide) (hts _ k_81) (fun _ h => h) rfl (by decide +kernel) (bI_narrow b) (bI_fits b) (Nat.le_of_ble_eq_true rfl) hd (fun H1 locs1 hP hD hS => kk H1 locs1 ⟨hP, hD, hS⟩)
theorem p_Mo_88 {b : Bool} (hx : p.tables.exec = Jvm.exec) (hb : c.code = cc) (hts : ∀ w ∈ WS, w.before args s = true) (hown : s.vm.findClass "NestedCoreModel" = some m.cls) (hK : va_K D clS (tyS cI cZ) s) (S : St D (wM cI cZ a) A s σ H locs) (hd : decode cc pc = .ok (.putfield 88, 3)) (kk : ∀ (H : Heap) (locs : List Loc), St D (wM cI cZ a) A s (up2 σ 8 6 (bI b)) H locs → W p l e R s m args below meth c H locs cells slots Q (F0 m (pc + 3) ls rest)) : W p l e R s m args below meth c H locs cells slots Q (F0 m pc ls (.int (bI b) :: .ref (a 0) :: rest)) :=
  va_put (D := D) (ci := 6) (v := .int (bI b)) (ty := .boolean) (C := "NestedCoreModel") (T := F_Mo) (N := 26) hx hb hts in_Mo t_Mo t_Mo_ok n_Mo hown hK S.1 S.2.1 S.2.2 0 rfl rfl 5 (by decide) (hts _ k_82) (fun _ h => h) rfl (by decide +kernel) (bI_narrow b) (bI_fits b) (Nat.le_of_ble_eq_true rfl) hd (fun H1 locs1 hP hD hS => kk H1 locs1 ⟨hP, hD, hS⟩)
theorem p_Mo_92 {b : Bool} (hx : p.tables.exec = Jvm.exec) (hb : c.code = cc) (hts : ∀ w ∈ WS, w.before args s = true) (hown : s.vm.findClass "NestedCoreModel" = some m.cls) (hK : va_K D clS (tyS cI cZ) s) (S : St D (wM cI cZ a) A s σ H locs) (hd : decode cc pc = .ok (.putfield 92, 3)) (kk : ∀ (H : Heap) (locs : List Loc), St D (wM cI cZ a) A s (up2 σ 8 7 (bI b)) H locs → W p l e R s m args below meth c H locs cells slots Q (F0 m (pc + 3) ls rest)) : W p l e R s m args below meth c H locs cells slots Q (F0 m pc ls (.int (bI b) :: .ref (a 0) :: rest)) :=
  va_put (D := D) (ci := 6) (v := .int (bI b)) (ty := .boolean) (C := "NestedCoreModel") (T := F_Mo) (N := 26) hx hb hts in_Mo t_Mo t_Mo_ok n_Mo hown hK S.1 S.2.1 S.2.2 0 rfl rfl 6 (by decide) (hts _ k_83) (fun _ h => h) rfl (by decide +kernel) (bI_narrow b) (bI_fits b) (Nat.le_of_ble_eq_true rfl) hd (fun H1 locs1 hP hD hS => kk H1 locs1 ⟨hP, hD, hS⟩)
theorem p_Mo_99 {v : Int32} (hx : p.tables.exec = Jvm.exec) (hb : c.code = cc) (hts : ∀ w ∈ WS, w.before args s = true) (hown : s.vm.findClass "NestedCoreModel" = some m.cls) (hK : va_K D clS (tyS cI cZ) s) (S : St D (wM cI cZ a) A s σ H locs) (hd : decode cc pc = .ok (.putfield 99, 3)) (kk : ∀ (H : Heap) (locs : List Loc), St D (wM cI cZ a) A s (up2 σ 8 11 (v)) H locs → W p l e R s m args below meth c H locs cells slots Q (F0 m (pc + 3) ls rest)) : W p l e R s m args below meth c H locs cells slots Q (F0 m pc ls (.int (v) :: .ref (a 0) :: rest)) :=
  va_put (D := D) (ci := 6) (v := .int (v)) (ty := .int) (C := "NestedCoreModel") (T := F_Mo) (N := 26) hx hb hts in_Mo t_Mo t_Mo_ok n_Mo hown hK S.1 S.2.1 S.2.2 0 rfl rfl 18 (by decide) (hts _ k_84) (fun _ h => h) rfl (by decide +kernel) rfl rfl (Nat.le_of_ble_eq_true rfl) hd (fun H1 locs1 hP hD hS => kk H1 locs1 ⟨hP, hD, hS⟩)
theorem ld_C_1 {i : Int32} {k : Nat} (hx : p.tables.exec = Jvm.exec) (hb : c.code = cc) (hK : va_K D clS (tyS cI cZ) s) (hP : va_P D clS (wC cI cZ a σ) H) (hin : vp_in i 16) (hk : i.toNatClampNeg = k) (hd : decode cc pc = .ok (.iaload, 1)) (kk : W p l e R s m args below meth c H locs cells slots Q (F0 m (pc + 1) ls (.int (σ 0 k) :: rest))) : W p l e R s m args below meth c H locs cells slots Q (F0 m pc ls (.int i :: .ref (a 1) :: rest)) := by
  subst hk
  exact va_iald hx hb hK hP 1 0 rfl rfl hin hd kk
theorem st_C_1 {i : Int32} {k : Nat} {v : Int32} (hx : p.tables.exec = Jvm.exec) (hb : c.code = cc) (hK : va_K D clS (tyS cI cZ) s) (S : St D (wC cI cZ a) A s σ H locs) (hin : vp_in i 16) (hk : i.toNatClampNeg = k) (hd : decode cc pc = .ok (.iastore, 1)) (kk : ∀ (H : Heap) (locs : List Loc), St D (wC cI cZ a) A s (up2 σ 0 k (v)) H locs → W p l e R s m args below meth c H locs cells slots Q (F0 m (pc + 1) ls rest)) : W p l e R s m args below meth c H locs cells slots Q (F0 m pc ls (.int (v) :: .int i :: .ref (a 1) :: rest)) := by
  subst hk
  exact va_iast hx hb hK S.1 S.2.1 S.2.2 1 0 rfl rfl hin hd (fun H1 locs1 hP hD hS => kk H1 locs1 ⟨hP, hD, hS⟩)
theorem ld_C_4 {i : Int32} {k : Nat} (hx : p.tables.exec = Jvm.exec) (hb : c.code = cc) (hK : va_K D clS (tyS cI cZ) s) (hP : va_P D clS (wC cI cZ a σ) H) (hin : vp_in i 256) (hk : i.toNatClampNeg = k) (hd : decode cc pc = .ok (.iaload, 1)) (kk : W p l e R s m args below meth c H locs cells slots Q (F0 m (pc + 1) ls (.int (σ 9 k) :: rest))) : W p l e R s m args below meth c H locs cells slots Q (F0 m pc ls (.int i :: .ref (a 4) :: rest)) := by
  subst hk
  exact va_iald hx hb hK hP 4 0 rfl rfl hin hd kk
theorem st_C_4 {i : Int32} {k : Nat} {v : Int32} (hx : p.tables.exec = Jvm.exec) (hb : c.code = cc) (hK : va_K D clS (tyS cI cZ) s) (S : St D (wC cI cZ a) A s σ H locs) (hin : vp_in i 256) (hk : i.toNatClampNeg = k) (hd : decode cc pc = .ok (.iastore, 1)) (kk : ∀ (H : Heap) (locs : List Loc), St D (wC cI cZ a) A s (up2 σ 9 k (v)) H locs → W p l e R s m args below meth c H locs cells slots Q (F0 m (pc + 1) ls rest)) : W p l e R s m args below meth c H locs cells slots Q (F0 m pc ls (.int (v) :: .int i :: .ref (a 4) :: rest)) := by
  subst hk
  exact va_iast hx hb hK S.1 S.2.1 S.2.2 4 0 rfl rfl hin hd (fun H1 locs1 hP hD hS => kk H1 locs1 ⟨hP, hD, hS⟩)
theorem ld_C_6 {i : Int32} {k : Nat} (hx : p.tables.exec = Jvm.exec) (hb : c.code = cc) (hK : va_K D clS (tyS cI cZ) s) (hP : va_P D clS (wC cI cZ a σ) H) (hin : vp_in i 4) (hk : i.toNatClampNeg = k) (hd : decode cc pc = .ok (.iaload, 1)) (kk : W p l e R s m args below meth c H locs cells slots Q (F0 m (pc + 1) ls (.int (σ 5 k) :: rest))) : W p l e R s m args below meth c H locs cells slots Q (F0 m pc ls (.int i :: .ref (a 6) :: rest)) := by
  subst hk
  exact va_iald hx hb hK hP 6 0 rfl rfl hin hd kk
theorem st_C_6 {i : Int32} {k : Nat} {v : Int32} (hx : p.tables.exec = Jvm.exec) (hb : c.code = cc) (hK : va_K D clS (tyS cI cZ) s) (S : St D (wC cI cZ a) A s σ H locs) (hin : vp_in i 4) (hk : i.toNatClampNeg = k) (hd : decode cc pc = .ok (.iastore, 1)) (kk : ∀ (H : Heap) (locs : List Loc), St D (wC cI cZ a) A s (up2 σ 5 k (v)) H locs → W p l e R s m args below meth c H locs cells slots Q (F0 m (pc + 1) ls rest)) : W p l e R s m args below meth c H locs cells slots Q (F0 m pc ls (.int (v) :: .int i :: .ref (a 6) :: rest)) := by
  subst hk
  exact va_iast hx hb hK S.1 S.2.1 S.2.2 6 0 rfl rfl hin hd (fun H1 locs1 hP hD hS => kk H1 locs1 ⟨hP, hD, hS⟩)
theorem ld_C_7 {i : Int32} {k : Nat} (hx : p.tables.exec = Jvm.exec) (hb : c.code = cc) (hK : va_K D clS (tyS cI cZ) s) (hP : va_P D clS (wC cI cZ a σ) H) (hin : vp_in i 4) (hk : i.toNatClampNeg = k) (hd : decode cc pc = .ok (.iaload, 1)) (kk : W p l e R s m args below meth c H locs cells slots Q (F0 m (pc + 1) ls (.int (σ 10 k) :: rest))) : W p l e R s m args below meth c H locs cells slots Q (F0 m pc ls (.int i :: .ref (a 7) :: rest)) := by
  subst hk
  exact va_iald hx hb hK hP 7 0 rfl rfl hin hd kk
theorem st_C_7 {i : Int32} {k : Nat} {v : Int32} (hx : p.tables.exec = Jvm.exec) (hb : c.code = cc) (hK : va_K D clS (tyS cI cZ) s) (S : St D (wC cI cZ a) A s σ H locs) (hin : vp_in i 4) (hk : i.toNatClampNeg = k) (hd : decode cc pc = .ok (.iastore, 1)) (kk : ∀ (H : Heap) (locs : List Loc), St D (wC cI cZ a) A s (up2 σ 10 k (v)) H locs → W p l e R s m args below meth c H locs cells slots Q (F0 m (pc + 1) ls rest)) : W p l e R s m args below meth c H locs cells slots Q (F0 m pc ls (.int (v) :: .int i :: .ref (a 7) :: rest)) := by
  subst hk
  exact va_iast hx hb hK S.1 S.2.1 S.2.2 7 0 rfl rfl hin hd (fun H1 locs1 hP hD hS => kk H1 locs1 ⟨hP, hD, hS⟩)
theorem ld_C_8 {i : Int32} {k : Nat} (hx : p.tables.exec = Jvm.exec) (hb : c.code = cc) (hK : va_K D clS (tyS cI cZ) s) (hP : va_P D clS (wC cI cZ a σ) H) (hin : vp_in i 4) (hk : i.toNatClampNeg = k) (hd : decode cc pc = .ok (.iaload, 1)) (kk : W p l e R s m args below meth c H locs cells slots Q (F0 m (pc + 1) ls (.int (σ 6 k) :: rest))) : W p l e R s m args below meth c H locs cells slots Q (F0 m pc ls (.int i :: .ref (a 8) :: rest)) := by
  subst hk
  exact va_iald hx hb hK hP 8 0 rfl rfl hin hd kk
theorem st_C_8 {i : Int32} {k : Nat} {v : Int32} (hx : p.tables.exec = Jvm.exec) (hb : c.code = cc) (hK : va_K D clS (tyS cI cZ) s) (S : St D (wC cI cZ a) A s σ H locs) (hin : vp_in i 4) (hk : i.toNatClampNeg = k) (hd : decode cc pc = .ok (.iastore, 1)) (kk : ∀ (H : Heap) (locs : List Loc), St D (wC cI cZ a) A s (up2 σ 6 k (v)) H locs → W p l e R s m args below meth c H locs cells slots Q (F0 m (pc + 1) ls rest)) : W p l e R s m args below meth c H locs cells slots Q (F0 m pc ls (.int (v) :: .int i :: .ref (a 8) :: rest)) := by
  subst hk
  exact va_iast hx hb hK S.1 S.2.1 S.2.2 8 0 rfl rfl hin hd (fun H1 locs1 hP hD hS => kk H1 locs1 ⟨hP, hD, hS⟩)
theorem ld_C_9 {i : Int32} {k : Nat} (hx : p.tables.exec = Jvm.exec) (hb : c.code = cc) (hK : va_K D clS (tyS cI cZ) s) (hP : va_P D clS (wC cI cZ a σ) H) (hin : vp_in i 4) (hk : i.toNatClampNeg = k) (hd : decode cc pc = .ok (.baload, 1)) (kk : W p l e R s m args below meth c H locs cells slots Q (F0 m (pc + 1) ls (.int (σ 7 k) :: rest))) : W p l e R s m args below meth c H locs cells slots Q (F0 m pc ls (.int i :: .ref (a 9) :: rest)) := by
  subst hk
  exact va_zald hx hb hK hP 9 1 rfl rfl hin hd kk
theorem st_C_9 {i : Int32} {k : Nat} {b : Bool} (hx : p.tables.exec = Jvm.exec) (hb : c.code = cc) (hK : va_K D clS (tyS cI cZ) s) (S : St D (wC cI cZ a) A s σ H locs) (hin : vp_in i 4) (hk : i.toNatClampNeg = k) (hd : decode cc pc = .ok (.bastore, 1)) (kk : ∀ (H : Heap) (locs : List Loc), St D (wC cI cZ a) A s (up2 σ 7 k (bI b)) H locs → W p l e R s m args below meth c H locs cells slots Q (F0 m (pc + 1) ls rest)) : W p l e R s m args below meth c H locs cells slots Q (F0 m pc ls (.int (bI b) :: .int i :: .ref (a 9) :: rest)) := by
  subst hk
  exact va_zast hx hb hK S.1 S.2.1 S.2.2 9 1 rfl rfl hin hd (fun H1 locs1 hP hD hS => by rw [bI_nar] at hP hD; exact kk H1 locs1 ⟨hP, hD, hS⟩)
theorem ld_C_11 {i : Int32} {k : Nat} (hx : p.tables.exec = Jvm.exec) (hb : c.code = cc) (hK : va_K D clS (tyS cI cZ) s) (hP : va_P D clS (wC cI cZ a σ) H) (hin : vp_in i 16) (hk : i.toNatClampNeg = k) (hd : decode cc pc = .ok (.baload, 1)) (kk : W p l e R s m args below meth c H locs cells slots Q (F0 m (pc + 1) ls (.int (σ 1 k) :: rest))) : W p l e R s m args below meth c H locs cells slots Q (F0 m pc ls (.int i :: .ref (a 11) :: rest)) := by
  subst hk
  exact va_zald hx hb hK hP 11 1 rfl rfl hin hd kk
theorem st_C_11 {i : Int32} {k : Nat} {b : Bool} (hx : p.tables.exec = Jvm.exec) (hb : c.code = cc) (hK : va_K D clS (tyS cI cZ) s) (S : St D (wC cI cZ a) A s σ H locs) (hin : vp_in i 16) (hk : i.toNatClampNeg = k) (hd : decode cc pc = .ok (.bastore, 1)) (kk : ∀ (H : Heap) (locs : List Loc), St D (wC cI cZ a) A s (up2 σ 1 k (bI b)) H locs → W p l e R s m args below meth c H locs cells slots Q (F0 m (pc + 1) ls rest)) : W p l e R s m args below meth c H locs cells slots Q (F0 m pc ls (.int (bI b) :: .int i :: .ref (a 11) :: rest)) := by
  subst hk
  exact va_zast hx hb hK S.1 S.2.1 S.2.2 11 1 rfl rfl hin hd (fun H1 locs1 hP hD hS => by rw [bI_nar] at hP hD; exact kk H1 locs1 ⟨hP, hD, hS⟩)
theorem ld_C_12 {i : Int32} {k : Nat} (hx : p.tables.exec = Jvm.exec) (hb : c.code = cc) (hK : va_K D clS (tyS cI cZ) s) (hP : va_P D clS (wC cI cZ a σ) H) (hin : vp_in i 16) (hk : i.toNatClampNeg = k) (hd : decode cc pc = .ok (.baload, 1)) (kk : W p l e R s m args below meth c H locs cells slots Q (F0 m (pc + 1) ls (.int (σ 2 k) :: rest))) : W p l e R s m args below meth c H locs cells slots Q (F0 m pc ls (.int i :: .ref (a 12) :: rest)) := by
  subst hk
  exact va_zald hx hb hK hP 12 1 rfl rfl hin hd kk
theorem st_C_12 {i : Int32} {k : Nat} {b : Bool} (hx : p.tables.exec = Jvm.exec) (hb : c.code = cc) (hK : va_K D clS (tyS cI cZ) s) (S : St D (wC cI cZ a) A s σ H locs) (hin : vp_in i 16) (hk : i.toNatClampNeg = k) (hd : decode cc pc = .ok (.bastore, 1)) (kk : ∀ (H : Heap) (locs : List Loc), St D (wC cI cZ a) A s (up2 σ 2 k (bI b)) H locs → W p l e R s m args below meth c H locs cells slots Q (F0 m (pc + 1) ls rest)) : W p l e R s m args below meth c H locs cells slots Q (F0 m pc ls (.int (bI b) :: .int i :: .ref (a 12) :: rest)) := by
  subst hk
  exact va_zast hx hb hK S.1 S.2.1 S.2.2 12 1 rfl rfl hin hd (fun H1 locs1 hP hD hS => by rw [bI_nar] at hP hD; exact kk H1 locs1 ⟨hP, hD, hS⟩)
theorem ld_C_13 {i : Int32} {k : Nat} (hx : p.tables.exec = Jvm.exec) (hb : c.code = cc) (hK : va_K D clS (tyS cI cZ) s) (hP : va_P D clS (wC cI cZ a σ) H) (hin : vp_in i 16) (hk : i.toNatClampNeg = k) (hd : decode cc pc = .ok (.baload, 1)) (kk : W p l e R s m args below meth c H locs cells slots Q (F0 m (pc + 1) ls (.int (σ 3 k) :: rest))) : W p l e R s m args below meth c H locs cells slots Q (F0 m pc ls (.int i :: .ref (a 13) :: rest)) := by
  subst hk
  exact va_zald hx hb hK hP 13 1 rfl rfl hin hd kk
theorem st_C_13 {i : Int32} {k : Nat} {b : Bool} (hx : p.tables.exec = Jvm.exec) (hb : c.code = cc) (hK : va_K D clS (tyS cI cZ) s) (S : St D (wC cI cZ a) A s σ H locs) (hin : vp_in i 16) (hk : i.toNatClampNeg = k) (hd : decode cc pc = .ok (.bastore, 1)) (kk : ∀ (H : Heap) (locs : List Loc), St D (wC cI cZ a) A s (up2 σ 3 k (bI b)) H locs → W p l e R s m args below meth c H locs cells slots Q (F0 m (pc + 1) ls rest)) : W p l e R s m args below meth c H locs cells slots Q (F0 m pc ls (.int (bI b) :: .int i :: .ref (a 13) :: rest)) := by
  subst hk
  exact va_zast hx hb hK S.1 S.2.1 S.2.2 13 1 rfl rfl hin hd (fun H1 locs1 hP hD hS => by rw [bI_nar] at hP hD; exact kk H1 locs1 ⟨hP, hD, hS⟩)
theorem ld_C_14 {i : Int32} {k : Nat} (hx : p.tables.exec = Jvm.exec) (hb : c.code = cc) (hK : va_K D clS (tyS cI cZ) s) (hP : va_P D clS (wC cI cZ a σ) H) (hin : vp_in i 16) (hk : i.toNatClampNeg = k) (hd : decode cc pc = .ok (.iaload, 1)) (kk : W p l e R s m args below meth c H locs cells slots Q (F0 m (pc + 1) ls (.int (σ 4 k) :: rest))) : W p l e R s m args below meth c H locs cells slots Q (F0 m pc ls (.int i :: .ref (a 14) :: rest)) := by
  subst hk
  exact va_iald hx hb hK hP 14 0 rfl rfl hin hd kk
theorem st_C_14 {i : Int32} {k : Nat} {v : Int32} (hx : p.tables.exec = Jvm.exec) (hb : c.code = cc) (hK : va_K D clS (tyS cI cZ) s) (S : St D (wC cI cZ a) A s σ H locs) (hin : vp_in i 16) (hk : i.toNatClampNeg = k) (hd : decode cc pc = .ok (.iastore, 1)) (kk : ∀ (H : Heap) (locs : List Loc), St D (wC cI cZ a) A s (up2 σ 4 k (v)) H locs → W p l e R s m args below meth c H locs cells slots Q (F0 m (pc + 1) ls rest)) : W p l e R s m args below meth c H locs cells slots Q (F0 m pc ls (.int (v) :: .int i :: .ref (a 14) :: rest)) := by
  subst hk
  exact va_iast hx hb hK S.1 S.2.1 S.2.2 14 0 rfl rfl hin hd (fun H1 locs1 hP hD hS => kk H1 locs1 ⟨hP, hD, hS⟩)
theorem ld_M_1 {i : Int32} {k : Nat} (hx : p.tables.exec = Jvm.exec) (hb : c.code = cc) (hK : va_K D clS (tyS cI cZ) s) (hP : va_P D clS (wM cI cZ a σ) H) (hin : vp_in i 1024) (hk : i.toNatClampNeg = k) (hd : decode cc pc = .ok (.iaload, 1)) (kk : W p l e R s m args below meth c H locs cells slots Q (F0 m (pc + 1) ls (.int (σ 9 k) :: rest))) : W p l e R s m args below meth c H locs cells slots Q (F0 m pc ls (.int i :: .ref (a 1) :: rest)) := by
  subst hk
  exact va_iald hx hb hK hP 1 0 rfl rfl hin hd kk
theorem st_M_1 {i : Int32} {k : Nat} {v : Int32} (hx : p.tables.exec = Jvm.exec) (hb : c.code = cc) (hK : va_K D clS (tyS cI cZ) s) (S : St D (wM cI cZ a) A s σ H locs) (hin : vp_in i 1024) (hk : i.toNatClampNeg = k) (hd : decode cc pc = .ok (.iastore, 1)) (kk : ∀ (H : Heap) (locs : List Loc), St D (wM cI cZ a) A s (up2 σ 9 k (v)) H locs → W p l e R s m args below meth c H locs cells slots Q (F0 m (pc + 1) ls rest)) : W p l e R s m args below meth c H locs cells slots Q (F0 m pc ls (.int (v) :: .int i :: .ref (a 1) :: rest)) := by
  subst hk
  exact va_iast hx hb hK S.1 S.2.1 S.2.2 1 0 rfl rfl hin hd (fun H1 locs1 hP hD hS => kk H1 locs1 ⟨hP, hD, hS⟩)
theorem ld_M_2 {i : Int32} {k : Nat} (hx : p.tables.exec = Jvm.exec) (hb : c.code = cc) (hK : va_K D clS (tyS cI cZ) s) (hP : va_P D clS (wM cI cZ a σ) H) (hin : vp_in i 16) (hk : i.toNatClampNeg = k) (hd : decode cc pc = .ok (.iaload, 1)) (kk : W p l e R s m args below meth c H locs cells slots Q (F0 m (pc + 1) ls (.int (σ 0 k) :: rest))) : W p l e R s m args below meth c H locs cells slots Q (F0 m pc ls (.int i :: .ref (a 2) :: rest)) := by
  subst hk
  exact va_iald hx hb hK hP 2 0 rfl rfl hin hd kk
theorem st_M_2 {i : Int32} {k : Nat} {v : Int32} (hx : p.tables.exec = Jvm.exec) (hb : c.code = cc) (hK : va_K D clS (tyS cI cZ) s) (S : St D (wM cI cZ a) A s σ H locs) (hin : vp_in i 16) (hk : i.toNatClampNeg = k) (hd : decode cc pc = .ok (.iastore, 1)) (kk : ∀ (H : Heap) (locs : List Loc), St D (wM cI cZ a) A s (up2 σ 0 k (v)) H locs → W p l e R s m args below meth c H locs cells slots Q (F0 m (pc + 1) ls rest)) : W p l e R s m args below meth c H locs cells slots Q (F0 m pc ls (.int (v) :: .int i :: .ref (a 2) :: rest)) := by
  subst hk
  exact va_iast hx hb hK S.1 S.2.1 S.2.2 2 0 rfl rfl hin hd (fun H1 locs1 hP hD hS => kk H1 locs1 ⟨hP, hD, hS⟩)
theorem ld_M_3 {i : Int32} {k : Nat} (hx : p.tables.exec = Jvm.exec) (hb : c.code = cc) (hK : va_K D clS (tyS cI cZ) s) (hP : va_P D clS (wM cI cZ a σ) H) (hin : vp_in i 16) (hk : i.toNatClampNeg = k) (hd : decode cc pc = .ok (.iaload, 1)) (kk : W p l e R s m args below meth c H locs cells slots Q (F0 m (pc + 1) ls (.int (σ 4 k) :: rest))) : W p l e R s m args below meth c H locs cells slots Q (F0 m pc ls (.int i :: .ref (a 3) :: rest)) := by
  subst hk
  exact va_iald hx hb hK hP 3 0 rfl rfl hin hd kk
theorem st_M_3 {i : Int32} {k : Nat} {v : Int32} (hx : p.tables.exec = Jvm.exec) (hb : c.code = cc) (hK : va_K D clS (tyS cI cZ) s) (S : St D (wM cI cZ a) A s σ H locs) (hin : vp_in i 16) (hk : i.toNatClampNeg = k) (hd : decode cc pc = .ok (.iastore, 1)) (kk : ∀ (H : Heap) (locs : List Loc), St D (wM cI cZ a) A s (up2 σ 4 k (v)) H locs → W p l e R s m args below meth c H locs cells slots Q (F0 m (pc + 1) ls rest)) : W p l e R s m args below meth c H locs cells slots Q (F0 m pc ls (.int (v) :: .int i :: .ref (a 3) :: rest)) := by
  subst hk
  exact va_iast hx hb hK S.1 S.2.1 S.2.2 3 0 rfl rfl hin hd (fun H1 locs1 hP hD hS => kk H1 locs1 ⟨hP, hD, hS⟩)
theorem ld_M_4 {i : Int32} {k : Nat} (hx : p.tables.exec = Jvm.exec) (hb : c.code = cc) (hK : va_K D clS (tyS cI cZ) s) (hP : va_P D clS (wM cI cZ a σ) H) (hin : vp_in i 16) (hk : i.toNatClampNeg = k) (hd : decode cc pc = .ok (.baload, 1)) (kk : W p l e R s m args below meth c H locs cells slots Q (F0 m (pc + 1) ls (.int (σ 1 k) :: rest))) : W p l e R s m args below meth c H locs cells slots Q (F0 m pc ls (.int i :: .ref (a 4) :: rest)) := by
  subst hk
  exact va_zald hx hb hK hP 4 1 rfl rfl hin hd kk
theorem st_M_4 {i : Int32} {k : Nat} {b : Bool} (hx : p.tables.exec = Jvm.exec) (hb : c.code = cc) (hK : va_K D clS (tyS cI cZ) s) (S : St D (wM cI cZ a) A s σ H locs) (hin : vp_in i 16) (hk : i.toNatClampNeg = k) (hd : decode cc pc = .ok (.bastore, 1)) (kk : ∀ (H : Heap) (locs : List Loc), St D (wM cI cZ a) A s (up2 σ 1 k (bI b)) H locs → W p l e R s m args below meth c H locs cells slots Q (F0 m (pc + 1) ls rest)) : W p l e R s m args below meth c H locs cells slots Q (F0 m pc ls (.int (bI b) :: .int i :: .ref (a 4) :: rest)) := by
  subst hk
  exact va_zast hx hb hK S.1 S.2.1 S.2.2 4 1 rfl rfl hin hd (fun H1 locs1 hP hD hS => by rw [bI_nar] at hP hD; exact kk H1 locs1 ⟨hP, hD, hS⟩)
theorem ld_M_5 {i : Int32} {k : Nat} (hx : p.tables.exec = Jvm.exec) (hb : c.code = cc) (hK : va_K D clS (tyS cI cZ) s) (hP : va_P D clS (wM cI cZ a σ) H) (hin : vp_in i 16) (hk : i.toNatClampNeg = k) (hd : decode cc pc = .ok (.baload, 1)) (kk : W p l e R s m args below meth c H locs cells slots Q (F0 m (pc + 1) ls (.int (σ 2 k) :: rest))) : W p l e R s m args below meth c H locs cells slots Q (F0 m pc ls (.int i :: .ref (a 5) :: rest)) := by
  subst hk
  exact va_zald hx hb hK hP 5 1 rfl rfl hin hd kk
theorem st_M_5 {i : Int32} {k : Nat} {b : Bool} (hx : p.tables.exec = Jvm.exec) (hb : c.code = cc) (hK : va_K D clS (tyS cI cZ) s) (S : St D (wM cI cZ a) A s σ H locs) (hin : vp_in i 16) (hk : i.toNatClampNeg = k) (hd : decode cc pc = .ok (.bastore, 1)) (kk : ∀ (H : Heap) (locs : List Loc), St D (wM cI cZ a) A s (up2 σ 2 k (bI b)) H locs → W p l e R s m args below meth c H locs cells slots Q (F0 m (pc + 1) ls rest)) : W p l e R s m args below meth c H locs cells slots Q (F0 m pc ls (.int (bI b) :: .int i :: .ref (a 5) :: rest)) := by
  subst hk
  exact va_zast hx hb hK S.1 S.2.1 S.2.2 5 1 rfl rfl hin hd (fun H1 locs1 hP hD hS => by rw [bI_nar] at hP hD; exact kk H1 locs1 ⟨hP, hD, hS⟩)
theorem ld_M_6 {i : Int32} {k : Nat} (hx : p.tables.exec = Jvm.exec) (hb : c.code = cc) (hK : va_K D clS (tyS cI cZ) s) (hP : va_P D clS (wM cI cZ a σ) H) (hin : vp_in i 16) (hk : i.toNatClampNeg = k) (hd : decode cc pc = .ok (.baload, 1)) (kk : W p l e R s m args below meth c H locs cells slots Q (F0 m (pc + 1) ls (.int (σ 3 k) :: rest))) : W p l e R s m args below meth c H locs cells slots Q (F0 m pc ls (.int i :: .ref (a 6) :: rest)) := by
  subst hk
  exact va_zald hx hb hK hP 6 1 rfl rfl hin hd kk
theorem st_M_6 {i : Int32} {k : Nat} {b : Bool} (hx : p.tables.exec = Jvm.exec) (hb : c.code = cc) (hK : va_K D clS (tyS cI cZ) s) (S : St D (wM cI cZ a) A s σ H locs) (hin : vp_in i 16) (hk : i.toNatClampNeg = k) (hd : decode cc pc = .ok (.bastore, 1)) (kk : ∀ (H : Heap) (locs : List Loc), St D (wM cI cZ a) A s (up2 σ 3 k (bI b)) H locs → W p l e R s m args below meth c H locs cells slots Q (F0 m (pc + 1) ls rest)) : W p l e R s m args below meth c H locs cells slots Q (F0 m pc ls (.int (bI b) :: .int i :: .ref (a 6) :: rest)) := by
  subst hk
  exact va_zast hx hb hK S.1 S.2.1 S.2.2 6 1 rfl rfl hin hd (fun H1 locs1 hP hD hS => by rw [bI_nar] at hP hD; exact kk H1 locs1 ⟨hP, hD, hS⟩)
theorem ld_M_7 {i : Int32} {k : Nat} (hx : p.tables.exec = Jvm.exec) (hb : c.code = cc) (hK : va_K D clS (tyS cI cZ) s) (hP : va_P D clS (wM cI cZ a σ) H) (hin : vp_in i 4) (hk : i.toNatClampNeg = k) (hd : decode cc pc = .ok (.iaload, 1)) (kk : W p l e R s m args below meth c H locs cells slots Q (F0 m (pc + 1) ls (.int (σ 5 k) :: rest))) : W p l e R s m args below meth c H locs cells slots Q (F0 m pc ls (.int i :: .ref (a 7) :: rest)) := by
  subst hk
  exact va_iald hx hb hK hP 7 0 rfl rfl hin hd kk
theorem st_M_7 {i : Int32} {k : Nat} {v : Int32} (hx : p.tables.exec = Jvm.exec) (hb : c.code = cc) (hK : va_K D clS (tyS cI cZ) s) (S : St D (wM cI cZ a) A s σ H locs) (hin : vp_in i 4) (hk : i.toNatClampNeg = k) (hd : decode cc pc = .ok (.iastore, 1)) (kk : ∀ (H : Heap) (locs : List Loc), St D (wM cI cZ a) A s (up2 σ 5 k (v)) H locs → W p l e R s m args below meth c H locs cells slots Q (F0 m (pc + 1) ls rest)) : W p l e R s m args below meth c H locs cells slots Q (F0 m pc ls (.int (v) :: .int i :: .ref (a 7) :: rest)) := by
  subst hk
  exact va_iast hx hb hK S.1 S.2.1 S.2.2 7 0 rfl rfl hin hd (fun H1 locs1 hP hD hS => kk H1 locs1 ⟨hP, hD, hS⟩)
theorem ld_M_8 {i : Int32} {k : Nat} (hx : p.tables.exec = Jvm.exec) (hb : c.code = cc) (hK : va_K D clS (tyS cI cZ) s) (hP : va_P D clS (wM cI cZ a σ) H) (hin : vp_in i 4) (hk : i.toNatClampNeg = k) (hd : decode cc pc = .ok (.iaload, 1)) (kk : W p l e R s m args below meth c H locs cells slots Q (F0 m (pc + 1) ls (.int (σ 10 k) :: rest))) : W p l e R s m args below meth c H locs cells slots Q (F0 m pc ls (.int i :: .ref (a 8) :: rest)) := by
  subst hk
  exact va_iald hx hb hK hP 8 0 rfl rfl hin hd kk
theorem st_M_8 {i : Int32} {k : Nat} {v : Int32} (hx : p.tables.exec = Jvm.exec) (hb : c.code = cc) (hK : va_K D clS (tyS cI cZ) s) (S : St D (wM cI cZ a) A s σ H locs) (hin : vp_in i 4) (hk : i.toNatClampNeg = k) (hd : decode cc pc = .ok (.iastore, 1)) (kk : ∀ (H : Heap) (locs : List Loc), St D (wM cI cZ a) A s (up2 σ 10 k (v)) H locs → W p l e R s m args below meth c H locs cells slots Q (F0 m (pc + 1) ls rest)) : W p l e R s m args below meth c H locs cells slots Q (F0 m pc ls (.int (v) :: .int i :: .ref (a 8) :: rest)) := by
  subst hk
  exact va_iast hx hb hK S.1 S.2.1 S.2.2 8 0 rfl rfl hin hd (fun H1 locs1 hP hD hS => kk H1 locs1 ⟨hP, hD, hS⟩)
theorem ld_M_9 {i : Int32} {k : Nat} (hx : p.tables.exec = Jvm.exec) (hb : c.code = cc) (hK : va_K D clS (tyS cI cZ) s) (hP : va_P D clS (wM cI cZ a σ) H) (hin : vp_in i 4) (hk : i.toNatClampNeg = k) (hd : decode cc pc = .ok (.iaload, 1)) (kk : W p l e R s m args below meth c H locs cells slots Q (F0 m (pc + 1) ls (.int (σ 6 k) :: rest))) : W p l e R s m args below meth c H locs cells slots Q (F0 m pc ls (.int i :: .ref (a 9) :: rest)) := by
  subst hk
  exact va_iald hx hb hK hP 9 0 rfl rfl hin hd kk
theorem st_M_9 {i : Int32} {k : Nat} {v : Int32} (hx : p.tables.exec = Jvm.exec) (hb : c.code = cc) (hK : va_K D clS (tyS cI cZ) s) (S : St D (wM cI cZ a) A s σ H locs) (hin : vp_in i 4) (hk : i.toNatClampNeg = k) (hd : decode cc pc = .ok (.iastore, 1)) (kk : ∀ (H : Heap) (locs : List Loc), St D (wM cI cZ a) A s (up2 σ 6 k (v)) H locs → W p l e R s m args below meth c H locs cells slots Q (F0 m (pc + 1) ls rest)) : W p l e R s m args below meth c H locs cells slots Q (F0 m pc ls (.int (v) :: .int i :: .ref (a 9) :: rest)) := by
  subst hk
  exact va_iast hx hb hK S.1 S.2.1 S.2.2 9 0 rfl rfl hin hd (fun H1 locs1 hP hD hS => kk H1 locs1 ⟨hP, hD, hS⟩)
theorem ld_M_10 {i : Int32} {k : Nat} (hx : p.tables.exec = Jvm.exec) (hb : c.code = cc) (hK : va_K D clS (tyS cI cZ) s) (hP : va_P D clS (wM cI cZ a σ) H) (hin : vp_in i 4) (hk : i.toNatClampNeg = k) (hd : decode cc pc = .ok (.baload, 1)) (kk : W p l e R s m args below meth c H locs cells slots Q (F0 m (pc + 1) ls (.int (σ 7 k) :: rest))) : W p l e R s m args below meth c H locs cells slots Q (F0 m pc ls (.int i :: .ref (a 10) :: rest)) := by
  subst hk
  exact va_zald hx hb hK hP 10 1 rfl rfl hin hd kk
theorem st_M_10 {i : Int32} {k : Nat} {b : Bool} (hx : p.tables.exec = Jvm.exec) (hb : c.code = cc) (hK : va_K D clS (tyS cI cZ) s) (S : St D (wM cI cZ a) A s σ H locs) (hin : vp_in i 4) (hk : i.toNatClampNeg = k) (hd : decode cc pc = .ok (.bastore, 1)) (kk : ∀ (H : Heap) (locs : List Loc), St D (wM cI cZ a) A s (up2 σ 7 k (bI b)) H locs → W p l e R s m args below meth c H locs cells slots Q (F0 m (pc + 1) ls rest)) : W p l e R s m args below meth c H locs cells slots Q (F0 m pc ls (.int (bI b) :: .int i :: .ref (a 10) :: rest)) := by
  subst hk
  exact va_zast hx hb hK S.1 S.2.1 S.2.2 10 1 rfl rfl hin hd (fun H1 locs1 hP hD hS => by rw [bI_nar] at hP hD; exact kk H1 locs1 ⟨hP, hD, hS⟩)
end ROWS
theorem v_N_289 : SK "NestedCore" 289 y_In_bitCount b_In_bitCount 1 (some .int) 1 := ⟨k_86, k_87, k_88, k_89, by decide +kernel⟩
theorem v_N_72 : SK "NestedCore" 72 y_N_even b_N_even 1 (some .int) 1 := ⟨k_90, k_91, k_92, k_93, by decide +kernel⟩
theorem v_Mo_154 : SK "NestedCoreModel" 154 y_Mo_ones b_Mo_ones 3 (some .int) 1 := ⟨k_94, k_95, k_96, k_97, by decide +kernel⟩
theorem v_Mo_45 : SK "NestedCoreModel" 45 y_Mo_isWord b_Mo_isWord 1 (some .boolean) 1 := ⟨k_98, k_99, k_96, k_100, by decide +kernel⟩
theorem v_Mo_96 : SK "NestedCoreModel" 96 y_Mo_isFrame b_Mo_isFrame 1 (some .boolean) 1 := ⟨k_101, k_102, k_96, k_103, by decide +kernel⟩
theorem v_Ex_29 : VK "NestedCore$Exceptions" 29 y_Ex_group b_Ex_group 2 (some .int) 1 := ⟨k_104, k_105, k_106, k_107, k_108, by decide +kernel⟩
theorem v_Ex_49 : VK "NestedCore$Exceptions" 49 y_Ex_level b_Ex_level 3 (some .int) 0 := ⟨k_109, k_110, k_111, k_107, k_112, by decide +kernel⟩
theorem v_Fl_24 : VK "NestedCore$Flags" 24 y_Fl_ofResult b_Fl_ofResult 2 none 1 := ⟨k_113, k_114, k_115, k_116, k_117, by decide +kernel⟩
theorem v_Fl_28 : VK "NestedCore$Flags" 28 y_Fl_sum b_Fl_sum 9 (some .int) 3 := ⟨k_118, k_119, k_120, k_116, k_121, by decide +kernel⟩
theorem v_Me_15 : VK "NestedCore$Memory" 15 y_Me_load b_Me_load 2 (some .int) 1 := ⟨k_122, k_123, k_124, k_125, k_126, by decide +kernel⟩
theorem v_N_112 : VK "NestedCore" 112 y_Ar_lay b_Ar_lay 6 none 5 := ⟨k_127, k_128, k_129, k_130, k_131, by decide +kernel⟩
theorem v_N_121 : VK "NestedCore" 121 y_N_step b_N_step 3 none 0 := ⟨k_132, k_133, k_134, k_92, k_135, by decide +kernel⟩
theorem v_N_124 : VK "NestedCore" 124 y_Fl_packed b_Fl_packed 1 (some .int) 0 := ⟨k_136, k_137, k_138, k_116, k_139, by decide +kernel⟩
theorem v_N_131 : VK "NestedCore" 131 y_Ex_level b_Ex_level 3 (some .int) 0 := ⟨k_140, k_110, k_111, k_107, k_112, by decide +kernel⟩
theorem v_N_134 : VK "NestedCore" 134 y_Ex_due b_Ex_due 3 (some .int) 0 := ⟨k_141, k_142, k_143, k_107, k_144, by decide +kernel⟩
theorem v_N_151 : VK "NestedCore" 151 y_Ex_packed b_Ex_packed 2 (some .int) 1 := ⟨k_145, k_146, k_147, k_107, k_148, by decide +kernel⟩
theorem v_N_153 : VK "NestedCore" 153 y_Ti_fires b_Ti_fires 1 (some .boolean) 0 := ⟨k_149, k_150, k_151, k_152, k_153, by decide +kernel⟩
theorem v_N_157 : VK "NestedCore" 157 y_N_take b_N_take 5 none 1 := ⟨k_154, k_155, k_156, k_92, k_157, by decide +kernel⟩
theorem v_N_166 : VK "NestedCore" 166 y_N_fetchFault b_N_fetchFault 1 (some .int) 0 := ⟨k_158, k_159, k_160, k_92, k_161, by decide +kernel⟩
theorem v_N_169 : VK "NestedCore" 169 y_N_fetch b_N_fetch 2 (some .int) 0 := ⟨k_162, k_163, k_164, k_92, k_165, by decide +kernel⟩
theorem v_N_172 : VK "NestedCore" 172 y_N_execute b_N_execute 2 (some .int) 1 := ⟨k_166, k_167, k_168, k_92, k_169, by decide +kernel⟩
theorem v_N_175 : VK "NestedCore" 175 y_N_land b_N_land 2 (some .int) 0 := ⟨k_170, k_171, k_172, k_92, k_173, by decide +kernel⟩
theorem v_N_178 : VK "NestedCore" 178 y_N_raise b_N_raise 3 none 1 := ⟨k_174, k_175, k_176, k_92, k_177, by decide +kernel⟩
theorem v_N_181 : VK "NestedCore" 181 y_Me_holdsFrame b_Me_holdsFrame 2 (some .boolean) 1 := ⟨k_178, k_179, k_180, k_125, k_181, by decide +kernel⟩
theorem v_N_187 : VK "NestedCore" 187 y_N_enter b_N_enter 2 none 1 := ⟨k_182, k_183, k_184, k_92, k_185, by decide +kernel⟩
theorem v_N_196 : VK "NestedCore" 196 y_Ex_group b_Ex_group 2 (some .int) 1 := ⟨k_186, k_105, k_106, k_107, k_108, by decide +kernel⟩
theorem v_N_199 : VK "NestedCore" 199 y_N_comeBack b_N_comeBack 6 (some .int) 1 := ⟨k_187, k_188, k_189, k_92, k_190, by decide +kernel⟩
theorem v_N_202 : VK "NestedCore" 202 y_Ex_leave b_Ex_leave 2 none 1 := ⟨k_191, k_192, k_193, k_107, k_194, by decide +kernel⟩
theorem v_N_205 : VK "NestedCore" 205 y_N_unstack b_N_unstack 4 none 2 := ⟨k_195, k_196, k_197, k_92, k_198, by decide +kernel⟩
theorem v_N_208 : VK "NestedCore" 208 y_Fl_unpack b_Fl_unpack 2 none 1 := ⟨k_199, k_200, k_201, k_116, k_202, by decide +kernel⟩
theorem v_N_211 : VK "NestedCore" 211 y_Me_holdsHalf b_Me_holdsHalf 2 (some .boolean) 1 := ⟨k_203, k_204, k_205, k_125, k_206, by decide +kernel⟩
theorem v_N_214 : VK "NestedCore" 214 y_Ar_bars b_Ar_bars 5 (some .boolean) 3 := ⟨k_207, k_208, k_209, k_130, k_210, by decide +kernel⟩
theorem v_N_218 : VK "NestedCore" 218 y_Me_half b_Me_half 2 (some .int) 1 := ⟨k_211, k_212, k_213, k_125, k_214, by decide +kernel⟩
theorem v_N_221 : VK "NestedCore" 221 y_N_shift b_N_shift 6 (some .int) 1 := ⟨k_215, k_216, k_217, k_92, k_218, by decide +kernel⟩
theorem v_N_224 : VK "NestedCore" 224 y_N_addThree b_N_addThree 5 (some .int) 1 := ⟨k_219, k_220, k_221, k_92, k_222, by decide +kernel⟩
theorem v_N_227 : VK "NestedCore" 227 y_N_withNumber b_N_withNumber 4 (some .int) 1 := ⟨k_223, k_224, k_225, k_92, k_226, by decide +kernel⟩
theorem v_N_230 : VK "NestedCore" 230 y_N_combine b_N_combine 5 (some .int) 1 := ⟨k_227, k_228, k_229, k_92, k_230, by decide +kernel⟩
theorem v_N_233 : VK "NestedCore" 233 y_N_copyOrBranch b_N_copyOrBranch 2 (some .int) 1 := ⟨k_231, k_232, k_233, k_92, k_234, by decide +kernel⟩
theorem v_N_236 : VK "NestedCore" 236 y_N_move b_N_move 6 (some .int) 3 := ⟨k_235, k_236, k_237, k_92, k_238, by decide +kernel⟩
theorem v_N_240 : VK "NestedCore" 240 y_N_stackOrSwitch b_N_stackOrSwitch 3 (some .int) 1 := ⟨k_239, k_240, k_241, k_92, k_242, by decide +kernel⟩
theorem v_N_243 : VK "NestedCore" 243 y_N_callOut b_N_callOut 1 (some .int) 0 := ⟨k_243, k_244, k_245, k_92, k_246, by decide +kernel⟩
theorem v_N_246 : VK "NestedCore" 246 y_N_branchIf b_N_branchIf 3 (some .int) 1 := ⟨k_247, k_248, k_249, k_92, k_250, by decide +kernel⟩
theorem v_N_249 : VK "NestedCore" 249 y_N_branch b_N_branch 2 (some .int) 1 := ⟨k_251, k_252, k_253, k_92, k_254, by decide +kernel⟩
theorem v_N_255 : VK "NestedCore" 255 y_Fl_ofResult b_Fl_ofResult 2 none 1 := ⟨k_255, k_114, k_115, k_116, k_117, by decide +kernel⟩
theorem v_N_258 : VK "NestedCore" 258 y_Fl_sum b_Fl_sum 9 (some .int) 3 := ⟨k_256, k_119, k_120, k_116, k_121, by decide +kernel⟩
theorem v_N_261 : VK "NestedCore" 261 y_Fl_difference b_Fl_difference 3 (some .int) 2 := ⟨k_257, k_258, k_259, k_116, k_260, by decide +kernel⟩
theorem v_N_265 : VK "NestedCore" 265 y_N_bits b_N_bits 3 (some .int) 2 := ⟨k_261, k_262, k_263, k_92, k_264, by decide +kernel⟩
theorem v_N_268 : VK "NestedCore" 268 y_Fl_carry b_Fl_carry 1 (some .int) 0 := ⟨k_265, k_266, k_267, k_116, k_268, by decide +kernel⟩
theorem v_N_271 : VK "NestedCore" 271 y_N_copyAny b_N_copyAny 4 (some .int) 1 := ⟨k_269, k_270, k_271, k_92, k_272, by decide +kernel⟩
theorem v_N_274 : VK "NestedCore" 274 y_N_branchTo b_N_branchTo 3 (some .int) 1 := ⟨k_273, k_274, k_275, k_92, k_276, by decide +kernel⟩
theorem v_N_277 : VK "NestedCore" 277 y_N_faultAlong b_N_faultAlong 5 (some .int) 3 := ⟨k_277, k_278, k_279, k_92, k_280, by decide +kernel⟩
theorem v_N_280 : VK "NestedCore" 280 y_N_push b_N_push 7 (some .int) 1 := ⟨k_281, k_282, k_283, k_92, k_284, by decide +kernel⟩
theorem v_N_283 : VK "NestedCore" 283 y_N_pop b_N_pop 6 (some .int) 1 := ⟨k_285, k_286, k_287, k_92, k_288, by decide +kernel⟩
theorem v_N_286 : VK "NestedCore" 286 y_N_switchOrNothing b_N_switchOrNothing 2 (some .int) 1 := ⟨k_289, k_290, k_291, k_92, k_292, by decide +kernel⟩
theorem v_N_294 : VK "NestedCore" 294 y_Fl_meet b_Fl_meet 3 (some .boolean) 1 := ⟨k_293, k_294, k_295, k_116, k_296, by decide +kernel⟩
theorem v_N_51 : VK "NestedCore" 51 y_Me_holdsWord b_Me_holdsWord 2 (some .boolean) 1 := ⟨k_297, k_298, k_299, k_125, k_300, by decide +kernel⟩
theorem v_N_62 : VK "NestedCore" 62 y_Me_store b_Me_store 3 none 2 := ⟨k_301, k_302, k_303, k_125, k_304, by decide +kernel⟩
theorem v_N_66 : VK "NestedCore" 66 y_Me_load b_Me_load 2 (some .int) 1 := ⟨k_305, k_123, k_124, k_125, k_126, by decide +kernel⟩
theorem v_N_89 : VK "NestedCore" 89 y_Ti_start b_Ti_start 2 none 1 := ⟨k_306, k_307, k_308, k_152, k_309, by decide +kernel⟩
theorem v_N_98 : VK "NestedCore" 98 y_Ex_order b_Ex_order 4 none 3 := ⟨k_310, k_311, k_312, k_107, k_313, by decide +kernel⟩
theorem v_Mo_102 : VK "NestedCoreModel" 102 y_Mo_store b_Mo_store 4 none 2 := ⟨k_314, k_315, k_316, k_96, k_317, by decide +kernel⟩
theorem v_Mo_106 : VK "NestedCoreModel" 106 y_Mo_status b_Mo_status 2 (some .int) 1 := ⟨k_318, k_319, k_320, k_96, k_321, by decide +kernel⟩
theorem v_Mo_110 : VK "NestedCoreModel" 110 y_Mo_enter b_Mo_enter 2 none 1 := ⟨k_322, k_323, k_324, k_96, k_325, by decide +kernel⟩
theorem v_Mo_117 : VK "NestedCoreModel" 117 y_Mo_flags b_Mo_flags 2 none 1 := ⟨k_326, k_327, k_328, k_96, k_329, by decide +kernel⟩
theorem v_Mo_125 : VK "NestedCoreModel" 125 y_Mo_test b_Mo_test 2 none 1 := ⟨k_330, k_331, k_332, k_96, k_333, by decide +kernel⟩
theorem v_Mo_128 : VK "NestedCoreModel" 128 y_Mo_sum b_Mo_sum 9 (some .int) 3 := ⟨k_334, k_335, k_336, k_96, k_337, by decide +kernel⟩
theorem v_Mo_132 : VK "NestedCoreModel" 132 y_Mo_isReturn b_Mo_isReturn 2 (some .boolean) 1 := ⟨k_338, k_339, k_340, k_96, k_341, by decide +kernel⟩
theorem v_Mo_135 : VK "NestedCoreModel" 135 y_Mo_due b_Mo_due 3 (some .int) 0 := ⟨k_342, k_343, k_344, k_96, k_345, by decide +kernel⟩
theorem v_Mo_138 : VK "NestedCoreModel" 138 y_Mo_isBack b_Mo_isBack 4 (some .boolean) 2 := ⟨k_346, k_347, k_348, k_96, k_349, by decide +kernel⟩
theorem v_Mo_144 : VK "NestedCoreModel" 144 y_Mo_comeBack b_Mo_comeBack 4 none 1 := ⟨k_350, k_351, k_352, k_96, k_353, by decide +kernel⟩
theorem v_Mo_147 : VK "NestedCoreModel" 147 y_Mo_jump b_Mo_jump 4 (some .int) 2 := ⟨k_354, k_355, k_356, k_96, k_357, by decide +kernel⟩
theorem v_Mo_151 : VK "NestedCoreModel" 151 y_Mo_faultOf b_Mo_faultOf 5 (some .int) 3 := ⟨k_358, k_359, k_360, k_96, k_361, by decide +kernel⟩
theorem v_Mo_157 : VK "NestedCoreModel" 157 y_Mo_holds b_Mo_holds 2 (some .boolean) 1 := ⟨k_362, k_363, k_364, k_96, k_365, by decide +kernel⟩
theorem v_Mo_164 : VK "NestedCoreModel" 164 y_Mo_push b_Mo_push 6 (some .int) 1 := ⟨k_366, k_367, k_368, k_96, k_369, by decide +kernel⟩
theorem v_Mo_168 : VK "NestedCoreModel" 168 y_Mo_shift b_Mo_shift 6 (some .int) 1 := ⟨k_370, k_371, k_372, k_96, k_373, by decide +kernel⟩
theorem v_Mo_171 : VK "NestedCoreModel" 171 y_Mo_immediate b_Mo_immediate 6 (some .int) 1 := ⟨k_374, k_375, k_376, k_96, k_377, by decide +kernel⟩
theorem v_Mo_174 : VK "NestedCoreModel" 174 y_Mo_logic b_Mo_logic 7 (some .int) 1 := ⟨k_378, k_379, k_380, k_96, k_381, by decide +kernel⟩
theorem v_Mo_177 : VK "NestedCoreModel" 177 y_Mo_moveHigh b_Mo_moveHigh 4 (some .int) 1 := ⟨k_382, k_383, k_384, k_96, k_385, by decide +kernel⟩
theorem v_Mo_180 : VK "NestedCoreModel" 180 y_Mo_move b_Mo_move 5 (some .int) 3 := ⟨k_386, k_387, k_388, k_96, k_389, by decide +kernel⟩
theorem v_Mo_184 : VK "NestedCoreModel" 184 y_Mo_special b_Mo_special 2 (some .int) 1 := ⟨k_390, k_391, k_392, k_96, k_393, by decide +kernel⟩
theorem v_Mo_188 : VK "NestedCoreModel" 188 y_Mo_exchange b_Mo_exchange 3 (some .int) 1 := ⟨k_394, k_395, k_396, k_96, k_397, by decide +kernel⟩
theorem v_Mo_191 : VK "NestedCoreModel" 191 y_Mo_pop b_Mo_pop 10 (some .int) 1 := ⟨k_398, k_399, k_400, k_96, k_401, by decide +kernel⟩
theorem v_Mo_194 : VK "NestedCoreModel" 194 y_Mo_conditional b_Mo_conditional 4 (some .int) 1 := ⟨k_402, k_403, k_404, k_96, k_405, by decide +kernel⟩
theorem v_Mo_197 : VK "NestedCoreModel" 197 y_Mo_plain b_Mo_plain 5 (some .int) 1 := ⟨k_406, k_407, k_408, k_96, k_409, by decide +kernel⟩
theorem v_Mo_200 : VK "NestedCoreModel" 200 y_Mo_does b_Mo_does 3 (some .int) 1 := ⟨k_410, k_411, k_412, k_96, k_413, by decide +kernel⟩
theorem v_Mo_209 : VK "NestedCoreModel" 209 y_Mo_take b_Mo_take 5 none 1 := ⟨k_414, k_415, k_416, k_96, k_417, by decide +kernel⟩
theorem v_Mo_212 : VK "NestedCoreModel" 212 y_Mo_fetched b_Mo_fetched 2 (some .int) 0 := ⟨k_418, k_419, k_420, k_96, k_421, by decide +kernel⟩
theorem v_Mo_215 : VK "NestedCoreModel" 215 y_Mo_fault b_Mo_fault 3 none 1 := ⟨k_422, k_423, k_424, k_96, k_425, by decide +kernel⟩
theorem v_Mo_218 : VK "NestedCoreModel" 218 y_Mo_fails b_Mo_fails 2 (some .boolean) 1 := ⟨k_426, k_427, k_428, k_96, k_429, by decide +kernel⟩
theorem v_Mo_222 : VK "NestedCoreModel" 222 y_Mo_step b_Mo_step 3 none 0 := ⟨k_430, k_431, k_432, k_96, k_433, by decide +kernel⟩
theorem v_Mo_49 : VK "NestedCoreModel" 49 y_Mo_barred b_Mo_barred 5 (some .boolean) 2 := ⟨k_434, k_435, k_436, k_96, k_437, by decide +kernel⟩
theorem v_Mo_56 : VK "NestedCoreModel" 56 y_Mo_group b_Mo_group 2 (some .int) 1 := ⟨k_438, k_439, k_440, k_96, k_441, by decide +kernel⟩
theorem v_Mo_70 : VK "NestedCoreModel" 70 y_Mo_level b_Mo_level 3 (some .int) 0 := ⟨k_442, k_443, k_444, k_96, k_445, by decide +kernel⟩
theorem v_Mo_77 : VK "NestedCoreModel" 77 y_Mo_load b_Mo_load 2 (some .int) 1 := ⟨k_446, k_447, k_448, k_96, k_449, by decide +kernel⟩
set_option maxRecDepth 100000 in
theorem k_minC : Jvm.Cond.code Lib.Math.min.name Lib.Math.min.code 2 (some .int) ∈ WS := ws_tab (List.mem_of_getElem? (i := 342) rfl) rfl
theorem k_acN : Jvm.Cond.native arraycopyName ∈ WS := ws_tab (List.mem_of_getElem? (i := 363) (by decide +kernel)) (by decide +kernel)
section ROWS2
variable {p : Program} {l : Launch} {e : Env} {R : Room} {s : State} {m : MethodId} {args : Array Value} {below : List Frame} {meth : Method} {c : Code} {H : Heap} {locs : List Loc} {cells slots : Nat} {Q : State → Prop}
variable {cc : ByteArray} {pc nL : Nat} {ls : Array Slot} {rest : List Value} {D : va_G} {cI cZ : ClassId} {A : Nat → Prop} {a : Nat → Nat} {σ : nS}
theorem r_min (hx : p.tables.exec = Jvm.exec) (hb : c.code = cc) (hml : c.maxLocals = nL) (hts : ∀ w ∈ WS, w.before args s = true) {own : String} {idx : Nat} (hown : s.vm.findClass own = some m.cls) (hsz : ls.size = nL) (hk : Jvm.Cond.methodLink own idx ⟨"java/lang/Math", "min", "(II)I"⟩ ∈ WS) (hf : 1 ≤ R.frames) (hlo : (rest.map fun v => v.category).sum + 13 ≤ R.locals) {x y : Int32} (hd : decode cc pc = .ok (.invokestatic idx, 3)) (kk : W p l e R s m args below meth c H locs 0 0 Q (F0 m (pc + 3) ls (.int (if y < x then y else x) :: rest))) : W p l e R s m args below meth c H locs 0 0 Q (F0 m pc ls (.int y :: .int x :: rest)) :=
  va_mmin hx hb (hml.trans hsz.symm) hown (hts _ hk) (hts _ k_450) (hts _ k_451) (hts _ k_minC) hf hlo (Nat.zero_le _) (Nat.zero_le _) hd kk
theorem cp_1_2 (hx : p.tables.exec = Jvm.exec) (hb : c.code = cc) (hml : c.maxLocals = nL) (hts : ∀ w ∈ WS, w.before args s = true) {own : String} {idx : Nat} (hown : s.vm.findClass own = some m.cls) (hK : va_K D clS (tyS cI cZ) s) (S : St D (wC cI cZ a) A s σ H locs) (hsz : ls.size = nL) (hk : Jvm.Cond.methodLink own idx arraycopyName ∈ WS) (hd : decode cc pc = .ok (.invokestatic idx, 3)) (hf : 1 ≤ R.frames) (hlo : (rest.map fun v => v.category).sum + (nativeFrameWords "java/lang/System" "arraycopy" 5 + 11) ≤ R.locals)
    (kk : ∀ (H : Heap) (locs : List Loc), St D (wC cI cZ a) A s (upC σ 0 11) H locs → W p l e R s m args below meth c H locs cells slots Q (F0 m (pc + 3) ls rest)) : W p l e R s m args below meth c H locs cells slots Q (F0 m pc ls (.int 16 :: .int 0 :: .ref (a 2) :: .int 0 :: .ref (a 1) :: rest)) := by
  have e0 : (0 : Int32).toNatClampNeg = 0 := by decide
  have e16 : (16 : Int32).toNatClampNeg = 16 := by decide
  refine va_copyi hx hb (hml.trans hsz.symm) hown (hts _ hk) (hts _ k_acN) (hts _ k_452) (hts _ k_453) hK S.1 S.2.1 S.2.2 1 2 0 0 (ty := .int) rfl rfl rfl rfl rfl (by decide) (by decide) (by decide) (by decide) (by decide) (fun i hi => rfl) hf hlo hd (fun H1 locs1 hP hD hS => ?_)
  rw [e0, e16] at hP hD
  exact kk H1 locs1 ⟨hP, hD, hS⟩
theorem cp_2_1 (hx : p.tables.exec = Jvm.exec) (hb : c.code = cc) (hml : c.maxLocals = nL) (hts : ∀ w ∈ WS, w.before args s = true) {own : String} {idx : Nat} (hown : s.vm.findClass own = some m.cls) (hK : va_K D clS (tyS cI cZ) s) (S : St D (wC cI cZ a) A s σ H locs) (hsz : ls.size = nL) (hk : Jvm.Cond.methodLink own idx arraycopyName ∈ WS) (hd : decode cc pc = .ok (.invokestatic idx, 3)) (hf : 1 ≤ R.frames) (hlo : (rest.map fun v => v.category).sum + (nativeFrameWords "java/lang/System" "arraycopy" 5 + 11) ≤ R.locals)
    (kk : ∀ (H : Heap) (locs : List Loc), St D (wC cI cZ a) A s (upC σ 11 0) H locs → W p l e R s m args below meth c H locs cells slots Q (F0 m (pc + 3) ls rest)) : W p l e R s m args below meth c H locs cells slots Q (F0 m pc ls (.int 16 :: .int 0 :: .ref (a 1) :: .int 0 :: .ref (a 2) :: rest)) := by
  have e0 : (0 : Int32).toNatClampNeg = 0 := by decide
  have e16 : (16 : Int32).toNatClampNeg = 16 := by decide
  refine va_copyi hx hb (hml.trans hsz.symm) hown (hts _ hk) (hts _ k_acN) (hts _ k_452) (hts _ k_453) hK S.1 S.2.1 S.2.2 2 1 0 0 (ty := .int) rfl rfl rfl rfl rfl (by decide) (by decide) (by decide) (by decide) (by decide) (fun i hi => rfl) hf hlo hd (fun H1 locs1 hP hD hS => ?_)
  rw [e0, e16] at hP hD
  exact kk H1 locs1 ⟨hP, hD, hS⟩
end ROWS2
