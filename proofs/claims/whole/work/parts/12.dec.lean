theorem d_Ex_leave_17 : decode b_Ex_leave 17 = .ok (.return_, 1) := by decide +kernel
theorem d_Fl_unpack_0 : decode b_Fl_unpack 0 = .ok (.aload_n 0, 1) := by decide +kernel
theorem d_Fl_unpack_1 : decode b_Fl_unpack 1 = .ok (.iload_n 1, 1) := by decide +kernel
theorem d_Fl_unpack_2 : decode b_Fl_unpack 2 = .ok (.bipush (8), 2) := by decide +kernel
theorem d_Fl_unpack_4 : decode b_Fl_unpack 4 = .ok (.iand, 1) := by decide +kernel
theorem d_Fl_unpack_5 : decode b_Fl_unpack 5 = .ok (.ifCond .eq (7), 3) := by decide +kernel
theorem d_Fl_unpack_8 : decode b_Fl_unpack 8 = .ok (.iconst 1, 1) := by decide +kernel
theorem d_Fl_unpack_9 : decode b_Fl_unpack 9 = .ok (.goto (4), 3) := by decide +kernel
theorem d_Fl_unpack_12 : decode b_Fl_unpack 12 = .ok (.iconst 0, 1) := by decide +kernel
theorem d_Fl_unpack_13 : decode b_Fl_unpack 13 = .ok (.putfield 7, 3) := by decide +kernel
theorem d_Fl_unpack_16 : decode b_Fl_unpack 16 = .ok (.aload_n 0, 1) := by decide +kernel
theorem d_Fl_unpack_17 : decode b_Fl_unpack 17 = .ok (.iload_n 1, 1) := by decide +kernel
theorem d_Fl_unpack_18 : decode b_Fl_unpack 18 = .ok (.iconst 4, 1) := by decide +kernel
theorem d_Fl_unpack_19 : decode b_Fl_unpack 19 = .ok (.iand, 1) := by decide +kernel
theorem d_Fl_unpack_20 : decode b_Fl_unpack 20 = .ok (.ifCond .eq (7), 3) := by decide +kernel
theorem d_Fl_unpack_23 : decode b_Fl_unpack 23 = .ok (.iconst 1, 1) := by decide +kernel
theorem d_Fl_unpack_24 : decode b_Fl_unpack 24 = .ok (.goto (4), 3) := by decide +kernel
theorem d_Fl_unpack_27 : decode b_Fl_unpack 27 = .ok (.iconst 0, 1) := by decide +kernel
theorem d_Fl_unpack_28 : decode b_Fl_unpack 28 = .ok (.putfield 13, 3) := by decide +kernel
theorem d_Fl_unpack_31 : decode b_Fl_unpack 31 = .ok (.aload_n 0, 1) := by decide +kernel
theorem d_Fl_unpack_32 : decode b_Fl_unpack 32 = .ok (.iload_n 1, 1) := by decide +kernel
theorem d_Fl_unpack_33 : decode b_Fl_unpack 33 = .ok (.iconst 2, 1) := by decide +kernel
theorem d_Fl_unpack_34 : decode b_Fl_unpack 34 = .ok (.iand, 1) := by decide +kernel
theorem d_Fl_unpack_35 : decode b_Fl_unpack 35 = .ok (.ifCond .eq (7), 3) := by decide +kernel
theorem d_Fl_unpack_38 : decode b_Fl_unpack 38 = .ok (.iconst 1, 1) := by decide +kernel
theorem d_Fl_unpack_39 : decode b_Fl_unpack 39 = .ok (.goto (4), 3) := by decide +kernel
theorem d_Fl_unpack_42 : decode b_Fl_unpack 42 = .ok (.iconst 0, 1) := by decide +kernel
theorem d_Fl_unpack_43 : decode b_Fl_unpack 43 = .ok (.putfield 16, 3) := by decide +kernel
theorem d_Fl_unpack_46 : decode b_Fl_unpack 46 = .ok (.aload_n 0, 1) := by decide +kernel
theorem d_Fl_unpack_47 : decode b_Fl_unpack 47 = .ok (.iload_n 1, 1) := by decide +kernel
theorem d_Fl_unpack_48 : decode b_Fl_unpack 48 = .ok (.iconst 1, 1) := by decide +kernel
theorem d_Fl_unpack_49 : decode b_Fl_unpack 49 = .ok (.iand, 1) := by decide +kernel
theorem d_Fl_unpack_50 : decode b_Fl_unpack 50 = .ok (.ifCond .eq (7), 3) := by decide +kernel
theorem d_Fl_unpack_53 : decode b_Fl_unpack 53 = .ok (.iconst 1, 1) := by decide +kernel
theorem d_Fl_unpack_54 : decode b_Fl_unpack 54 = .ok (.goto (4), 3) := by decide +kernel
theorem d_Fl_unpack_57 : decode b_Fl_unpack 57 = .ok (.iconst 0, 1) := by decide +kernel
theorem d_Fl_unpack_58 : decode b_Fl_unpack 58 = .ok (.putfield 21, 3) := by decide +kernel
theorem d_Fl_unpack_61 : decode b_Fl_unpack 61 = .ok (.return_, 1) := by decide +kernel
theorem d_N_unstack_0 : decode b_N_unstack 0 = .ok (.iconst 0, 1) := by decide +kernel
theorem d_N_unstack_1 : decode b_N_unstack 1 = .ok (.istore_n 3, 1) := by decide +kernel
theorem d_N_unstack_2 : decode b_N_unstack 2 = .ok (.iload_n 3, 1) := by decide +kernel
theorem d_N_unstack_3 : decode b_N_unstack 3 = .ok (.getstatic 184, 3) := by decide +kernel
theorem d_N_unstack_6 : decode b_N_unstack 6 = .ok (.arraylength, 1) := by decide +kernel
theorem d_N_unstack_7 : decode b_N_unstack 7 = .ok (.if_icmp .ge (31), 3) := by decide +kernel
theorem d_N_unstack_10 : decode b_N_unstack 10 = .ok (.aload_n 0, 1) := by decide +kernel
theorem d_N_unstack_11 : decode b_N_unstack 11 = .ok (.getfield 9, 3) := by decide +kernel
theorem d_N_unstack_14 : decode b_N_unstack 14 = .ok (.getstatic 184, 3) := by decide +kernel
theorem d_N_unstack_17 : decode b_N_unstack 17 = .ok (.iload_n 3, 1) := by decide +kernel
theorem d_N_unstack_18 : decode b_N_unstack 18 = .ok (.iaload, 1) := by decide +kernel
theorem d_N_unstack_19 : decode b_N_unstack 19 = .ok (.aload_n 0, 1) := by decide +kernel
theorem d_N_unstack_20 : decode b_N_unstack 20 = .ok (.getfield 19, 3) := by decide +kernel
theorem d_N_unstack_23 : decode b_N_unstack 23 = .ok (.iload_n 1, 1) := by decide +kernel
theorem d_N_unstack_24 : decode b_N_unstack 24 = .ok (.iconst 4, 1) := by decide +kernel
theorem d_N_unstack_25 : decode b_N_unstack 25 = .ok (.iload_n 3, 1) := by decide +kernel
theorem d_N_unstack_26 : decode b_N_unstack 26 = .ok (.imul, 1) := by decide +kernel
theorem d_N_unstack_27 : decode b_N_unstack 27 = .ok (.iadd, 1) := by decide +kernel
theorem d_N_unstack_28 : decode b_N_unstack 28 = .ok (.invokevirtual 66, 3) := by decide +kernel
theorem d_N_unstack_31 : decode b_N_unstack 31 = .ok (.iastore, 1) := by decide +kernel
theorem d_N_unstack_32 : decode b_N_unstack 32 = .ok (.iinc 3 (1), 3) := by decide +kernel
theorem d_N_unstack_35 : decode b_N_unstack 35 = .ok (.goto (-33), 3) := by decide +kernel
theorem d_N_unstack_38 : decode b_N_unstack 38 = .ok (.aload_n 0, 1) := by decide +kernel
theorem d_N_unstack_39 : decode b_N_unstack 39 = .ok (.getfield 9, 3) := by decide +kernel
theorem d_N_unstack_42 : decode b_N_unstack 42 = .ok (.bipush (15), 2) := by decide +kernel
theorem d_N_unstack_44 : decode b_N_unstack 44 = .ok (.aload_n 0, 1) := by decide +kernel
theorem d_N_unstack_45 : decode b_N_unstack 45 = .ok (.getfield 9, 3) := by decide +kernel
theorem d_N_unstack_48 : decode b_N_unstack 48 = .ok (.bipush (15), 2) := by decide +kernel
theorem d_N_unstack_50 : decode b_N_unstack 50 = .ok (.iaload, 1) := by decide +kernel
theorem d_N_unstack_51 : decode b_N_unstack 51 = .ok (.invokestatic 72, 3) := by decide +kernel
theorem d_N_unstack_54 : decode b_N_unstack 54 = .ok (.iastore, 1) := by decide +kernel
theorem d_N_unstack_55 : decode b_N_unstack 55 = .ok (.aload_n 0, 1) := by decide +kernel
theorem d_N_unstack_56 : decode b_N_unstack 56 = .ok (.getfield 9, 3) := by decide +kernel
theorem d_N_unstack_59 : decode b_N_unstack 59 = .ok (.bipush (13), 2) := by decide +kernel
theorem d_N_unstack_61 : decode b_N_unstack 61 = .ok (.iload_n 1, 1) := by decide +kernel
theorem d_N_unstack_62 : decode b_N_unstack 62 = .ok (.bipush (32), 2) := by decide +kernel
theorem d_N_unstack_64 : decode b_N_unstack 64 = .ok (.iadd, 1) := by decide +kernel
theorem d_N_unstack_65 : decode b_N_unstack 65 = .ok (.iload_n 2, 1) := by decide +kernel
theorem d_N_unstack_66 : decode b_N_unstack 66 = .ok (.sipush (512), 3) := by decide +kernel
theorem d_N_unstack_69 : decode b_N_unstack 69 = .ok (.iand, 1) := by decide +kernel
theorem d_N_unstack_70 : decode b_N_unstack 70 = .ok (.ifCond .eq (7), 3) := by decide +kernel
theorem d_N_unstack_73 : decode b_N_unstack 73 = .ok (.iconst 4, 1) := by decide +kernel
theorem d_N_unstack_74 : decode b_N_unstack 74 = .ok (.goto (4), 3) := by decide +kernel
theorem d_N_unstack_77 : decode b_N_unstack 77 = .ok (.iconst 0, 1) := by decide +kernel
theorem d_N_unstack_78 : decode b_N_unstack 78 = .ok (.iadd, 1) := by decide +kernel
theorem d_N_unstack_79 : decode b_N_unstack 79 = .ok (.iastore, 1) := by decide +kernel
theorem d_N_unstack_80 : decode b_N_unstack 80 = .ok (.aload_n 0, 1) := by decide +kernel
theorem d_N_unstack_81 : decode b_N_unstack 81 = .ok (.getfield 40, 3) := by decide +kernel
theorem d_N_unstack_84 : decode b_N_unstack 84 = .ok (.iload_n 2, 1) := by decide +kernel
theorem d_N_unstack_85 : decode b_N_unstack 85 = .ok (.bipush (28), 2) := by decide +kernel
theorem d_N_unstack_87 : decode b_N_unstack 87 = .ok (.iushr, 1) := by decide +kernel
theorem d_N_unstack_88 : decode b_N_unstack 88 = .ok (.invokevirtual 208, 3) := by decide +kernel
theorem d_N_unstack_91 : decode b_N_unstack 91 = .ok (.aload_n 0, 1) := by decide +kernel
theorem d_N_unstack_92 : decode b_N_unstack 92 = .ok (.iload_n 2, 1) := by decide +kernel
theorem d_N_unstack_93 : decode b_N_unstack 93 = .ok (.bipush (15), 2) := by decide +kernel
theorem d_N_unstack_95 : decode b_N_unstack 95 = .ok (.iand, 1) := by decide +kernel
theorem d_N_unstack_96 : decode b_N_unstack 96 = .ok (.putfield 128, 3) := by decide +kernel
theorem d_N_unstack_99 : decode b_N_unstack 99 = .ok (.return_, 1) := by decide +kernel
theorem d_N_comeBack_0 : decode b_N_comeBack 0 = .ok (.aload_n 0, 1) := by decide +kernel
theorem d_N_comeBack_1 : decode b_N_comeBack 1 = .ok (.getfield 33, 3) := by decide +kernel
theorem d_N_comeBack_4 : decode b_N_comeBack 4 = .ok (.aload_n 0, 1) := by decide +kernel
theorem d_N_comeBack_5 : decode b_N_comeBack 5 = .ok (.getfield 128, 3) := by decide +kernel
theorem d_N_comeBack_8 : decode b_N_comeBack 8 = .ok (.invokevirtual 202, 3) := by decide +kernel
theorem d_N_comeBack_11 : decode b_N_comeBack 11 = .ok (.aload_n 0, 1) := by decide +kernel
theorem d_N_comeBack_12 : decode b_N_comeBack 12 = .ok (.getfield 33, 3) := by decide +kernel
theorem d_N_comeBack_15 : decode b_N_comeBack 15 = .ok (.invokevirtual 134, 3) := by decide +kernel
theorem d_N_comeBack_18 : decode b_N_comeBack 18 = .ok (.istore_n 2, 1) := by decide +kernel
theorem d_N_comeBack_19 : decode b_N_comeBack 19 = .ok (.iload_n 2, 1) := by decide +kernel
theorem d_N_comeBack_20 : decode b_N_comeBack 20 = .ok (.ifCond .eq (28), 3) := by decide +kernel
theorem d_N_comeBack_23 : decode b_N_comeBack 23 = .ok (.aload_n 0, 1) := by decide +kernel
theorem d_N_comeBack_24 : decode b_N_comeBack 24 = .ok (.getfield 9, 3) := by decide +kernel
theorem d_N_comeBack_27 : decode b_N_comeBack 27 = .ok (.bipush (14), 2) := by decide +kernel
theorem d_N_comeBack_29 : decode b_N_comeBack 29 = .ok (.iload_n 1, 1) := by decide +kernel
theorem d_N_comeBack_30 : decode b_N_comeBack 30 = .ok (.iastore, 1) := by decide +kernel
theorem d_N_comeBack_31 : decode b_N_comeBack 31 = .ok (.aload_n 0, 1) := by decide +kernel
theorem d_N_comeBack_32 : decode b_N_comeBack 32 = .ok (.dup, 1) := by decide +kernel
theorem d_N_comeBack_33 : decode b_N_comeBack 33 = .ok (.getfield 140, 3) := by decide +kernel
theorem d_N_comeBack_36 : decode b_N_comeBack 36 = .ok (.iconst 1, 1) := by decide +kernel
theorem d_N_comeBack_37 : decode b_N_comeBack 37 = .ok (.iadd, 1) := by decide +kernel
theorem d_N_comeBack_38 : decode b_N_comeBack 38 = .ok (.putfield 140, 3) := by decide +kernel
theorem d_N_comeBack_41 : decode b_N_comeBack 41 = .ok (.aload_n 0, 1) := by decide +kernel
theorem d_N_comeBack_42 : decode b_N_comeBack 42 = .ok (.iload_n 2, 1) := by decide +kernel
theorem d_N_comeBack_43 : decode b_N_comeBack 43 = .ok (.invokevirtual 187, 3) := by decide +kernel
theorem d_N_comeBack_46 : decode b_N_comeBack 46 = .ok (.iconst 0, 1) := by decide +kernel
theorem d_N_comeBack_47 : decode b_N_comeBack 47 = .ok (.ireturn, 1) := by decide +kernel
theorem d_N_comeBack_48 : decode b_N_comeBack 48 = .ok (.aload_n 0, 1) := by decide +kernel
theorem d_N_comeBack_49 : decode b_N_comeBack 49 = .ok (.getfield 9, 3) := by decide +kernel
theorem d_N_comeBack_52 : decode b_N_comeBack 52 = .ok (.bipush (13), 2) := by decide +kernel
theorem d_N_comeBack_54 : decode b_N_comeBack 54 = .ok (.iaload, 1) := by decide +kernel
theorem d_N_comeBack_55 : decode b_N_comeBack 55 = .ok (.istore_n 3, 1) := by decide +kernel
theorem d_N_comeBack_56 : decode b_N_comeBack 56 = .ok (.aload_n 0, 1) := by decide +kernel
theorem d_N_comeBack_57 : decode b_N_comeBack 57 = .ok (.getfield 19, 3) := by decide +kernel
theorem d_N_comeBack_60 : decode b_N_comeBack 60 = .ok (.iload_n 3, 1) := by decide +kernel
theorem d_N_comeBack_61 : decode b_N_comeBack 61 = .ok (.invokevirtual 181, 3) := by decide +kernel
theorem d_N_comeBack_64 : decode b_N_comeBack 64 = .ok (.ifCond .ne (6), 3) := by decide +kernel
theorem d_N_comeBack_67 : decode b_N_comeBack 67 = .ok (.bipush (6), 2) := by decide +kernel
theorem d_N_comeBack_69 : decode b_N_comeBack 69 = .ok (.ireturn, 1) := by decide +kernel
theorem d_N_comeBack_70 : decode b_N_comeBack 70 = .ok (.aload_n 0, 1) := by decide +kernel
theorem d_N_comeBack_71 : decode b_N_comeBack 71 = .ok (.getfield 19, 3) := by decide +kernel
theorem d_N_comeBack_74 : decode b_N_comeBack 74 = .ok (.iload_n 3, 1) := by decide +kernel
theorem d_N_comeBack_75 : decode b_N_comeBack 75 = .ok (.bipush (28), 2) := by decide +kernel
theorem d_N_comeBack_77 : decode b_N_comeBack 77 = .ok (.iadd, 1) := by decide +kernel
theorem d_N_comeBack_78 : decode b_N_comeBack 78 = .ok (.invokevirtual 66, 3) := by decide +kernel
theorem d_N_comeBack_81 : decode b_N_comeBack 81 = .ok (.istore 4, 2) := by decide +kernel
theorem d_N_comeBack_83 : decode b_N_comeBack 83 = .ok (.iload 4, 2) := by decide +kernel
theorem d_N_comeBack_85 : decode b_N_comeBack 85 = .ok (.bipush (15), 2) := by decide +kernel
theorem d_N_comeBack_87 : decode b_N_comeBack 87 = .ok (.iand, 1) := by decide +kernel
theorem d_N_comeBack_88 : decode b_N_comeBack 88 = .ok (.istore 5, 2) := by decide +kernel
theorem d_N_comeBack_90 : decode b_N_comeBack 90 = .ok (.iload 5, 2) := by decide +kernel
theorem d_N_comeBack_92 : decode b_N_comeBack 92 = .ok (.iconst 1, 1) := by decide +kernel
theorem d_N_comeBack_93 : decode b_N_comeBack 93 = .ok (.if_icmp .eq (27), 3) := by decide +kernel
theorem d_N_comeBack_96 : decode b_N_comeBack 96 = .ok (.iload 5, 2) := by decide +kernel
theorem d_N_comeBack_98 : decode b_N_comeBack 98 = .ok (.ifCond .ne (7), 3) := by decide +kernel
theorem d_N_comeBack_101 : decode b_N_comeBack 101 = .ok (.iconst 1, 1) := by decide +kernel
theorem d_N_comeBack_102 : decode b_N_comeBack 102 = .ok (.goto (4), 3) := by decide +kernel
theorem d_N_comeBack_105 : decode b_N_comeBack 105 = .ok (.iconst 0, 1) := by decide +kernel
theorem d_N_comeBack_106 : decode b_N_comeBack 106 = .ok (.iload_n 1, 1) := by decide +kernel
theorem d_N_comeBack_107 : decode b_N_comeBack 107 = .ok (.bipush (-7), 2) := by decide +kernel
theorem d_N_comeBack_109 : decode b_N_comeBack 109 = .ok (.if_icmp .ne (7), 3) := by decide +kernel
theorem d_N_comeBack_112 : decode b_N_comeBack 112 = .ok (.iconst 1, 1) := by decide +kernel
theorem d_N_comeBack_113 : decode b_N_comeBack 113 = .ok (.goto (4), 3) := by decide +kernel
theorem d_N_comeBack_116 : decode b_N_comeBack 116 = .ok (.iconst 0, 1) := by decide +kernel
theorem d_N_comeBack_117 : decode b_N_comeBack 117 = .ok (.if_icmp .eq (6), 3) := by decide +kernel
theorem d_N_comeBack_120 : decode b_N_comeBack 120 = .ok (.bipush (6), 2) := by decide +kernel
theorem d_N_comeBack_122 : decode b_N_comeBack 122 = .ok (.ireturn, 1) := by decide +kernel
theorem d_N_comeBack_123 : decode b_N_comeBack 123 = .ok (.aload_n 0, 1) := by decide +kernel
theorem d_N_comeBack_124 : decode b_N_comeBack 124 = .ok (.iload_n 3, 1) := by decide +kernel
theorem d_N_comeBack_125 : decode b_N_comeBack 125 = .ok (.iload 4, 2) := by decide +kernel
theorem d_N_comeBack_127 : decode b_N_comeBack 127 = .ok (.invokevirtual 205, 3) := by decide +kernel
theorem d_N_comeBack_130 : decode b_N_comeBack 130 = .ok (.iconst 0, 1) := by decide +kernel
theorem d_N_comeBack_131 : decode b_N_comeBack 131 = .ok (.ireturn, 1) := by decide +kernel
theorem d_N_land_0 : decode b_N_land 0 = .ok (.aload_n 0, 1) := by decide +kernel
theorem d_N_land_1 : decode b_N_land 1 = .ok (.getfield 9, 3) := by decide +kernel
theorem d_N_land_4 : decode b_N_land 4 = .ok (.bipush (15), 2) := by decide +kernel
theorem d_N_land_6 : decode b_N_land 6 = .ok (.iaload, 1) := by decide +kernel
theorem d_N_land_7 : decode b_N_land 7 = .ok (.istore_n 1, 1) := by decide +kernel
theorem d_N_land_8 : decode b_N_land 8 = .ok (.aload_n 0, 1) := by decide +kernel
theorem d_N_land_9 : decode b_N_land 9 = .ok (.getfield 128, 3) := by decide +kernel
theorem d_N_land_12 : decode b_N_land 12 = .ok (.ifCond .eq (21), 3) := by decide +kernel
theorem d_N_land_15 : decode b_N_land 15 = .ok (.iload_n 1, 1) := by decide +kernel
theorem d_N_land_16 : decode b_N_land 16 = .ok (.bipush (-7), 2) := by decide +kernel
theorem d_N_land_18 : decode b_N_land 18 = .ok (.if_icmp .eq (9), 3) := by decide +kernel
theorem d_N_land_21 : decode b_N_land 21 = .ok (.iload_n 1, 1) := by decide +kernel
theorem d_N_land_22 : decode b_N_land 22 = .ok (.bipush (-15), 2) := by decide +kernel
theorem d_N_land_24 : decode b_N_land 24 = .ok (.if_icmp .ne (9), 3) := by decide +kernel
theorem d_N_land_27 : decode b_N_land 27 = .ok (.aload_n 0, 1) := by decide +kernel
theorem d_N_land_28 : decode b_N_land 28 = .ok (.iload_n 1, 1) := by decide +kernel
theorem d_N_land_29 : decode b_N_land 29 = .ok (.invokevirtual 199, 3) := by decide +kernel
theorem d_N_land_32 : decode b_N_land 32 = .ok (.ireturn, 1) := by decide +kernel
theorem d_N_land_33 : decode b_N_land 33 = .ok (.aload_n 0, 1) := by decide +kernel
theorem d_N_land_34 : decode b_N_land 34 = .ok (.getfield 9, 3) := by decide +kernel
theorem d_N_land_37 : decode b_N_land 37 = .ok (.bipush (15), 2) := by decide +kernel
theorem d_N_land_39 : decode b_N_land 39 = .ok (.iload_n 1, 1) := by decide +kernel
theorem d_N_land_40 : decode b_N_land 40 = .ok (.invokestatic 72, 3) := by decide +kernel
theorem d_N_land_43 : decode b_N_land 43 = .ok (.iastore, 1) := by decide +kernel
theorem d_N_land_44 : decode b_N_land 44 = .ok (.iconst 0, 1) := by decide +kernel
theorem d_N_land_45 : decode b_N_land 45 = .ok (.ireturn, 1) := by decide +kernel
theorem d_N_raise_0 : decode b_N_raise 0 = .ok (.aload_n 0, 1) := by decide +kernel
theorem d_N_raise_1 : decode b_N_raise 1 = .ok (.dup, 1) := by decide +kernel
theorem d_N_raise_2 : decode b_N_raise 2 = .ok (.getfield 143, 3) := by decide +kernel
theorem d_N_raise_5 : decode b_N_raise 5 = .ok (.iconst 1, 1) := by decide +kernel
theorem d_N_raise_6 : decode b_N_raise 6 = .ok (.iadd, 1) := by decide +kernel
theorem d_N_raise_7 : decode b_N_raise 7 = .ok (.putfield 143, 3) := by decide +kernel
theorem d_N_raise_10 : decode b_N_raise 10 = .ok (.aload_n 0, 1) := by decide +kernel
theorem d_N_raise_11 : decode b_N_raise 11 = .ok (.getfield 33, 3) := by decide +kernel
theorem d_N_raise_14 : decode b_N_raise 14 = .ok (.invokevirtual 131, 3) := by decide +kernel
theorem d_N_raise_17 : decode b_N_raise 17 = .ok (.istore_n 2, 1) := by decide +kernel
theorem d_N_raise_18 : decode b_N_raise 18 = .ok (.aload_n 0, 1) := by decide +kernel
theorem d_N_raise_19 : decode b_N_raise 19 = .ok (.getfield 33, 3) := by decide +kernel
theorem d_N_raise_22 : decode b_N_raise 22 = .ok (.getfield 193, 3) := by decide +kernel
theorem d_N_raise_25 : decode b_N_raise 25 = .ok (.iload_n 1, 1) := by decide +kernel
theorem d_N_raise_26 : decode b_N_raise 26 = .ok (.baload, 1) := by decide +kernel
theorem d_N_raise_27 : decode b_N_raise 27 = .ok (.ifCond .eq (28), 3) := by decide +kernel
theorem d_N_raise_30 : decode b_N_raise 30 = .ok (.aload_n 0, 1) := by decide +kernel
theorem d_N_raise_31 : decode b_N_raise 31 = .ok (.getfield 33, 3) := by decide +kernel
theorem d_N_raise_34 : decode b_N_raise 34 = .ok (.iload_n 1, 1) := by decide +kernel
theorem d_N_raise_35 : decode b_N_raise 35 = .ok (.invokevirtual 196, 3) := by decide +kernel
theorem d_N_raise_38 : decode b_N_raise 38 = .ok (.iload_n 2, 1) := by decide +kernel
theorem d_N_raise_39 : decode b_N_raise 39 = .ok (.if_icmp .ge (16), 3) := by decide +kernel
theorem d_N_raise_42 : decode b_N_raise 42 = .ok (.aload_n 0, 1) := by decide +kernel
theorem d_N_raise_43 : decode b_N_raise 43 = .ok (.getfield 33, 3) := by decide +kernel
theorem d_N_raise_46 : decode b_N_raise 46 = .ok (.getfield 104, 3) := by decide +kernel
theorem d_N_raise_49 : decode b_N_raise 49 = .ok (.iload_n 1, 1) := by decide +kernel
theorem d_N_raise_50 : decode b_N_raise 50 = .ok (.iconst 1, 1) := by decide +kernel
theorem d_N_raise_51 : decode b_N_raise 51 = .ok (.bastore, 1) := by decide +kernel
theorem d_N_raise_52 : decode b_N_raise 52 = .ok (.goto (26), 3) := by decide +kernel
theorem d_N_raise_55 : decode b_N_raise 55 = .ok (.iload_n 2, 1) := by decide +kernel
theorem d_N_raise_56 : decode b_N_raise 56 = .ok (.iconst (-1), 1) := by decide +kernel
theorem d_N_raise_57 : decode b_N_raise 57 = .ok (.if_icmp .le (16), 3) := by decide +kernel
theorem d_N_raise_60 : decode b_N_raise 60 = .ok (.aload_n 0, 1) := by decide +kernel
theorem d_N_raise_61 : decode b_N_raise 61 = .ok (.getfield 33, 3) := by decide +kernel
theorem d_N_raise_64 : decode b_N_raise 64 = .ok (.getfield 104, 3) := by decide +kernel
theorem d_N_raise_67 : decode b_N_raise 67 = .ok (.iconst 3, 1) := by decide +kernel
theorem d_N_raise_68 : decode b_N_raise 68 = .ok (.iconst 1, 1) := by decide +kernel
theorem d_N_raise_69 : decode b_N_raise 69 = .ok (.bastore, 1) := by decide +kernel
theorem d_N_raise_70 : decode b_N_raise 70 = .ok (.goto (8), 3) := by decide +kernel
theorem d_N_raise_73 : decode b_N_raise 73 = .ok (.aload_n 0, 1) := by decide +kernel
theorem d_N_raise_74 : decode b_N_raise 74 = .ok (.iconst 1, 1) := by decide +kernel
theorem d_N_raise_75 : decode b_N_raise 75 = .ok (.putfield 118, 3) := by decide +kernel
theorem d_N_raise_78 : decode b_N_raise 78 = .ok (.return_, 1) := by decide +kernel
theorem d_N_step_0 : decode b_N_step 0 = .ok (.aload_n 0, 1) := by decide +kernel
theorem d_N_step_1 : decode b_N_step 1 = .ok (.getfield 47, 3) := by decide +kernel
theorem d_N_step_4 : decode b_N_step 4 = .ok (.invokevirtual 153, 3) := by decide +kernel
theorem d_N_step_7 : decode b_N_step 7 = .ok (.ifCond .eq (14), 3) := by decide +kernel
theorem d_N_step_10 : decode b_N_step 10 = .ok (.aload_n 0, 1) := by decide +kernel
theorem d_N_step_11 : decode b_N_step 11 = .ok (.getfield 33, 3) := by decide +kernel
theorem d_N_step_14 : decode b_N_step 14 = .ok (.getfield 104, 3) := by decide +kernel
theorem d_N_step_17 : decode b_N_step 17 = .ok (.bipush (9), 2) := by decide +kernel
theorem d_N_step_19 : decode b_N_step 19 = .ok (.iconst 1, 1) := by decide +kernel
theorem d_N_step_20 : decode b_N_step 20 = .ok (.bastore, 1) := by decide +kernel
theorem d_N_step_21 : decode b_N_step 21 = .ok (.aload_n 0, 1) := by decide +kernel
theorem d_N_step_22 : decode b_N_step 22 = .ok (.getfield 33, 3) := by decide +kernel
theorem d_N_step_25 : decode b_N_step 25 = .ok (.invokevirtual 134, 3) := by decide +kernel
theorem d_N_step_28 : decode b_N_step 28 = .ok (.istore_n 1, 1) := by decide +kernel
theorem d_N_step_29 : decode b_N_step 29 = .ok (.iload_n 1, 1) := by decide +kernel
theorem d_N_step_30 : decode b_N_step 30 = .ok (.ifCond .eq (9), 3) := by decide +kernel
theorem d_N_step_33 : decode b_N_step 33 = .ok (.aload_n 0, 1) := by decide +kernel
theorem d_N_step_34 : decode b_N_step 34 = .ok (.iload_n 1, 1) := by decide +kernel
theorem d_N_step_35 : decode b_N_step 35 = .ok (.invokevirtual 157, 3) := by decide +kernel
theorem d_N_step_38 : decode b_N_step 38 = .ok (.return_, 1) := by decide +kernel
theorem d_N_step_39 : decode b_N_step 39 = .ok (.aload_n 0, 1) := by decide +kernel
theorem d_N_step_40 : decode b_N_step 40 = .ok (.getfield 9, 3) := by decide +kernel
theorem d_N_step_43 : decode b_N_step 43 = .ok (.iconst 0, 1) := by decide +kernel
theorem d_N_step_44 : decode b_N_step 44 = .ok (.aload_n 0, 1) := by decide +kernel
theorem d_N_step_45 : decode b_N_step 45 = .ok (.getfield 13, 3) := by decide +kernel
theorem d_N_step_48 : decode b_N_step 48 = .ok (.iconst 0, 1) := by decide +kernel
theorem d_N_step_49 : decode b_N_step 49 = .ok (.bipush (16), 2) := by decide +kernel
theorem d_N_step_51 : decode b_N_step 51 = .ok (.invokestatic 160, 3) := by decide +kernel
theorem d_N_step_54 : decode b_N_step 54 = .ok (.aload_n 0, 1) := by decide +kernel
theorem d_N_step_55 : decode b_N_step 55 = .ok (.invokevirtual 166, 3) := by decide +kernel
theorem d_N_step_58 : decode b_N_step 58 = .ok (.istore_n 2, 1) := by decide +kernel
theorem d_N_step_59 : decode b_N_step 59 = .ok (.iload_n 2, 1) := by decide +kernel
theorem d_N_step_60 : decode b_N_step 60 = .ok (.ifCond .ne (12), 3) := by decide +kernel
theorem d_N_step_63 : decode b_N_step 63 = .ok (.aload_n 0, 1) := by decide +kernel
theorem d_N_step_64 : decode b_N_step 64 = .ok (.aload_n 0, 1) := by decide +kernel
theorem d_N_step_65 : decode b_N_step 65 = .ok (.invokevirtual 169, 3) := by decide +kernel
theorem d_N_step_68 : decode b_N_step 68 = .ok (.invokevirtual 172, 3) := by decide +kernel
theorem d_N_step_71 : decode b_N_step 71 = .ok (.istore_n 2, 1) := by decide +kernel
theorem d_N_step_72 : decode b_N_step 72 = .ok (.iload_n 2, 1) := by decide +kernel
theorem d_N_step_73 : decode b_N_step 73 = .ok (.ifCond .ne (8), 3) := by decide +kernel
theorem d_N_step_76 : decode b_N_step 76 = .ok (.aload_n 0, 1) := by decide +kernel
theorem d_N_step_77 : decode b_N_step 77 = .ok (.invokevirtual 175, 3) := by decide +kernel
theorem d_N_step_80 : decode b_N_step 80 = .ok (.istore_n 2, 1) := by decide +kernel
theorem d_N_step_81 : decode b_N_step 81 = .ok (.iload_n 2, 1) := by decide +kernel
theorem d_N_step_82 : decode b_N_step 82 = .ok (.ifCond .eq (23), 3) := by decide +kernel
theorem d_N_step_85 : decode b_N_step 85 = .ok (.aload_n 0, 1) := by decide +kernel
theorem d_N_step_86 : decode b_N_step 86 = .ok (.getfield 13, 3) := by decide +kernel
theorem d_N_step_89 : decode b_N_step 89 = .ok (.iconst 0, 1) := by decide +kernel
theorem d_N_step_90 : decode b_N_step 90 = .ok (.aload_n 0, 1) := by decide +kernel
theorem d_N_step_91 : decode b_N_step 91 = .ok (.getfield 9, 3) := by decide +kernel
theorem d_N_step_94 : decode b_N_step 94 = .ok (.iconst 0, 1) := by decide +kernel
theorem d_N_step_95 : decode b_N_step 95 = .ok (.bipush (16), 2) := by decide +kernel
theorem d_N_step_97 : decode b_N_step 97 = .ok (.invokestatic 160, 3) := by decide +kernel
theorem d_N_step_100 : decode b_N_step 100 = .ok (.aload_n 0, 1) := by decide +kernel
theorem d_N_step_101 : decode b_N_step 101 = .ok (.iload_n 2, 1) := by decide +kernel
theorem d_N_step_102 : decode b_N_step 102 = .ok (.invokevirtual 178, 3) := by decide +kernel
theorem d_N_step_105 : decode b_N_step 105 = .ok (.return_, 1) := by decide +kernel
theorem d_N_run_0 : decode b_N_run 0 = .ok (.iload_n 1, 1) := by decide +kernel
theorem d_N_run_1 : decode b_N_run 1 = .ok (.iconst 1, 1) := by decide +kernel
theorem d_N_run_2 : decode b_N_run 2 = .ok (.if_icmp .lt (9), 3) := by decide +kernel
theorem d_N_run_5 : decode b_N_run 5 = .ok (.iload_n 1, 1) := by decide +kernel
theorem d_N_run_6 : decode b_N_run 6 = .ok (.bipush (25), 2) := by decide +kernel
theorem d_N_run_8 : decode b_N_run 8 = .ok (.if_icmp .le (13), 3) := by decide +kernel
theorem d_N_run_11 : decode b_N_run 11 = .ok (.new 55, 3) := by decide +kernel
theorem d_N_run_14 : decode b_N_run 14 = .ok (.dup, 1) := by decide +kernel
theorem d_N_run_15 : decode b_N_run 15 = .ok (.ldc 116, 2) := by decide +kernel
theorem d_N_run_17 : decode b_N_run 17 = .ok (.invokespecial 59, 3) := by decide +kernel
theorem d_N_run_20 : decode b_N_run 20 = .ok (.athrow, 1) := by decide +kernel
theorem d_N_run_21 : decode b_N_run 21 = .ok (.iconst 0, 1) := by decide +kernel
theorem d_N_run_22 : decode b_N_run 22 = .ok (.istore_n 2, 1) := by decide +kernel
theorem d_N_run_23 : decode b_N_run 23 = .ok (.iload_n 2, 1) := by decide +kernel
theorem d_N_run_24 : decode b_N_run 24 = .ok (.iload_n 1, 1) := by decide +kernel
theorem d_N_run_25 : decode b_N_run 25 = .ok (.if_icmp .ge (20), 3) := by decide +kernel
theorem d_N_run_28 : decode b_N_run 28 = .ok (.aload_n 0, 1) := by decide +kernel
theorem d_N_run_29 : decode b_N_run 29 = .ok (.getfield 118, 3) := by decide +kernel
theorem d_N_run_32 : decode b_N_run 32 = .ok (.ifCond .ne (13), 3) := by decide +kernel
theorem d_N_run_35 : decode b_N_run 35 = .ok (.aload_n 0, 1) := by decide +kernel
theorem d_N_run_36 : decode b_N_run 36 = .ok (.invokevirtual 121, 3) := by decide +kernel
theorem d_N_run_39 : decode b_N_run 39 = .ok (.iinc 2 (1), 3) := by decide +kernel
theorem d_N_run_42 : decode b_N_run 42 = .ok (.goto (-19), 3) := by decide +kernel
theorem d_N_run_45 : decode b_N_run 45 = .ok (.iload_n 2, 1) := by decide +kernel
theorem d_N_run_46 : decode b_N_run 46 = .ok (.ireturn, 1) := by decide +kernel
theorem d_Ex_packed_0 : decode b_Ex_packed 0 = .ok (.aload_n 0, 1) := by decide +kernel
theorem d_Ex_packed_1 : decode b_Ex_packed 1 = .ok (.getfield 15, 3) := by decide +kernel
theorem d_Ex_packed_4 : decode b_Ex_packed 4 = .ok (.iload_n 1, 1) := by decide +kernel
theorem d_Ex_packed_5 : decode b_Ex_packed 5 = .ok (.baload, 1) := by decide +kernel
theorem d_Ex_packed_6 : decode b_Ex_packed 6 = .ok (.ifCond .eq (7), 3) := by decide +kernel
theorem d_Ex_packed_9 : decode b_Ex_packed 9 = .ok (.iconst 1, 1) := by decide +kernel
theorem d_Ex_packed_10 : decode b_Ex_packed 10 = .ok (.goto (4), 3) := by decide +kernel
theorem d_Ex_packed_13 : decode b_Ex_packed 13 = .ok (.iconst 0, 1) := by decide +kernel
theorem d_Ex_packed_14 : decode b_Ex_packed 14 = .ok (.aload_n 0, 1) := by decide +kernel
theorem d_Ex_packed_15 : decode b_Ex_packed 15 = .ok (.getfield 18, 3) := by decide +kernel
theorem d_Ex_packed_18 : decode b_Ex_packed 18 = .ok (.iload_n 1, 1) := by decide +kernel
theorem d_Ex_packed_19 : decode b_Ex_packed 19 = .ok (.baload, 1) := by decide +kernel
theorem d_Ex_packed_20 : decode b_Ex_packed 20 = .ok (.ifCond .eq (7), 3) := by decide +kernel
theorem d_Ex_packed_23 : decode b_Ex_packed 23 = .ok (.iconst 2, 1) := by decide +kernel
theorem d_Ex_packed_24 : decode b_Ex_packed 24 = .ok (.goto (4), 3) := by decide +kernel
theorem d_Ex_packed_27 : decode b_Ex_packed 27 = .ok (.iconst 0, 1) := by decide +kernel
theorem d_Ex_packed_28 : decode b_Ex_packed 28 = .ok (.iadd, 1) := by decide +kernel
theorem d_Ex_packed_29 : decode b_Ex_packed 29 = .ok (.aload_n 0, 1) := by decide +kernel
theorem d_Ex_packed_30 : decode b_Ex_packed 30 = .ok (.getfield 9, 3) := by decide +kernel
theorem d_Ex_packed_33 : decode b_Ex_packed 33 = .ok (.iload_n 1, 1) := by decide +kernel
theorem d_Ex_packed_34 : decode b_Ex_packed 34 = .ok (.baload, 1) := by decide +kernel
theorem d_Ex_packed_35 : decode b_Ex_packed 35 = .ok (.ifCond .eq (7), 3) := by decide +kernel
theorem d_Ex_packed_38 : decode b_Ex_packed 38 = .ok (.iconst 4, 1) := by decide +kernel
theorem d_Ex_packed_39 : decode b_Ex_packed 39 = .ok (.goto (4), 3) := by decide +kernel
theorem d_Ex_packed_42 : decode b_Ex_packed 42 = .ok (.iconst 0, 1) := by decide +kernel
theorem d_Ex_packed_43 : decode b_Ex_packed 43 = .ok (.iadd, 1) := by decide +kernel
theorem d_Ex_packed_44 : decode b_Ex_packed 44 = .ok (.ireturn, 1) := by decide +kernel
theorem d_N_state_0 : decode b_N_state 0 = .ok (.iload_n 1, 1) := by decide +kernel
theorem d_N_state_1 : decode b_N_state 1 = .ok (.tableswitch (108) (0) (8) #[51, 59, 64, 72, 80, 85, 90, 95, 100], 51) := by decide +kernel
theorem d_N_state_52 : decode b_N_state 52 = .ok (.aload_n 0, 1) := by decide +kernel
theorem d_N_state_53 : decode b_N_state 53 = .ok (.getfield 40, 3) := by decide +kernel
theorem d_N_state_56 : decode b_N_state 56 = .ok (.invokevirtual 124, 3) := by decide +kernel
theorem d_N_state_59 : decode b_N_state 59 = .ok (.ireturn, 1) := by decide +kernel
theorem d_N_state_60 : decode b_N_state 60 = .ok (.aload_n 0, 1) := by decide +kernel
theorem d_N_state_61 : decode b_N_state 61 = .ok (.getfield 128, 3) := by decide +kernel
theorem d_N_state_64 : decode b_N_state 64 = .ok (.ireturn, 1) := by decide +kernel
theorem d_N_state_65 : decode b_N_state 65 = .ok (.aload_n 0, 1) := by decide +kernel
theorem d_N_state_66 : decode b_N_state 66 = .ok (.getfield 33, 3) := by decide +kernel
theorem d_N_state_69 : decode b_N_state 69 = .ok (.invokevirtual 131, 3) := by decide +kernel
theorem d_N_state_72 : decode b_N_state 72 = .ok (.ireturn, 1) := by decide +kernel
theorem d_N_state_73 : decode b_N_state 73 = .ok (.aload_n 0, 1) := by decide +kernel
theorem d_N_state_74 : decode b_N_state 74 = .ok (.getfield 33, 3) := by decide +kernel
theorem d_N_state_77 : decode b_N_state 77 = .ok (.invokevirtual 134, 3) := by decide +kernel
theorem d_N_state_80 : decode b_N_state 80 = .ok (.ireturn, 1) := by decide +kernel
theorem d_N_state_81 : decode b_N_state 81 = .ok (.aload_n 0, 1) := by decide +kernel
theorem d_N_state_82 : decode b_N_state 82 = .ok (.getfield 137, 3) := by decide +kernel
theorem d_N_state_85 : decode b_N_state 85 = .ok (.ireturn, 1) := by decide +kernel
theorem d_N_state_86 : decode b_N_state 86 = .ok (.aload_n 0, 1) := by decide +kernel
theorem d_N_state_87 : decode b_N_state 87 = .ok (.getfield 140, 3) := by decide +kernel
theorem d_N_state_90 : decode b_N_state 90 = .ok (.ireturn, 1) := by decide +kernel
theorem d_N_state_91 : decode b_N_state 91 = .ok (.aload_n 0, 1) := by decide +kernel
theorem d_N_state_92 : decode b_N_state 92 = .ok (.getfield 118, 3) := by decide +kernel
theorem d_N_state_95 : decode b_N_state 95 = .ok (.ireturn, 1) := by decide +kernel
theorem d_N_state_96 : decode b_N_state 96 = .ok (.aload_n 0, 1) := by decide +kernel
theorem d_N_state_97 : decode b_N_state 97 = .ok (.getfield 143, 3) := by decide +kernel
theorem d_N_state_100 : decode b_N_state 100 = .ok (.ireturn, 1) := by decide +kernel
theorem d_N_state_101 : decode b_N_state 101 = .ok (.aload_n 0, 1) := by decide +kernel
theorem d_N_state_102 : decode b_N_state 102 = .ok (.getfield 47, 3) := by decide +kernel
theorem d_N_state_105 : decode b_N_state 105 = .ok (.getfield 146, 3) := by decide +kernel
theorem d_N_state_108 : decode b_N_state 108 = .ok (.ireturn, 1) := by decide +kernel
theorem d_N_state_109 : decode b_N_state 109 = .ok (.iload_n 1, 1) := by decide +kernel
theorem d_N_state_110 : decode b_N_state 110 = .ok (.bipush (18), 2) := by decide +kernel
theorem d_N_state_112 : decode b_N_state 112 = .ok (.if_icmp .lt (9), 3) := by decide +kernel
theorem d_N_state_115 : decode b_N_state 115 = .ok (.iload_n 1, 1) := by decide +kernel
theorem d_N_state_116 : decode b_N_state 116 = .ok (.bipush (31), 2) := by decide +kernel
theorem d_N_state_118 : decode b_N_state 118 = .ok (.if_icmp .le (13), 3) := by decide +kernel
theorem d_N_state_121 : decode b_N_state 121 = .ok (.new 55, 3) := by decide +kernel
theorem d_N_state_124 : decode b_N_state 124 = .ok (.dup, 1) := by decide +kernel
theorem d_N_state_125 : decode b_N_state 125 = .ok (.ldc 149, 2) := by decide +kernel
theorem d_N_state_127 : decode b_N_state 127 = .ok (.invokespecial 59, 3) := by decide +kernel
theorem d_N_state_130 : decode b_N_state 130 = .ok (.athrow, 1) := by decide +kernel
theorem d_N_state_131 : decode b_N_state 131 = .ok (.aload_n 0, 1) := by decide +kernel
theorem d_N_state_132 : decode b_N_state 132 = .ok (.getfield 33, 3) := by decide +kernel
theorem d_N_state_135 : decode b_N_state 135 = .ok (.iload_n 1, 1) := by decide +kernel
theorem d_N_state_136 : decode b_N_state 136 = .ok (.bipush (16), 2) := by decide +kernel
theorem d_N_state_138 : decode b_N_state 138 = .ok (.isub, 1) := by decide +kernel
theorem d_N_state_139 : decode b_N_state 139 = .ok (.invokevirtual 151, 3) := by decide +kernel
theorem d_N_state_142 : decode b_N_state 142 = .ok (.ireturn, 1) := by decide +kernel
theorem d_Mo_thrown_0 : decode b_Mo_thrown 0 = .ok (.aload_n 0, 1) := by decide +kernel
theorem d_Mo_thrown_1 : decode b_Mo_thrown 1 = .ok (.getfield 41, 3) := by decide +kernel
theorem d_Mo_thrown_4 : decode b_Mo_thrown 4 = .ok (.ireturn, 1) := by decide +kernel
theorem d_Mo_fails_0 : decode b_Mo_fails 0 = .ok (.aload_n 0, 1) := by decide +kernel
theorem d_Mo_fails_1 : decode b_Mo_fails 1 = .ok (.iload_n 1, 1) := by decide +kernel
theorem d_Mo_fails_2 : decode b_Mo_fails 2 = .ok (.ifCond .eq (7), 3) := by decide +kernel
theorem d_Mo_fails_5 : decode b_Mo_fails 5 = .ok (.iconst 1, 1) := by decide +kernel
theorem d_Mo_fails_6 : decode b_Mo_fails 6 = .ok (.goto (4), 3) := by decide +kernel
theorem d_Mo_fails_9 : decode b_Mo_fails 9 = .ok (.iconst 0, 1) := by decide +kernel
theorem d_Mo_fails_10 : decode b_Mo_fails 10 = .ok (.putfield 41, 3) := by decide +kernel
theorem d_Mo_fails_13 : decode b_Mo_fails 13 = .ok (.iload_n 1, 1) := by decide +kernel
theorem d_Mo_fails_14 : decode b_Mo_fails 14 = .ok (.ireturn, 1) := by decide +kernel
theorem d_Mo_isWord_0 : decode b_Mo_isWord 0 = .ok (.iload_n 0, 1) := by decide +kernel
theorem d_Mo_isWord_1 : decode b_Mo_isWord 1 = .ok (.ifCond .lt (20), 3) := by decide +kernel
theorem d_Mo_isWord_4 : decode b_Mo_isWord 4 = .ok (.iload_n 0, 1) := by decide +kernel
theorem d_Mo_isWord_5 : decode b_Mo_isWord 5 = .ok (.sipush (1020), 3) := by decide +kernel
theorem d_Mo_isWord_8 : decode b_Mo_isWord 8 = .ok (.if_icmp .gt (13), 3) := by decide +kernel
theorem d_Mo_isWord_11 : decode b_Mo_isWord 11 = .ok (.iload_n 0, 1) := by decide +kernel
theorem d_Mo_isWord_12 : decode b_Mo_isWord 12 = .ok (.iconst 3, 1) := by decide +kernel
theorem d_Mo_isWord_13 : decode b_Mo_isWord 13 = .ok (.iand, 1) := by decide +kernel
theorem d_Mo_isWord_14 : decode b_Mo_isWord 14 = .ok (.ifCond .ne (7), 3) := by decide +kernel
theorem d_Mo_isWord_17 : decode b_Mo_isWord 17 = .ok (.iconst 1, 1) := by decide +kernel
theorem d_Mo_isWord_18 : decode b_Mo_isWord 18 = .ok (.goto (4), 3) := by decide +kernel
theorem d_Mo_isWord_21 : decode b_Mo_isWord 21 = .ok (.iconst 0, 1) := by decide +kernel
theorem d_Mo_isWord_22 : decode b_Mo_isWord 22 = .ok (.ireturn, 1) := by decide +kernel
theorem d_Mo_load_0 : decode b_Mo_load 0 = .ok (.aload_n 0, 1) := by decide +kernel
theorem d_Mo_load_1 : decode b_Mo_load 1 = .ok (.getfield 7, 3) := by decide +kernel
theorem d_Mo_load_4 : decode b_Mo_load 4 = .ok (.iload_n 1, 1) := by decide +kernel
theorem d_Mo_load_5 : decode b_Mo_load 5 = .ok (.iaload, 1) := by decide +kernel
theorem d_Mo_load_6 : decode b_Mo_load 6 = .ok (.aload_n 0, 1) := by decide +kernel
theorem d_Mo_load_7 : decode b_Mo_load 7 = .ok (.getfield 7, 3) := by decide +kernel
theorem d_Mo_load_10 : decode b_Mo_load 10 = .ok (.iload_n 1, 1) := by decide +kernel
theorem d_Mo_load_11 : decode b_Mo_load 11 = .ok (.iconst 1, 1) := by decide +kernel
theorem d_Mo_load_12 : decode b_Mo_load 12 = .ok (.iadd, 1) := by decide +kernel
theorem d_Mo_load_13 : decode b_Mo_load 13 = .ok (.iaload, 1) := by decide +kernel
theorem d_Mo_load_14 : decode b_Mo_load 14 = .ok (.bipush (8), 2) := by decide +kernel
theorem d_Mo_load_16 : decode b_Mo_load 16 = .ok (.ishl, 1) := by decide +kernel
theorem d_Mo_load_17 : decode b_Mo_load 17 = .ok (.ior, 1) := by decide +kernel
theorem d_Mo_load_18 : decode b_Mo_load 18 = .ok (.aload_n 0, 1) := by decide +kernel
theorem d_Mo_load_19 : decode b_Mo_load 19 = .ok (.getfield 7, 3) := by decide +kernel
theorem d_Mo_load_22 : decode b_Mo_load 22 = .ok (.iload_n 1, 1) := by decide +kernel
theorem d_Mo_load_23 : decode b_Mo_load 23 = .ok (.iconst 2, 1) := by decide +kernel
theorem d_Mo_load_24 : decode b_Mo_load 24 = .ok (.iadd, 1) := by decide +kernel
theorem d_Mo_load_25 : decode b_Mo_load 25 = .ok (.iaload, 1) := by decide +kernel
theorem d_Mo_load_26 : decode b_Mo_load 26 = .ok (.bipush (16), 2) := by decide +kernel
theorem d_Mo_load_28 : decode b_Mo_load 28 = .ok (.ishl, 1) := by decide +kernel
theorem d_Mo_load_29 : decode b_Mo_load 29 = .ok (.ior, 1) := by decide +kernel
theorem d_Mo_load_30 : decode b_Mo_load 30 = .ok (.aload_n 0, 1) := by decide +kernel
theorem d_Mo_load_31 : decode b_Mo_load 31 = .ok (.getfield 7, 3) := by decide +kernel
theorem d_Mo_load_34 : decode b_Mo_load 34 = .ok (.iload_n 1, 1) := by decide +kernel
theorem d_Mo_load_35 : decode b_Mo_load 35 = .ok (.iconst 3, 1) := by decide +kernel
theorem d_Mo_load_36 : decode b_Mo_load 36 = .ok (.iadd, 1) := by decide +kernel
theorem d_Mo_load_37 : decode b_Mo_load 37 = .ok (.iaload, 1) := by decide +kernel
theorem d_Mo_load_38 : decode b_Mo_load 38 = .ok (.bipush (24), 2) := by decide +kernel
theorem d_Mo_load_40 : decode b_Mo_load 40 = .ok (.ishl, 1) := by decide +kernel
theorem d_Mo_load_41 : decode b_Mo_load 41 = .ok (.ior, 1) := by decide +kernel
theorem d_Mo_load_42 : decode b_Mo_load 42 = .ok (.ireturn, 1) := by decide +kernel
theorem d_Mo_store_0 : decode b_Mo_store 0 = .ok (.iconst 0, 1) := by decide +kernel
theorem d_Mo_store_1 : decode b_Mo_store 1 = .ok (.istore_n 3, 1) := by decide +kernel
theorem d_Mo_store_2 : decode b_Mo_store 2 = .ok (.iload_n 3, 1) := by decide +kernel
theorem d_Mo_store_3 : decode b_Mo_store 3 = .ok (.iconst 4, 1) := by decide +kernel
theorem d_Mo_store_4 : decode b_Mo_store 4 = .ok (.if_icmp .ge (27), 3) := by decide +kernel
theorem d_Mo_store_7 : decode b_Mo_store 7 = .ok (.aload_n 0, 1) := by decide +kernel
theorem d_Mo_store_8 : decode b_Mo_store 8 = .ok (.getfield 7, 3) := by decide +kernel
theorem d_Mo_store_11 : decode b_Mo_store 11 = .ok (.iload_n 1, 1) := by decide +kernel
theorem d_Mo_store_12 : decode b_Mo_store 12 = .ok (.iload_n 3, 1) := by decide +kernel
theorem d_Mo_store_13 : decode b_Mo_store 13 = .ok (.iadd, 1) := by decide +kernel
theorem d_Mo_store_14 : decode b_Mo_store 14 = .ok (.iload_n 2, 1) := by decide +kernel
theorem d_Mo_store_15 : decode b_Mo_store 15 = .ok (.bipush (8), 2) := by decide +kernel
theorem d_Mo_store_17 : decode b_Mo_store 17 = .ok (.iload_n 3, 1) := by decide +kernel
theorem d_Mo_store_18 : decode b_Mo_store 18 = .ok (.imul, 1) := by decide +kernel
theorem d_Mo_store_19 : decode b_Mo_store 19 = .ok (.ishr, 1) := by decide +kernel
theorem d_Mo_store_20 : decode b_Mo_store 20 = .ok (.sipush (255), 3) := by decide +kernel
theorem d_Mo_store_23 : decode b_Mo_store 23 = .ok (.iand, 1) := by decide +kernel
theorem d_Mo_store_24 : decode b_Mo_store 24 = .ok (.iastore, 1) := by decide +kernel
theorem d_Mo_store_25 : decode b_Mo_store 25 = .ok (.iinc 3 (1), 3) := by decide +kernel
theorem d_Mo_store_28 : decode b_Mo_store 28 = .ok (.goto (-26), 3) := by decide +kernel
theorem d_Mo_store_31 : decode b_Mo_store 31 = .ok (.return_, 1) := by decide +kernel
theorem d_Mo_barred_0 : decode b_Mo_barred 0 = .ok (.iconst 0, 1) := by decide +kernel
theorem d_Mo_barred_1 : decode b_Mo_barred 1 = .ok (.istore_n 3, 1) := by decide +kernel
theorem d_Mo_barred_2 : decode b_Mo_barred 2 = .ok (.iconst 0, 1) := by decide +kernel
theorem d_Mo_barred_3 : decode b_Mo_barred 3 = .ok (.istore 4, 2) := by decide +kernel
theorem d_Mo_barred_5 : decode b_Mo_barred 5 = .ok (.iload 4, 2) := by decide +kernel
theorem d_Mo_barred_7 : decode b_Mo_barred 7 = .ok (.iconst 4, 1) := by decide +kernel
theorem d_Mo_barred_8 : decode b_Mo_barred 8 = .ok (.if_icmp .ge (82), 3) := by decide +kernel
theorem d_Mo_barred_11 : decode b_Mo_barred 11 = .ok (.iload_n 1, 1) := by decide +kernel
theorem d_Mo_barred_12 : decode b_Mo_barred 12 = .ok (.aload_n 0, 1) := by decide +kernel
theorem d_Mo_barred_13 : decode b_Mo_barred 13 = .ok (.getfield 29, 3) := by decide +kernel
theorem d_Mo_barred_16 : decode b_Mo_barred 16 = .ok (.iload 4, 2) := by decide +kernel
theorem d_Mo_barred_18 : decode b_Mo_barred 18 = .ok (.iaload, 1) := by decide +kernel
theorem d_Mo_barred_19 : decode b_Mo_barred 19 = .ok (.if_icmp .lt (65), 3) := by decide +kernel
theorem d_Mo_barred_22 : decode b_Mo_barred 22 = .ok (.iload_n 1, 1) := by decide +kernel
theorem d_Mo_barred_23 : decode b_Mo_barred 23 = .ok (.aload_n 0, 1) := by decide +kernel
theorem d_Mo_barred_24 : decode b_Mo_barred 24 = .ok (.getfield 32, 3) := by decide +kernel
theorem d_Mo_barred_27 : decode b_Mo_barred 27 = .ok (.iload 4, 2) := by decide +kernel
theorem d_Mo_barred_29 : decode b_Mo_barred 29 = .ok (.iaload, 1) := by decide +kernel
theorem d_Mo_barred_30 : decode b_Mo_barred 30 = .ok (.if_icmp .ge (54), 3) := by decide +kernel
theorem d_Mo_barred_33 : decode b_Mo_barred 33 = .ok (.iload_n 2, 1) := by decide +kernel
theorem d_Mo_barred_34 : decode b_Mo_barred 34 = .ok (.iconst 3, 1) := by decide +kernel
theorem d_Mo_barred_35 : decode b_Mo_barred 35 = .ok (.if_icmp .ne (32), 3) := by decide +kernel
theorem d_Mo_barred_38 : decode b_Mo_barred 38 = .ok (.aload_n 0, 1) := by decide +kernel
theorem d_Mo_barred_39 : decode b_Mo_barred 39 = .ok (.getfield 35, 3) := by decide +kernel
theorem d_Mo_barred_42 : decode b_Mo_barred 42 = .ok (.iload 4, 2) := by decide +kernel
theorem d_Mo_barred_44 : decode b_Mo_barred 44 = .ok (.iaload, 1) := by decide +kernel
theorem d_Mo_barred_45 : decode b_Mo_barred 45 = .ok (.iconst 1, 1) := by decide +kernel
theorem d_Mo_barred_46 : decode b_Mo_barred 46 = .ok (.if_icmp .lt (13), 3) := by decide +kernel
theorem d_Mo_barred_49 : decode b_Mo_barred 49 = .ok (.aload_n 0, 1) := by decide +kernel
theorem d_Mo_barred_50 : decode b_Mo_barred 50 = .ok (.getfield 38, 3) := by decide +kernel
theorem d_Mo_barred_53 : decode b_Mo_barred 53 = .ok (.iload 4, 2) := by decide +kernel
theorem d_Mo_barred_55 : decode b_Mo_barred 55 = .ok (.baload, 1) := by decide +kernel
theorem d_Mo_barred_56 : decode b_Mo_barred 56 = .ok (.ifCond .eq (7), 3) := by decide +kernel
theorem d_Mo_barred_59 : decode b_Mo_barred 59 = .ok (.iconst 1, 1) := by decide +kernel
theorem d_Mo_barred_60 : decode b_Mo_barred 60 = .ok (.goto (23), 3) := by decide +kernel
theorem d_Mo_barred_63 : decode b_Mo_barred 63 = .ok (.iconst 0, 1) := by decide +kernel
theorem d_Mo_barred_64 : decode b_Mo_barred 64 = .ok (.goto (19), 3) := by decide +kernel
theorem d_Mo_barred_67 : decode b_Mo_barred 67 = .ok (.aload_n 0, 1) := by decide +kernel
theorem d_Mo_barred_68 : decode b_Mo_barred 68 = .ok (.getfield 35, 3) := by decide +kernel
theorem d_Mo_barred_71 : decode b_Mo_barred 71 = .ok (.iload 4, 2) := by decide +kernel
theorem d_Mo_barred_73 : decode b_Mo_barred 73 = .ok (.iaload, 1) := by decide +kernel
theorem d_Mo_barred_74 : decode b_Mo_barred 74 = .ok (.iload_n 2, 1) := by decide +kernel
theorem d_Mo_barred_75 : decode b_Mo_barred 75 = .ok (.if_icmp .ge (7), 3) := by decide +kernel
theorem d_Mo_barred_78 : decode b_Mo_barred 78 = .ok (.iconst 1, 1) := by decide +kernel
theorem d_Mo_barred_79 : decode b_Mo_barred 79 = .ok (.goto (4), 3) := by decide +kernel
theorem d_Mo_barred_82 : decode b_Mo_barred 82 = .ok (.iconst 0, 1) := by decide +kernel
theorem d_Mo_barred_83 : decode b_Mo_barred 83 = .ok (.istore_n 3, 1) := by decide +kernel
theorem d_Mo_barred_84 : decode b_Mo_barred 84 = .ok (.iinc 4 (1), 3) := by decide +kernel
theorem d_Mo_barred_87 : decode b_Mo_barred 87 = .ok (.goto (-82), 3) := by decide +kernel
theorem d_Mo_barred_90 : decode b_Mo_barred 90 = .ok (.iload_n 3, 1) := by decide +kernel
theorem d_Mo_barred_91 : decode b_Mo_barred 91 = .ok (.ireturn, 1) := by decide +kernel
theorem d_Mo_faultOf_0 : decode b_Mo_faultOf 0 = .ok (.iconst 0, 1) := by decide +kernel
theorem d_Mo_faultOf_1 : decode b_Mo_faultOf 1 = .ok (.istore 4, 2) := by decide +kernel
theorem d_Mo_faultOf_3 : decode b_Mo_faultOf 3 = .ok (.iload 4, 2) := by decide +kernel
theorem d_Mo_faultOf_5 : decode b_Mo_faultOf 5 = .ok (.iload_n 2, 1) := by decide +kernel
theorem d_Mo_faultOf_6 : decode b_Mo_faultOf 6 = .ok (.if_icmp .ge (23), 3) := by decide +kernel
theorem d_Mo_faultOf_9 : decode b_Mo_faultOf 9 = .ok (.iload_n 1, 1) := by decide +kernel
theorem d_Mo_faultOf_10 : decode b_Mo_faultOf 10 = .ok (.iconst 4, 1) := by decide +kernel
theorem d_Mo_faultOf_11 : decode b_Mo_faultOf 11 = .ok (.iload 4, 2) := by decide +kernel
theorem d_Mo_faultOf_13 : decode b_Mo_faultOf 13 = .ok (.imul, 1) := by decide +kernel
theorem d_Mo_faultOf_14 : decode b_Mo_faultOf 14 = .ok (.iadd, 1) := by decide +kernel
theorem d_Mo_faultOf_15 : decode b_Mo_faultOf 15 = .ok (.invokestatic 45, 3) := by decide +kernel
theorem d_Mo_faultOf_18 : decode b_Mo_faultOf 18 = .ok (.ifCond .ne (5), 3) := by decide +kernel
theorem d_Mo_faultOf_21 : decode b_Mo_faultOf 21 = .ok (.iconst 5, 1) := by decide +kernel
theorem d_Mo_faultOf_22 : decode b_Mo_faultOf 22 = .ok (.ireturn, 1) := by decide +kernel
theorem d_Mo_faultOf_23 : decode b_Mo_faultOf 23 = .ok (.iinc 4 (1), 3) := by decide +kernel
theorem d_Mo_faultOf_26 : decode b_Mo_faultOf 26 = .ok (.goto (-23), 3) := by decide +kernel
theorem d_Mo_faultOf_29 : decode b_Mo_faultOf 29 = .ok (.iconst 0, 1) := by decide +kernel
theorem d_Mo_faultOf_30 : decode b_Mo_faultOf 30 = .ok (.istore 4, 2) := by decide +kernel
theorem d_Mo_faultOf_32 : decode b_Mo_faultOf 32 = .ok (.iload 4, 2) := by decide +kernel
theorem d_Mo_faultOf_34 : decode b_Mo_faultOf 34 = .ok (.iload_n 2, 1) := by decide +kernel
theorem d_Mo_faultOf_35 : decode b_Mo_faultOf 35 = .ok (.if_icmp .ge (25), 3) := by decide +kernel
theorem d_Mo_faultOf_38 : decode b_Mo_faultOf 38 = .ok (.aload_n 0, 1) := by decide +kernel
theorem d_Mo_faultOf_39 : decode b_Mo_faultOf 39 = .ok (.iload_n 1, 1) := by decide +kernel
theorem d_Mo_faultOf_40 : decode b_Mo_faultOf 40 = .ok (.iconst 4, 1) := by decide +kernel
theorem d_Mo_faultOf_41 : decode b_Mo_faultOf 41 = .ok (.iload 4, 2) := by decide +kernel
theorem d_Mo_faultOf_43 : decode b_Mo_faultOf 43 = .ok (.imul, 1) := by decide +kernel
theorem d_Mo_faultOf_44 : decode b_Mo_faultOf 44 = .ok (.iadd, 1) := by decide +kernel
theorem d_Mo_faultOf_45 : decode b_Mo_faultOf 45 = .ok (.iload_n 3, 1) := by decide +kernel
theorem d_Mo_faultOf_46 : decode b_Mo_faultOf 46 = .ok (.invokevirtual 49, 3) := by decide +kernel
theorem d_Mo_faultOf_49 : decode b_Mo_faultOf 49 = .ok (.ifCond .eq (5), 3) := by decide +kernel
theorem d_Mo_faultOf_52 : decode b_Mo_faultOf 52 = .ok (.iconst 4, 1) := by decide +kernel
theorem d_Mo_faultOf_53 : decode b_Mo_faultOf 53 = .ok (.ireturn, 1) := by decide +kernel
theorem d_Mo_faultOf_54 : decode b_Mo_faultOf 54 = .ok (.iinc 4 (1), 3) := by decide +kernel
theorem d_Mo_faultOf_57 : decode b_Mo_faultOf 57 = .ok (.goto (-25), 3) := by decide +kernel
theorem d_Mo_faultOf_60 : decode b_Mo_faultOf 60 = .ok (.iconst 0, 1) := by decide +kernel
theorem d_Mo_faultOf_61 : decode b_Mo_faultOf 61 = .ok (.ireturn, 1) := by decide +kernel
theorem d_Mo_group_0 : decode b_Mo_group 0 = .ok (.iload_n 1, 1) := by decide +kernel
theorem d_Mo_group_1 : decode b_Mo_group 1 = .ok (.ifCond .ge (7), 3) := by decide +kernel
theorem d_Mo_group_4 : decode b_Mo_group 4 = .ok (.iload_n 1, 1) := by decide +kernel
theorem d_Mo_group_5 : decode b_Mo_group 5 = .ok (.goto (9), 3) := by decide +kernel
theorem d_Mo_group_8 : decode b_Mo_group 8 = .ok (.iload_n 1, 1) := by decide +kernel
theorem d_Mo_group_9 : decode b_Mo_group 9 = .ok (.aload_n 0, 1) := by decide +kernel
theorem d_Mo_group_10 : decode b_Mo_group 10 = .ok (.getfield 53, 3) := by decide +kernel
theorem d_Mo_group_13 : decode b_Mo_group 13 = .ok (.ishr, 1) := by decide +kernel
theorem d_Mo_group_14 : decode b_Mo_group 14 = .ok (.ireturn, 1) := by decide +kernel
theorem d_Mo_level_0 : decode b_Mo_level 0 = .ok (.bipush (8), 2) := by decide +kernel
theorem d_Mo_level_2 : decode b_Mo_level 2 = .ok (.istore_n 1, 1) := by decide +kernel
theorem d_Mo_level_3 : decode b_Mo_level 3 = .ok (.iconst 2, 1) := by decide +kernel
theorem d_Mo_level_4 : decode b_Mo_level 4 = .ok (.istore_n 2, 1) := by decide +kernel
theorem d_Mo_level_5 : decode b_Mo_level 5 = .ok (.iload_n 2, 1) := by decide +kernel
theorem d_Mo_level_6 : decode b_Mo_level 6 = .ok (.bipush (16), 2) := by decide +kernel
theorem d_Mo_level_8 : decode b_Mo_level 8 = .ok (.if_icmp .ge (43), 3) := by decide +kernel
theorem d_Mo_level_11 : decode b_Mo_level 11 = .ok (.aload_n 0, 1) := by decide +kernel
theorem d_Mo_level_12 : decode b_Mo_level 12 = .ok (.getfield 26, 3) := by decide +kernel
theorem d_Mo_level_15 : decode b_Mo_level 15 = .ok (.iload_n 2, 1) := by decide +kernel
theorem d_Mo_level_16 : decode b_Mo_level 16 = .ok (.baload, 1) := by decide +kernel
theorem d_Mo_level_17 : decode b_Mo_level 17 = .ok (.ifCond .eq (28), 3) := by decide +kernel
theorem d_Mo_level_20 : decode b_Mo_level 20 = .ok (.aload_n 0, 1) := by decide +kernel
theorem d_Mo_level_21 : decode b_Mo_level 21 = .ok (.aload_n 0, 1) := by decide +kernel
theorem d_Mo_level_22 : decode b_Mo_level 22 = .ok (.getfield 16, 3) := by decide +kernel
theorem d_Mo_level_25 : decode b_Mo_level 25 = .ok (.iload_n 2, 1) := by decide +kernel
theorem d_Mo_level_26 : decode b_Mo_level 26 = .ok (.iaload, 1) := by decide +kernel
theorem d_Mo_level_27 : decode b_Mo_level 27 = .ok (.invokevirtual 56, 3) := by decide +kernel
theorem d_Mo_level_30 : decode b_Mo_level 30 = .ok (.iload_n 1, 1) := by decide +kernel
theorem d_Mo_level_31 : decode b_Mo_level 31 = .ok (.if_icmp .ge (14), 3) := by decide +kernel
theorem d_Mo_level_34 : decode b_Mo_level 34 = .ok (.aload_n 0, 1) := by decide +kernel
theorem d_Mo_level_35 : decode b_Mo_level 35 = .ok (.aload_n 0, 1) := by decide +kernel
theorem d_Mo_level_36 : decode b_Mo_level 36 = .ok (.getfield 16, 3) := by decide +kernel
theorem d_Mo_level_39 : decode b_Mo_level 39 = .ok (.iload_n 2, 1) := by decide +kernel
theorem d_Mo_level_40 : decode b_Mo_level 40 = .ok (.iaload, 1) := by decide +kernel
theorem d_Mo_level_41 : decode b_Mo_level 41 = .ok (.invokevirtual 56, 3) := by decide +kernel
theorem d_Mo_level_44 : decode b_Mo_level 44 = .ok (.istore_n 1, 1) := by decide +kernel
theorem d_Mo_level_45 : decode b_Mo_level 45 = .ok (.iinc 2 (1), 3) := by decide +kernel
theorem d_Mo_level_48 : decode b_Mo_level 48 = .ok (.goto (-43), 3) := by decide +kernel
theorem d_Mo_level_51 : decode b_Mo_level 51 = .ok (.aload_n 0, 1) := by decide +kernel
theorem d_Mo_level_52 : decode b_Mo_level 52 = .ok (.getfield 60, 3) := by decide +kernel
theorem d_Mo_level_55 : decode b_Mo_level 55 = .ok (.ifCond .eq (24), 3) := by decide +kernel
theorem d_Mo_level_58 : decode b_Mo_level 58 = .ok (.aload_n 0, 1) := by decide +kernel
theorem d_Mo_level_59 : decode b_Mo_level 59 = .ok (.aload_n 0, 1) := by decide +kernel
theorem d_Mo_level_60 : decode b_Mo_level 60 = .ok (.getfield 60, 3) := by decide +kernel
theorem d_Mo_level_63 : decode b_Mo_level 63 = .ok (.invokevirtual 56, 3) := by decide +kernel
theorem d_Mo_level_66 : decode b_Mo_level 66 = .ok (.iload_n 1, 1) := by decide +kernel
theorem d_Mo_level_67 : decode b_Mo_level 67 = .ok (.if_icmp .ge (12), 3) := by decide +kernel
theorem d_Mo_level_70 : decode b_Mo_level 70 = .ok (.aload_n 0, 1) := by decide +kernel
theorem d_Mo_level_71 : decode b_Mo_level 71 = .ok (.aload_n 0, 1) := by decide +kernel
theorem d_Mo_level_72 : decode b_Mo_level 72 = .ok (.getfield 60, 3) := by decide +kernel
theorem d_Mo_level_75 : decode b_Mo_level 75 = .ok (.invokevirtual 56, 3) := by decide +kernel
theorem d_Mo_level_78 : decode b_Mo_level 78 = .ok (.istore_n 1, 1) := by decide +kernel
theorem d_Mo_level_79 : decode b_Mo_level 79 = .ok (.aload_n 0, 1) := by decide +kernel
theorem d_Mo_level_80 : decode b_Mo_level 80 = .ok (.getfield 63, 3) := by decide +kernel
theorem d_Mo_level_83 : decode b_Mo_level 83 = .ok (.ifCond .eq (9), 3) := by decide +kernel
theorem d_Mo_level_86 : decode b_Mo_level 86 = .ok (.iload_n 1, 1) := by decide +kernel
theorem d_Mo_level_87 : decode b_Mo_level 87 = .ok (.ifCond .le (5), 3) := by decide +kernel
theorem d_Mo_level_90 : decode b_Mo_level 90 = .ok (.iconst 0, 1) := by decide +kernel
theorem d_Mo_level_91 : decode b_Mo_level 91 = .ok (.istore_n 1, 1) := by decide +kernel
theorem d_Mo_level_92 : decode b_Mo_level 92 = .ok (.aload_n 0, 1) := by decide +kernel
theorem d_Mo_level_93 : decode b_Mo_level 93 = .ok (.getfield 67, 3) := by decide +kernel
theorem d_Mo_level_96 : decode b_Mo_level 96 = .ok (.ifCond .eq (12), 3) := by decide +kernel
theorem d_Mo_level_99 : decode b_Mo_level 99 = .ok (.iload_n 1, 1) := by decide +kernel
theorem d_Mo_level_100 : decode b_Mo_level 100 = .ok (.iconst (-1), 1) := by decide +kernel
theorem d_Mo_level_101 : decode b_Mo_level 101 = .ok (.if_icmp .le (7), 3) := by decide +kernel
theorem d_Mo_level_104 : decode b_Mo_level 104 = .ok (.iconst (-1), 1) := by decide +kernel
theorem d_Mo_level_105 : decode b_Mo_level 105 = .ok (.goto (4), 3) := by decide +kernel
theorem d_Mo_level_108 : decode b_Mo_level 108 = .ok (.iload_n 1, 1) := by decide +kernel
theorem d_Mo_level_109 : decode b_Mo_level 109 = .ok (.ireturn, 1) := by decide +kernel
theorem d_Mo_due_0 : decode b_Mo_due 0 = .ok (.iconst 0, 1) := by decide +kernel
theorem d_Mo_due_1 : decode b_Mo_due 1 = .ok (.istore_n 1, 1) := by decide +kernel
theorem d_Mo_due_2 : decode b_Mo_due 2 = .ok (.bipush (15), 2) := by decide +kernel
theorem d_Mo_due_4 : decode b_Mo_due 4 = .ok (.istore_n 2, 1) := by decide +kernel
theorem d_Mo_due_5 : decode b_Mo_due 5 = .ok (.iload_n 2, 1) := by decide +kernel
theorem d_Mo_due_6 : decode b_Mo_due 6 = .ok (.iconst 1, 1) := by decide +kernel
theorem d_Mo_due_7 : decode b_Mo_due 7 = .ok (.if_icmp .le (48), 3) := by decide +kernel
theorem d_Mo_due_10 : decode b_Mo_due 10 = .ok (.aload_n 0, 1) := by decide +kernel
theorem d_Mo_due_11 : decode b_Mo_due 11 = .ok (.getfield 23, 3) := by decide +kernel
theorem d_Mo_due_14 : decode b_Mo_due 14 = .ok (.iload_n 2, 1) := by decide +kernel
theorem d_Mo_due_15 : decode b_Mo_due 15 = .ok (.baload, 1) := by decide +kernel
theorem d_Mo_due_16 : decode b_Mo_due 16 = .ok (.ifCond .eq (33), 3) := by decide +kernel
theorem d_Mo_due_19 : decode b_Mo_due 19 = .ok (.aload_n 0, 1) := by decide +kernel
theorem d_Mo_due_20 : decode b_Mo_due 20 = .ok (.getfield 19, 3) := by decide +kernel
theorem d_Mo_due_23 : decode b_Mo_due 23 = .ok (.iload_n 2, 1) := by decide +kernel
theorem d_Mo_due_24 : decode b_Mo_due 24 = .ok (.baload, 1) := by decide +kernel
theorem d_Mo_due_25 : decode b_Mo_due 25 = .ok (.ifCond .eq (24), 3) := by decide +kernel
theorem d_Mo_due_28 : decode b_Mo_due 28 = .ok (.iload_n 1, 1) := by decide +kernel
theorem d_Mo_due_29 : decode b_Mo_due 29 = .ok (.ifCond .eq (18), 3) := by decide +kernel
theorem d_Mo_due_32 : decode b_Mo_due 32 = .ok (.aload_n 0, 1) := by decide +kernel
theorem d_Mo_due_33 : decode b_Mo_due 33 = .ok (.getfield 16, 3) := by decide +kernel
theorem d_Mo_due_36 : decode b_Mo_due 36 = .ok (.iload_n 2, 1) := by decide +kernel
theorem d_Mo_due_37 : decode b_Mo_due 37 = .ok (.iaload, 1) := by decide +kernel
theorem d_Mo_due_38 : decode b_Mo_due 38 = .ok (.aload_n 0, 1) := by decide +kernel
theorem d_Mo_due_39 : decode b_Mo_due 39 = .ok (.getfield 16, 3) := by decide +kernel
theorem d_Mo_due_42 : decode b_Mo_due 42 = .ok (.iload_n 1, 1) := by decide +kernel
theorem d_Mo_due_43 : decode b_Mo_due 43 = .ok (.iaload, 1) := by decide +kernel
theorem d_Mo_due_44 : decode b_Mo_due 44 = .ok (.if_icmp .gt (5), 3) := by decide +kernel
theorem d_Mo_due_47 : decode b_Mo_due 47 = .ok (.iload_n 2, 1) := by decide +kernel
theorem d_Mo_due_48 : decode b_Mo_due 48 = .ok (.istore_n 1, 1) := by decide +kernel
theorem d_Mo_due_49 : decode b_Mo_due 49 = .ok (.iinc 2 (-1), 3) := by decide +kernel
theorem d_Mo_due_52 : decode b_Mo_due 52 = .ok (.goto (-47), 3) := by decide +kernel
theorem d_Mo_due_55 : decode b_Mo_due 55 = .ok (.iload_n 1, 1) := by decide +kernel
theorem d_Mo_due_56 : decode b_Mo_due 56 = .ok (.ifCond .le (24), 3) := by decide +kernel
theorem d_Mo_due_59 : decode b_Mo_due 59 = .ok (.aload_n 0, 1) := by decide +kernel
theorem d_Mo_due_60 : decode b_Mo_due 60 = .ok (.aload_n 0, 1) := by decide +kernel
theorem d_Mo_due_61 : decode b_Mo_due 61 = .ok (.getfield 16, 3) := by decide +kernel
theorem d_Mo_due_64 : decode b_Mo_due 64 = .ok (.iload_n 1, 1) := by decide +kernel
theorem d_Mo_due_65 : decode b_Mo_due 65 = .ok (.iaload, 1) := by decide +kernel
theorem d_Mo_due_66 : decode b_Mo_due 66 = .ok (.invokevirtual 56, 3) := by decide +kernel
theorem d_Mo_due_69 : decode b_Mo_due 69 = .ok (.aload_n 0, 1) := by decide +kernel
theorem d_Mo_due_70 : decode b_Mo_due 70 = .ok (.invokevirtual 70, 3) := by decide +kernel
theorem d_Mo_due_73 : decode b_Mo_due 73 = .ok (.if_icmp .ge (7), 3) := by decide +kernel
theorem d_Mo_due_76 : decode b_Mo_due 76 = .ok (.iload_n 1, 1) := by decide +kernel
theorem d_Mo_due_77 : decode b_Mo_due 77 = .ok (.goto (4), 3) := by decide +kernel
theorem d_Mo_due_80 : decode b_Mo_due 80 = .ok (.iconst 0, 1) := by decide +kernel
theorem d_Mo_due_81 : decode b_Mo_due 81 = .ok (.ireturn, 1) := by decide +kernel
theorem d_Mo_enter_0 : decode b_Mo_enter 0 = .ok (.aload_n 0, 1) := by decide +kernel
theorem d_Mo_enter_1 : decode b_Mo_enter 1 = .ok (.getfield 26, 3) := by decide +kernel
theorem d_Mo_enter_4 : decode b_Mo_enter 4 = .ok (.iload_n 1, 1) := by decide +kernel
theorem d_Mo_enter_5 : decode b_Mo_enter 5 = .ok (.iconst 1, 1) := by decide +kernel
theorem d_Mo_enter_6 : decode b_Mo_enter 6 = .ok (.bastore, 1) := by decide +kernel
theorem d_Mo_enter_7 : decode b_Mo_enter 7 = .ok (.aload_n 0, 1) := by decide +kernel
theorem d_Mo_enter_8 : decode b_Mo_enter 8 = .ok (.getfield 23, 3) := by decide +kernel
theorem d_Mo_enter_11 : decode b_Mo_enter 11 = .ok (.iload_n 1, 1) := by decide +kernel
theorem d_Mo_enter_12 : decode b_Mo_enter 12 = .ok (.iconst 0, 1) := by decide +kernel
theorem d_Mo_enter_13 : decode b_Mo_enter 13 = .ok (.bastore, 1) := by decide +kernel
theorem d_Mo_enter_14 : decode b_Mo_enter 14 = .ok (.aload_n 0, 1) := by decide +kernel
theorem d_Mo_enter_15 : decode b_Mo_enter 15 = .ok (.iload_n 1, 1) := by decide +kernel
theorem d_Mo_enter_16 : decode b_Mo_enter 16 = .ok (.putfield 74, 3) := by decide +kernel
theorem d_Mo_enter_19 : decode b_Mo_enter 19 = .ok (.aload_n 0, 1) := by decide +kernel
theorem d_Mo_enter_20 : decode b_Mo_enter 20 = .ok (.getfield 13, 3) := by decide +kernel
theorem d_Mo_enter_23 : decode b_Mo_enter 23 = .ok (.bipush (15), 2) := by decide +kernel
theorem d_Mo_enter_25 : decode b_Mo_enter 25 = .ok (.aload_n 0, 1) := by decide +kernel
theorem d_Mo_enter_26 : decode b_Mo_enter 26 = .ok (.iconst 4, 1) := by decide +kernel
theorem d_Mo_enter_27 : decode b_Mo_enter 27 = .ok (.iload_n 1, 1) := by decide +kernel
theorem d_Mo_enter_28 : decode b_Mo_enter 28 = .ok (.imul, 1) := by decide +kernel
theorem d_Mo_enter_29 : decode b_Mo_enter 29 = .ok (.invokevirtual 77, 3) := by decide +kernel
theorem d_Mo_enter_32 : decode b_Mo_enter 32 = .ok (.bipush (-2), 2) := by decide +kernel
theorem d_Mo_enter_34 : decode b_Mo_enter 34 = .ok (.iand, 1) := by decide +kernel
theorem d_Mo_enter_35 : decode b_Mo_enter 35 = .ok (.iastore, 1) := by decide +kernel
theorem d_Mo_enter_36 : decode b_Mo_enter 36 = .ok (.return_, 1) := by decide +kernel
theorem d_Mo_status_0 : decode b_Mo_status 0 = .ok (.aload_n 0, 1) := by decide +kernel
theorem d_Mo_status_1 : decode b_Mo_status 1 = .ok (.getfield 80, 3) := by decide +kernel
theorem d_Mo_status_4 : decode b_Mo_status 4 = .ok (.ifCond .eq (8), 3) := by decide +kernel
theorem d_Mo_status_7 : decode b_Mo_status 7 = .ok (.ldc 83, 2) := by decide +kernel
theorem d_Mo_status_9 : decode b_Mo_status 9 = .ok (.goto (4), 3) := by decide +kernel
theorem d_Mo_status_12 : decode b_Mo_status 12 = .ok (.iconst 0, 1) := by decide +kernel
theorem d_Mo_status_13 : decode b_Mo_status 13 = .ok (.aload_n 0, 1) := by decide +kernel
theorem d_Mo_status_14 : decode b_Mo_status 14 = .ok (.getfield 84, 3) := by decide +kernel
theorem d_Mo_status_17 : decode b_Mo_status 17 = .ok (.ifCond .eq (8), 3) := by decide +kernel
theorem d_Mo_status_20 : decode b_Mo_status 20 = .ok (.ldc 87, 2) := by decide +kernel
theorem d_Mo_status_22 : decode b_Mo_status 22 = .ok (.goto (4), 3) := by decide +kernel
theorem d_Mo_status_25 : decode b_Mo_status 25 = .ok (.iconst 0, 1) := by decide +kernel
theorem d_Mo_status_26 : decode b_Mo_status 26 = .ok (.ior, 1) := by decide +kernel
theorem d_Mo_status_27 : decode b_Mo_status 27 = .ok (.aload_n 0, 1) := by decide +kernel
theorem d_Mo_status_28 : decode b_Mo_status 28 = .ok (.getfield 88, 3) := by decide +kernel
theorem d_Mo_status_31 : decode b_Mo_status 31 = .ok (.ifCond .eq (8), 3) := by decide +kernel
theorem d_Mo_status_34 : decode b_Mo_status 34 = .ok (.ldc 91, 2) := by decide +kernel
theorem d_Mo_status_36 : decode b_Mo_status 36 = .ok (.goto (4), 3) := by decide +kernel
theorem d_Mo_status_39 : decode b_Mo_status 39 = .ok (.iconst 0, 1) := by decide +kernel
theorem d_Mo_status_40 : decode b_Mo_status 40 = .ok (.ior, 1) := by decide +kernel
theorem d_Mo_status_41 : decode b_Mo_status 41 = .ok (.aload_n 0, 1) := by decide +kernel
theorem d_Mo_status_42 : decode b_Mo_status 42 = .ok (.getfield 92, 3) := by decide +kernel
theorem d_Mo_status_45 : decode b_Mo_status 45 = .ok (.ifCond .eq (8), 3) := by decide +kernel
theorem d_Mo_status_48 : decode b_Mo_status 48 = .ok (.ldc 95, 2) := by decide +kernel
theorem d_Mo_status_50 : decode b_Mo_status 50 = .ok (.goto (4), 3) := by decide +kernel
theorem d_Mo_status_53 : decode b_Mo_status 53 = .ok (.iconst 0, 1) := by decide +kernel
theorem d_Mo_status_54 : decode b_Mo_status 54 = .ok (.ior, 1) := by decide +kernel
theorem d_Mo_status_55 : decode b_Mo_status 55 = .ok (.iload_n 1, 1) := by decide +kernel
theorem d_Mo_status_56 : decode b_Mo_status 56 = .ok (.ifCond .eq (9), 3) := by decide +kernel
theorem d_Mo_status_59 : decode b_Mo_status 59 = .ok (.sipush (512), 3) := by decide +kernel
theorem d_Mo_status_62 : decode b_Mo_status 62 = .ok (.goto (4), 3) := by decide +kernel
theorem d_Mo_status_65 : decode b_Mo_status 65 = .ok (.iconst 0, 1) := by decide +kernel
theorem d_Mo_status_66 : decode b_Mo_status 66 = .ok (.ior, 1) := by decide +kernel
theorem d_Mo_status_67 : decode b_Mo_status 67 = .ok (.aload_n 0, 1) := by decide +kernel
theorem d_Mo_status_68 : decode b_Mo_status 68 = .ok (.getfield 74, 3) := by decide +kernel
theorem d_Mo_status_71 : decode b_Mo_status 71 = .ok (.ior, 1) := by decide +kernel
theorem d_Mo_status_72 : decode b_Mo_status 72 = .ok (.ireturn, 1) := by decide +kernel
theorem d_Mo_isFrame_0 : decode b_Mo_isFrame 0 = .ok (.iload_n 0, 1) := by decide +kernel
theorem d_Mo_isFrame_1 : decode b_Mo_isFrame 1 = .ok (.ifCond .lt (20), 3) := by decide +kernel
theorem d_Mo_isFrame_4 : decode b_Mo_isFrame 4 = .ok (.iload_n 0, 1) := by decide +kernel
theorem d_Mo_isFrame_5 : decode b_Mo_isFrame 5 = .ok (.sipush (992), 3) := by decide +kernel
theorem d_Mo_isFrame_8 : decode b_Mo_isFrame 8 = .ok (.if_icmp .gt (13), 3) := by decide +kernel
theorem d_Mo_isFrame_11 : decode b_Mo_isFrame 11 = .ok (.iload_n 0, 1) := by decide +kernel
theorem d_Mo_isFrame_12 : decode b_Mo_isFrame 12 = .ok (.iconst 3, 1) := by decide +kernel
theorem d_Mo_isFrame_13 : decode b_Mo_isFrame 13 = .ok (.iand, 1) := by decide +kernel
theorem d_Mo_isFrame_14 : decode b_Mo_isFrame 14 = .ok (.ifCond .ne (7), 3) := by decide +kernel
theorem d_Mo_isFrame_17 : decode b_Mo_isFrame 17 = .ok (.iconst 1, 1) := by decide +kernel
theorem d_Mo_isFrame_18 : decode b_Mo_isFrame 18 = .ok (.goto (4), 3) := by decide +kernel
theorem d_Mo_isFrame_21 : decode b_Mo_isFrame 21 = .ok (.iconst 0, 1) := by decide +kernel
theorem d_Mo_isFrame_22 : decode b_Mo_isFrame 22 = .ok (.ireturn, 1) := by decide +kernel
theorem d_Mo_take_0 : decode b_Mo_take 0 = .ok (.aload_n 0, 1) := by decide +kernel
theorem d_Mo_take_1 : decode b_Mo_take 1 = .ok (.getfield 13, 3) := by decide +kernel
theorem d_Mo_take_4 : decode b_Mo_take 4 = .ok (.bipush (13), 2) := by decide +kernel
theorem d_Mo_take_6 : decode b_Mo_take 6 = .ok (.iaload, 1) := by decide +kernel
theorem d_Mo_take_7 : decode b_Mo_take 7 = .ok (.bipush (7), 2) := by decide +kernel
theorem d_Mo_take_9 : decode b_Mo_take 9 = .ok (.iand, 1) := by decide +kernel
theorem d_Mo_take_10 : decode b_Mo_take 10 = .ok (.ifCond .eq (7), 3) := by decide +kernel
theorem d_Mo_take_13 : decode b_Mo_take 13 = .ok (.iconst 1, 1) := by decide +kernel
theorem d_Mo_take_14 : decode b_Mo_take 14 = .ok (.goto (4), 3) := by decide +kernel
theorem d_Mo_take_17 : decode b_Mo_take 17 = .ok (.iconst 0, 1) := by decide +kernel
theorem d_Mo_take_18 : decode b_Mo_take 18 = .ok (.istore_n 2, 1) := by decide +kernel
theorem d_Mo_take_19 : decode b_Mo_take 19 = .ok (.aload_n 0, 1) := by decide +kernel
theorem d_Mo_take_20 : decode b_Mo_take 20 = .ok (.getfield 13, 3) := by decide +kernel
theorem d_Mo_take_23 : decode b_Mo_take 23 = .ok (.bipush (13), 2) := by decide +kernel
theorem d_Mo_take_25 : decode b_Mo_take 25 = .ok (.iaload, 1) := by decide +kernel
theorem d_Mo_take_26 : decode b_Mo_take 26 = .ok (.iload_n 2, 1) := by decide +kernel
theorem d_Mo_take_27 : decode b_Mo_take 27 = .ok (.ifCond .eq (8), 3) := by decide +kernel
theorem d_Mo_take_30 : decode b_Mo_take 30 = .ok (.bipush (36), 2) := by decide +kernel
theorem d_Mo_take_32 : decode b_Mo_take 32 = .ok (.goto (5), 3) := by decide +kernel
theorem d_Mo_take_35 : decode b_Mo_take 35 = .ok (.bipush (32), 2) := by decide +kernel
theorem d_Mo_take_37 : decode b_Mo_take 37 = .ok (.isub, 1) := by decide +kernel
theorem d_Mo_take_38 : decode b_Mo_take 38 = .ok (.istore_n 3, 1) := by decide +kernel
theorem d_Mo_take_39 : decode b_Mo_take 39 = .ok (.iload_n 3, 1) := by decide +kernel
theorem d_Mo_take_40 : decode b_Mo_take 40 = .ok (.invokestatic 96, 3) := by decide +kernel
theorem d_Mo_take_43 : decode b_Mo_take 43 = .ok (.ifCond .ne (9), 3) := by decide +kernel
theorem d_Mo_take_46 : decode b_Mo_take 46 = .ok (.aload_n 0, 1) := by decide +kernel
theorem d_Mo_take_47 : decode b_Mo_take 47 = .ok (.iconst 2, 1) := by decide +kernel
theorem d_Mo_take_48 : decode b_Mo_take 48 = .ok (.putfield 99, 3) := by decide +kernel
theorem d_Mo_take_51 : decode b_Mo_take 51 = .ok (.return_, 1) := by decide +kernel
theorem d_Mo_take_52 : decode b_Mo_take 52 = .ok (.iconst 0, 1) := by decide +kernel
theorem d_Mo_take_53 : decode b_Mo_take 53 = .ok (.istore 4, 2) := by decide +kernel
theorem d_Mo_take_55 : decode b_Mo_take 55 = .ok (.iload 4, 2) := by decide +kernel
theorem d_Mo_take_57 : decode b_Mo_take 57 = .ok (.iconst 4, 1) := by decide +kernel
theorem d_Mo_take_58 : decode b_Mo_take 58 = .ok (.if_icmp .ge (26), 3) := by decide +kernel
theorem d_Mo_take_61 : decode b_Mo_take 61 = .ok (.aload_n 0, 1) := by decide +kernel
theorem d_Mo_take_62 : decode b_Mo_take 62 = .ok (.iload_n 3, 1) := by decide +kernel
theorem d_Mo_take_63 : decode b_Mo_take 63 = .ok (.iconst 4, 1) := by decide +kernel
theorem d_Mo_take_64 : decode b_Mo_take 64 = .ok (.iload 4, 2) := by decide +kernel
theorem d_Mo_take_66 : decode b_Mo_take 66 = .ok (.imul, 1) := by decide +kernel
theorem d_Mo_take_67 : decode b_Mo_take 67 = .ok (.iadd, 1) := by decide +kernel
theorem d_Mo_take_68 : decode b_Mo_take 68 = .ok (.aload_n 0, 1) := by decide +kernel
theorem d_Mo_take_69 : decode b_Mo_take 69 = .ok (.getfield 13, 3) := by decide +kernel
theorem d_Mo_take_72 : decode b_Mo_take 72 = .ok (.iload 4, 2) := by decide +kernel
theorem d_Mo_take_74 : decode b_Mo_take 74 = .ok (.iaload, 1) := by decide +kernel
theorem d_Mo_take_75 : decode b_Mo_take 75 = .ok (.invokevirtual 102, 3) := by decide +kernel
theorem d_Mo_take_78 : decode b_Mo_take 78 = .ok (.iinc 4 (1), 3) := by decide +kernel
theorem d_Mo_take_81 : decode b_Mo_take 81 = .ok (.goto (-26), 3) := by decide +kernel
theorem d_Mo_take_84 : decode b_Mo_take 84 = .ok (.aload_n 0, 1) := by decide +kernel
theorem d_Mo_take_85 : decode b_Mo_take 85 = .ok (.iload_n 3, 1) := by decide +kernel
theorem d_Mo_take_86 : decode b_Mo_take 86 = .ok (.bipush (16), 2) := by decide +kernel
theorem d_Mo_take_88 : decode b_Mo_take 88 = .ok (.iadd, 1) := by decide +kernel
theorem d_Mo_take_89 : decode b_Mo_take 89 = .ok (.aload_n 0, 1) := by decide +kernel
theorem d_Mo_take_90 : decode b_Mo_take 90 = .ok (.getfield 13, 3) := by decide +kernel
theorem d_Mo_take_93 : decode b_Mo_take 93 = .ok (.bipush (12), 2) := by decide +kernel
theorem d_Mo_take_95 : decode b_Mo_take 95 = .ok (.iaload, 1) := by decide +kernel
theorem d_Mo_take_96 : decode b_Mo_take 96 = .ok (.invokevirtual 102, 3) := by decide +kernel
theorem d_Mo_take_99 : decode b_Mo_take 99 = .ok (.aload_n 0, 1) := by decide +kernel
theorem d_Mo_take_100 : decode b_Mo_take 100 = .ok (.iload_n 3, 1) := by decide +kernel
theorem d_Mo_take_101 : decode b_Mo_take 101 = .ok (.bipush (20), 2) := by decide +kernel
theorem d_Mo_take_103 : decode b_Mo_take 103 = .ok (.iadd, 1) := by decide +kernel
theorem d_Mo_take_104 : decode b_Mo_take 104 = .ok (.aload_n 0, 1) := by decide +kernel
theorem d_Mo_take_105 : decode b_Mo_take 105 = .ok (.getfield 13, 3) := by decide +kernel
theorem d_Mo_take_108 : decode b_Mo_take 108 = .ok (.bipush (14), 2) := by decide +kernel
theorem d_Mo_take_110 : decode b_Mo_take 110 = .ok (.iaload, 1) := by decide +kernel
theorem d_Mo_take_111 : decode b_Mo_take 111 = .ok (.invokevirtual 102, 3) := by decide +kernel
theorem d_Mo_take_114 : decode b_Mo_take 114 = .ok (.aload_n 0, 1) := by decide +kernel
theorem d_Mo_take_115 : decode b_Mo_take 115 = .ok (.iload_n 3, 1) := by decide +kernel
theorem d_Mo_take_116 : decode b_Mo_take 116 = .ok (.bipush (24), 2) := by decide +kernel
theorem d_Mo_take_118 : decode b_Mo_take 118 = .ok (.iadd, 1) := by decide +kernel
theorem d_Mo_take_119 : decode b_Mo_take 119 = .ok (.aload_n 0, 1) := by decide +kernel
theorem d_Mo_take_120 : decode b_Mo_take 120 = .ok (.getfield 13, 3) := by decide +kernel
theorem d_Mo_take_123 : decode b_Mo_take 123 = .ok (.bipush (15), 2) := by decide +kernel
theorem d_Mo_take_125 : decode b_Mo_take 125 = .ok (.iaload, 1) := by decide +kernel
theorem d_Mo_take_126 : decode b_Mo_take 126 = .ok (.invokevirtual 102, 3) := by decide +kernel
theorem d_Mo_take_129 : decode b_Mo_take 129 = .ok (.aload_n 0, 1) := by decide +kernel
theorem d_Mo_take_130 : decode b_Mo_take 130 = .ok (.iload_n 3, 1) := by decide +kernel
theorem d_Mo_take_131 : decode b_Mo_take 131 = .ok (.bipush (28), 2) := by decide +kernel
theorem d_Mo_take_133 : decode b_Mo_take 133 = .ok (.iadd, 1) := by decide +kernel
theorem d_Mo_take_134 : decode b_Mo_take 134 = .ok (.aload_n 0, 1) := by decide +kernel
theorem d_Mo_take_135 : decode b_Mo_take 135 = .ok (.iload_n 2, 1) := by decide +kernel
theorem d_Mo_take_136 : decode b_Mo_take 136 = .ok (.invokevirtual 106, 3) := by decide +kernel
theorem d_Mo_take_139 : decode b_Mo_take 139 = .ok (.invokevirtual 102, 3) := by decide +kernel
theorem d_Mo_take_142 : decode b_Mo_take 142 = .ok (.aload_n 0, 1) := by decide +kernel
theorem d_Mo_take_143 : decode b_Mo_take 143 = .ok (.getfield 13, 3) := by decide +kernel
theorem d_Mo_take_146 : decode b_Mo_take 146 = .ok (.bipush (13), 2) := by decide +kernel
theorem d_Mo_take_148 : decode b_Mo_take 148 = .ok (.iload_n 3, 1) := by decide +kernel
theorem d_Mo_take_149 : decode b_Mo_take 149 = .ok (.iastore, 1) := by decide +kernel
theorem d_Mo_take_150 : decode b_Mo_take 150 = .ok (.aload_n 0, 1) := by decide +kernel
theorem d_Mo_take_151 : decode b_Mo_take 151 = .ok (.getfield 13, 3) := by decide +kernel
theorem d_Mo_take_154 : decode b_Mo_take 154 = .ok (.bipush (14), 2) := by decide +kernel
theorem d_Mo_take_156 : decode b_Mo_take 156 = .ok (.aload_n 0, 1) := by decide +kernel
theorem d_Mo_take_157 : decode b_Mo_take 157 = .ok (.getfield 74, 3) := by decide +kernel
theorem d_Mo_take_160 : decode b_Mo_take 160 = .ok (.ifCond .ne (8), 3) := by decide +kernel
theorem d_Mo_take_163 : decode b_Mo_take 163 = .ok (.bipush (-7), 2) := by decide +kernel
theorem d_Mo_take_165 : decode b_Mo_take 165 = .ok (.goto (5), 3) := by decide +kernel
theorem d_Mo_take_168 : decode b_Mo_take 168 = .ok (.bipush (-15), 2) := by decide +kernel
theorem d_Mo_take_170 : decode b_Mo_take 170 = .ok (.iastore, 1) := by decide +kernel
theorem d_Mo_take_171 : decode b_Mo_take 171 = .ok (.aload_n 0, 1) := by decide +kernel
theorem d_Mo_take_172 : decode b_Mo_take 172 = .ok (.iload_n 1, 1) := by decide +kernel
theorem d_Mo_take_173 : decode b_Mo_take 173 = .ok (.invokevirtual 110, 3) := by decide +kernel
theorem d_Mo_take_176 : decode b_Mo_take 176 = .ok (.aload_n 0, 1) := by decide +kernel
theorem d_Mo_take_177 : decode b_Mo_take 177 = .ok (.dup, 1) := by decide +kernel
theorem d_Mo_take_178 : decode b_Mo_take 178 = .ok (.getfield 114, 3) := by decide +kernel
theorem d_Mo_take_181 : decode b_Mo_take 181 = .ok (.iconst 1, 1) := by decide +kernel
theorem d_Mo_take_182 : decode b_Mo_take 182 = .ok (.iadd, 1) := by decide +kernel
theorem d_Mo_take_183 : decode b_Mo_take 183 = .ok (.putfield 114, 3) := by decide +kernel
theorem d_Mo_take_186 : decode b_Mo_take 186 = .ok (.return_, 1) := by decide +kernel
theorem d_Mo_isBack_0 : decode b_Mo_isBack 0 = .ok (.iload_n 1, 1) := by decide +kernel
theorem d_Mo_isBack_1 : decode b_Mo_isBack 1 = .ok (.invokestatic 96, 3) := by decide +kernel
theorem d_Mo_isBack_4 : decode b_Mo_isBack 4 = .ok (.ifCond .ne (5), 3) := by decide +kernel
theorem d_Mo_isBack_7 : decode b_Mo_isBack 7 = .ok (.iconst 0, 1) := by decide +kernel
theorem d_Mo_isBack_8 : decode b_Mo_isBack 8 = .ok (.ireturn, 1) := by decide +kernel
theorem d_Mo_isBack_9 : decode b_Mo_isBack 9 = .ok (.aload_n 0, 1) := by decide +kernel
theorem d_Mo_isBack_10 : decode b_Mo_isBack 10 = .ok (.iload_n 1, 1) := by decide +kernel
theorem d_Mo_isBack_11 : decode b_Mo_isBack 11 = .ok (.bipush (28), 2) := by decide +kernel
theorem d_Mo_isBack_13 : decode b_Mo_isBack 13 = .ok (.iadd, 1) := by decide +kernel
theorem d_Mo_isBack_14 : decode b_Mo_isBack 14 = .ok (.invokevirtual 77, 3) := by decide +kernel
theorem d_Mo_isBack_17 : decode b_Mo_isBack 17 = .ok (.bipush (15), 2) := by decide +kernel
theorem d_Mo_isBack_19 : decode b_Mo_isBack 19 = .ok (.iand, 1) := by decide +kernel
theorem d_Mo_isBack_20 : decode b_Mo_isBack 20 = .ok (.istore_n 3, 1) := by decide +kernel
theorem d_Mo_isBack_21 : decode b_Mo_isBack 21 = .ok (.iload_n 3, 1) := by decide +kernel
theorem d_Mo_isBack_22 : decode b_Mo_isBack 22 = .ok (.iconst 1, 1) := by decide +kernel
theorem d_Mo_isBack_23 : decode b_Mo_isBack 23 = .ok (.if_icmp .eq (30), 3) := by decide +kernel
theorem d_Mo_isBack_26 : decode b_Mo_isBack 26 = .ok (.iload_n 3, 1) := by decide +kernel
theorem d_Mo_isBack_27 : decode b_Mo_isBack 27 = .ok (.ifCond .ne (7), 3) := by decide +kernel
theorem d_Mo_isBack_30 : decode b_Mo_isBack 30 = .ok (.iconst 1, 1) := by decide +kernel
theorem d_Mo_isBack_31 : decode b_Mo_isBack 31 = .ok (.goto (4), 3) := by decide +kernel
theorem d_Mo_isBack_34 : decode b_Mo_isBack 34 = .ok (.iconst 0, 1) := by decide +kernel
theorem d_Mo_isBack_35 : decode b_Mo_isBack 35 = .ok (.iload_n 2, 1) := by decide +kernel
theorem d_Mo_isBack_36 : decode b_Mo_isBack 36 = .ok (.bipush (-7), 2) := by decide +kernel
theorem d_Mo_isBack_38 : decode b_Mo_isBack 38 = .ok (.if_icmp .ne (7), 3) := by decide +kernel
theorem d_Mo_isBack_41 : decode b_Mo_isBack 41 = .ok (.iconst 1, 1) := by decide +kernel
theorem d_Mo_isBack_42 : decode b_Mo_isBack 42 = .ok (.goto (4), 3) := by decide +kernel
theorem d_Mo_isBack_45 : decode b_Mo_isBack 45 = .ok (.iconst 0, 1) := by decide +kernel
theorem d_Mo_isBack_46 : decode b_Mo_isBack 46 = .ok (.if_icmp .ne (7), 3) := by decide +kernel
theorem d_Mo_isBack_49 : decode b_Mo_isBack 49 = .ok (.iconst 1, 1) := by decide +kernel
theorem d_Mo_isBack_50 : decode b_Mo_isBack 50 = .ok (.goto (4), 3) := by decide +kernel
theorem d_Mo_isBack_53 : decode b_Mo_isBack 53 = .ok (.iconst 0, 1) := by decide +kernel
theorem d_Mo_isBack_54 : decode b_Mo_isBack 54 = .ok (.ireturn, 1) := by decide +kernel
theorem d_Mo_flags_0 : decode b_Mo_flags 0 = .ok (.aload_n 0, 1) := by decide +kernel
theorem d_Mo_flags_1 : decode b_Mo_flags 1 = .ok (.iload_n 1, 1) := by decide +kernel
theorem d_Mo_flags_2 : decode b_Mo_flags 2 = .ok (.bipush (8), 2) := by decide +kernel
theorem d_Mo_flags_4 : decode b_Mo_flags 4 = .ok (.iand, 1) := by decide +kernel
theorem d_Mo_flags_5 : decode b_Mo_flags 5 = .ok (.ifCond .eq (7), 3) := by decide +kernel
theorem d_Mo_flags_8 : decode b_Mo_flags 8 = .ok (.iconst 1, 1) := by decide +kernel
theorem d_Mo_flags_9 : decode b_Mo_flags 9 = .ok (.goto (4), 3) := by decide +kernel
