theorem d_Rd_init_0 : decode b_Rd_init 0 = .ok (.aload_n 0, 1) := by decide +kernel
theorem d_Rd_init_1 : decode b_Rd_init 1 = .ok (.invokespecial 3, 3) := by decide +kernel
theorem d_Rd_init_4 : decode b_Rd_init 4 = .ok (.aload_n 0, 1) := by decide +kernel
theorem d_Rd_init_5 : decode b_Rd_init 5 = .ok (.iconst 0, 1) := by decide +kernel
theorem d_Rd_init_6 : decode b_Rd_init 6 = .ok (.putfield 9, 3) := by decide +kernel
theorem d_Rd_init_9 : decode b_Rd_init 9 = .ok (.aload_n 0, 1) := by decide +kernel
theorem d_Rd_init_10 : decode b_Rd_init 10 = .ok (.iconst 0, 1) := by decide +kernel
theorem d_Rd_init_11 : decode b_Rd_init 11 = .ok (.putfield 15, 3) := by decide +kernel
theorem d_Rd_init_14 : decode b_Rd_init 14 = .ok (.aload_n 0, 1) := by decide +kernel
theorem d_Rd_init_15 : decode b_Rd_init 15 = .ok (.iconst 0, 1) := by decide +kernel
theorem d_Rd_init_16 : decode b_Rd_init 16 = .ok (.putfield 18, 3) := by decide +kernel
theorem d_Rd_init_19 : decode b_Rd_init 19 = .ok (.aload_n 0, 1) := by decide +kernel
theorem d_Rd_init_20 : decode b_Rd_init 20 = .ok (.iconst 0, 1) := by decide +kernel
theorem d_Rd_init_21 : decode b_Rd_init 21 = .ok (.putfield 21, 3) := by decide +kernel
theorem d_Rd_init_24 : decode b_Rd_init 24 = .ok (.aload_n 0, 1) := by decide +kernel
theorem d_Rd_init_25 : decode b_Rd_init 25 = .ok (.iconst 0, 1) := by decide +kernel
theorem d_Rd_init_26 : decode b_Rd_init 26 = .ok (.putfield 24, 3) := by decide +kernel
theorem d_Rd_init_29 : decode b_Rd_init 29 = .ok (.aload_n 0, 1) := by decide +kernel
theorem d_Rd_init_30 : decode b_Rd_init 30 = .ok (.iconst 0, 1) := by decide +kernel
theorem d_Rd_init_31 : decode b_Rd_init 31 = .ok (.putfield 27, 3) := by decide +kernel
theorem d_Rd_init_34 : decode b_Rd_init 34 = .ok (.aload_n 0, 1) := by decide +kernel
theorem d_Rd_init_35 : decode b_Rd_init 35 = .ok (.iconst 0, 1) := by decide +kernel
theorem d_Rd_init_36 : decode b_Rd_init 36 = .ok (.putfield 30, 3) := by decide +kernel
theorem d_Rd_init_39 : decode b_Rd_init 39 = .ok (.aload_n 0, 1) := by decide +kernel
theorem d_Rd_init_40 : decode b_Rd_init 40 = .ok (.aload_n 1, 1) := by decide +kernel
theorem d_Rd_init_41 : decode b_Rd_init 41 = .ok (.putfield 33, 3) := by decide +kernel
theorem d_Rd_init_44 : decode b_Rd_init 44 = .ok (.return_, 1) := by decide +kernel
theorem d_Rd_read_0 : decode b_Rd_read 0 = .ok (.aload_n 0, 1) := by decide +kernel
theorem d_Rd_read_1 : decode b_Rd_read 1 = .ok (.iconst 0, 1) := by decide +kernel
theorem d_Rd_read_2 : decode b_Rd_read 2 = .ok (.putfield 9, 3) := by decide +kernel
theorem d_Rd_read_5 : decode b_Rd_read 5 = .ok (.aload_n 0, 1) := by decide +kernel
theorem d_Rd_read_6 : decode b_Rd_read 6 = .ok (.iconst 0, 1) := by decide +kernel
theorem d_Rd_read_7 : decode b_Rd_read 7 = .ok (.putfield 24, 3) := by decide +kernel
theorem d_Rd_read_10 : decode b_Rd_read 10 = .ok (.aload_n 0, 1) := by decide +kernel
theorem d_Rd_read_11 : decode b_Rd_read 11 = .ok (.iconst 0, 1) := by decide +kernel
theorem d_Rd_read_12 : decode b_Rd_read 12 = .ok (.putfield 27, 3) := by decide +kernel
theorem d_Rd_read_15 : decode b_Rd_read 15 = .ok (.aload_n 0, 1) := by decide +kernel
theorem d_Rd_read_16 : decode b_Rd_read 16 = .ok (.iconst 0, 1) := by decide +kernel
theorem d_Rd_read_17 : decode b_Rd_read 17 = .ok (.putfield 30, 3) := by decide +kernel
theorem d_Rd_read_20 : decode b_Rd_read 20 = .ok (.aload_n 0, 1) := by decide +kernel
theorem d_Rd_read_21 : decode b_Rd_read 21 = .ok (.invokevirtual 37, 3) := by decide +kernel
theorem d_Rd_read_24 : decode b_Rd_read 24 = .ok (.aload_n 0, 1) := by decide +kernel
theorem d_Rd_read_25 : decode b_Rd_read 25 = .ok (.iconst 1, 1) := by decide +kernel
theorem d_Rd_read_26 : decode b_Rd_read 26 = .ok (.invokevirtual 40, 3) := by decide +kernel
theorem d_Rd_read_29 : decode b_Rd_read 29 = .ok (.astore_n 1, 1) := by decide +kernel
theorem d_Rd_read_30 : decode b_Rd_read 30 = .ok (.aload_n 0, 1) := by decide +kernel
theorem d_Rd_read_31 : decode b_Rd_read 31 = .ok (.getfield 27, 3) := by decide +kernel
theorem d_Rd_read_34 : decode b_Rd_read 34 = .ok (.ifCond .ne 19, 3) := by decide +kernel
theorem d_Rd_read_37 : decode b_Rd_read 37 = .ok (.aload_n 0, 1) := by decide +kernel
theorem d_Rd_read_38 : decode b_Rd_read 38 = .ok (.getfield 15, 3) := by decide +kernel
theorem d_Rd_read_41 : decode b_Rd_read 41 = .ok (.ifCond .eq 12, 3) := by decide +kernel
theorem d_Rd_read_44 : decode b_Rd_read 44 = .ok (.aload_n 0, 1) := by decide +kernel
theorem d_Rd_read_45 : decode b_Rd_read 45 = .ok (.iconst 2, 1) := by decide +kernel
theorem d_Rd_read_46 : decode b_Rd_read 46 = .ok (.aload_n 0, 1) := by decide +kernel
theorem d_Rd_read_47 : decode b_Rd_read 47 = .ok (.getfield 18, 3) := by decide +kernel
theorem d_Rd_read_50 : decode b_Rd_read 50 = .ok (.invokevirtual 44, 3) := by decide +kernel
theorem d_Rd_read_53 : decode b_Rd_read 53 = .ok (.aload_n 0, 1) := by decide +kernel
theorem d_Rd_read_54 : decode b_Rd_read 54 = .ok (.getfield 27, 3) := by decide +kernel
theorem d_Rd_read_57 : decode b_Rd_read 57 = .ok (.ifCond .ne 7, 3) := by decide +kernel
theorem d_Rd_read_60 : decode b_Rd_read 60 = .ok (.aload_n 1, 1) := by decide +kernel
theorem d_Rd_read_61 : decode b_Rd_read 61 = .ok (.goto 4, 3) := by decide +kernel
theorem d_Rd_read_64 : decode b_Rd_read 64 = .ok (.aconst_null, 1) := by decide +kernel
theorem d_Rd_read_65 : decode b_Rd_read 65 = .ok (.areturn, 1) := by decide +kernel
theorem d_Rd_readToken_0 : decode b_Rd_readToken 0 = .ok (.aload_n 0, 1) := by decide +kernel
theorem d_Rd_readToken_1 : decode b_Rd_readToken 1 = .ok (.getfield 9, 3) := by decide +kernel
theorem d_Rd_readToken_4 : decode b_Rd_readToken 4 = .ok (.sipush 160, 3) := by decide +kernel
theorem d_Rd_readToken_7 : decode b_Rd_readToken 7 = .ok (.if_icmp .ge 32, 3) := by decide +kernel
theorem d_Rd_readToken_10 : decode b_Rd_readToken 10 = .ok (.aload_n 0, 1) := by decide +kernel
theorem d_Rd_readToken_11 : decode b_Rd_readToken 11 = .ok (.getfield 33, 3) := by decide +kernel
theorem d_Rd_readToken_14 : decode b_Rd_readToken 14 = .ok (.aload_n 0, 1) := by decide +kernel
theorem d_Rd_readToken_15 : decode b_Rd_readToken 15 = .ok (.getfield 9, 3) := by decide +kernel
theorem d_Rd_readToken_18 : decode b_Rd_readToken 18 = .ok (.invokevirtual 92, 3) := by decide +kernel
theorem d_Rd_readToken_21 : decode b_Rd_readToken 21 = .ok (.bipush 32, 2) := by decide +kernel
theorem d_Rd_readToken_23 : decode b_Rd_readToken 23 = .ok (.if_icmp .ne 16, 3) := by decide +kernel
theorem d_Rd_readToken_26 : decode b_Rd_readToken 26 = .ok (.aload_n 0, 1) := by decide +kernel
theorem d_Rd_readToken_27 : decode b_Rd_readToken 27 = .ok (.dup, 1) := by decide +kernel
theorem d_Rd_readToken_28 : decode b_Rd_readToken 28 = .ok (.getfield 9, 3) := by decide +kernel
theorem d_Rd_readToken_31 : decode b_Rd_readToken 31 = .ok (.iconst 1, 1) := by decide +kernel
theorem d_Rd_readToken_32 : decode b_Rd_readToken 32 = .ok (.iadd, 1) := by decide +kernel
theorem d_Rd_readToken_33 : decode b_Rd_readToken 33 = .ok (.putfield 9, 3) := by decide +kernel
theorem d_Rd_readToken_36 : decode b_Rd_readToken 36 = .ok (.goto (-36), 3) := by decide +kernel
theorem d_Rd_readToken_39 : decode b_Rd_readToken 39 = .ok (.aload_n 0, 1) := by decide +kernel
theorem d_Rd_readToken_40 : decode b_Rd_readToken 40 = .ok (.aload_n 0, 1) := by decide +kernel
theorem d_Rd_readToken_41 : decode b_Rd_readToken 41 = .ok (.getfield 9, 3) := by decide +kernel
theorem d_Rd_readToken_44 : decode b_Rd_readToken 44 = .ok (.putfield 18, 3) := by decide +kernel
theorem d_Rd_readToken_47 : decode b_Rd_readToken 47 = .ok (.aload_n 0, 1) := by decide +kernel
theorem d_Rd_readToken_48 : decode b_Rd_readToken 48 = .ok (.getfield 33, 3) := by decide +kernel
theorem d_Rd_readToken_51 : decode b_Rd_readToken 51 = .ok (.aload_n 0, 1) := by decide +kernel
theorem d_Rd_readToken_52 : decode b_Rd_readToken 52 = .ok (.getfield 9, 3) := by decide +kernel
theorem d_Rd_readToken_55 : decode b_Rd_readToken 55 = .ok (.invokevirtual 92, 3) := by decide +kernel
theorem d_Rd_readToken_58 : decode b_Rd_readToken 58 = .ok (.istore_n 1, 1) := by decide +kernel
theorem d_Rd_readToken_59 : decode b_Rd_readToken 59 = .ok (.iload_n 1, 1) := by decide +kernel
theorem d_Rd_readToken_60 : decode b_Rd_readToken 60 = .ok (.ifCond .ge 11, 3) := by decide +kernel
theorem d_Rd_readToken_63 : decode b_Rd_readToken 63 = .ok (.aload_n 0, 1) := by decide +kernel
theorem d_Rd_readToken_64 : decode b_Rd_readToken 64 = .ok (.iconst 0, 1) := by decide +kernel
theorem d_Rd_readToken_65 : decode b_Rd_readToken 65 = .ok (.putfield 15, 3) := by decide +kernel
theorem d_Rd_readToken_68 : decode b_Rd_readToken 68 = .ok (.goto 46, 3) := by decide +kernel
theorem d_Rd_readToken_71 : decode b_Rd_readToken 71 = .ok (.iload_n 1, 1) := by decide +kernel
theorem d_Rd_readToken_72 : decode b_Rd_readToken 72 = .ok (.invokestatic 95, 3) := by decide +kernel
theorem d_Rd_readToken_75 : decode b_Rd_readToken 75 = .ok (.ifCond .eq 10, 3) := by decide +kernel
theorem d_Rd_readToken_78 : decode b_Rd_readToken 78 = .ok (.aload_n 0, 1) := by decide +kernel
theorem d_Rd_readToken_79 : decode b_Rd_readToken 79 = .ok (.invokevirtual 98, 3) := by decide +kernel
theorem d_Rd_readToken_82 : decode b_Rd_readToken 82 = .ok (.goto 32, 3) := by decide +kernel
theorem d_Rd_readToken_85 : decode b_Rd_readToken 85 = .ok (.iload_n 1, 1) := by decide +kernel
theorem d_Rd_readToken_86 : decode b_Rd_readToken 86 = .ok (.invokestatic 101, 3) := by decide +kernel
theorem d_Rd_readToken_89 : decode b_Rd_readToken 89 = .ok (.ifCond .ne 9, 3) := by decide +kernel
theorem d_Rd_readToken_92 : decode b_Rd_readToken 92 = .ok (.iload_n 1, 1) := by decide +kernel
theorem d_Rd_readToken_93 : decode b_Rd_readToken 93 = .ok (.bipush 45, 2) := by decide +kernel
theorem d_Rd_readToken_95 : decode b_Rd_readToken 95 = .ok (.if_icmp .ne 10, 3) := by decide +kernel
theorem d_Rd_readToken_98 : decode b_Rd_readToken 98 = .ok (.aload_n 0, 1) := by decide +kernel
theorem d_Rd_readToken_99 : decode b_Rd_readToken 99 = .ok (.invokevirtual 104, 3) := by decide +kernel
theorem d_Rd_readToken_102 : decode b_Rd_readToken 102 = .ok (.goto 12, 3) := by decide +kernel
theorem d_Rd_readToken_105 : decode b_Rd_readToken 105 = .ok (.aload_n 0, 1) := by decide +kernel
theorem d_Rd_readToken_106 : decode b_Rd_readToken 106 = .ok (.iconst 1, 1) := by decide +kernel
theorem d_Rd_readToken_107 : decode b_Rd_readToken 107 = .ok (.aload_n 0, 1) := by decide +kernel
theorem d_Rd_readToken_108 : decode b_Rd_readToken 108 = .ok (.getfield 18, 3) := by decide +kernel
theorem d_Rd_readToken_111 : decode b_Rd_readToken 111 = .ok (.invokevirtual 44, 3) := by decide +kernel
theorem d_Rd_readToken_114 : decode b_Rd_readToken 114 = .ok (.return_, 1) := by decide +kernel
theorem d_Rd_isLetter_0 : decode b_Rd_isLetter 0 = .ok (.iload_n 0, 1) := by decide +kernel
theorem d_Rd_isLetter_1 : decode b_Rd_isLetter 1 = .ok (.bipush 97, 2) := by decide +kernel
theorem d_Rd_isLetter_3 : decode b_Rd_isLetter 3 = .ok (.if_icmp .lt 13, 3) := by decide +kernel
theorem d_Rd_isLetter_6 : decode b_Rd_isLetter 6 = .ok (.iload_n 0, 1) := by decide +kernel
theorem d_Rd_isLetter_7 : decode b_Rd_isLetter 7 = .ok (.bipush 122, 2) := by decide +kernel
theorem d_Rd_isLetter_9 : decode b_Rd_isLetter 9 = .ok (.if_icmp .gt 7, 3) := by decide +kernel
theorem d_Rd_isLetter_12 : decode b_Rd_isLetter 12 = .ok (.iconst 1, 1) := by decide +kernel
theorem d_Rd_isLetter_13 : decode b_Rd_isLetter 13 = .ok (.goto 4, 3) := by decide +kernel
theorem d_Rd_isLetter_16 : decode b_Rd_isLetter 16 = .ok (.iconst 0, 1) := by decide +kernel
theorem d_Rd_isLetter_17 : decode b_Rd_isLetter 17 = .ok (.ireturn, 1) := by decide +kernel
theorem d_Rd_readName_0 : decode b_Rd_readName 0 = .ok (.aload_n 0, 1) := by decide +kernel
theorem d_Rd_readName_1 : decode b_Rd_readName 1 = .ok (.getfield 9, 3) := by decide +kernel
theorem d_Rd_readName_4 : decode b_Rd_readName 4 = .ok (.sipush 160, 3) := by decide +kernel
theorem d_Rd_readName_7 : decode b_Rd_readName 7 = .ok (.if_icmp .ge 33, 3) := by decide +kernel
theorem d_Rd_readName_10 : decode b_Rd_readName 10 = .ok (.aload_n 0, 1) := by decide +kernel
theorem d_Rd_readName_11 : decode b_Rd_readName 11 = .ok (.getfield 33, 3) := by decide +kernel
theorem d_Rd_readName_14 : decode b_Rd_readName 14 = .ok (.aload_n 0, 1) := by decide +kernel
theorem d_Rd_readName_15 : decode b_Rd_readName 15 = .ok (.getfield 9, 3) := by decide +kernel
theorem d_Rd_readName_18 : decode b_Rd_readName 18 = .ok (.invokevirtual 92, 3) := by decide +kernel
theorem d_Rd_readName_21 : decode b_Rd_readName 21 = .ok (.invokestatic 95, 3) := by decide +kernel
theorem d_Rd_readName_24 : decode b_Rd_readName 24 = .ok (.ifCond .eq 16, 3) := by decide +kernel
theorem d_Rd_readName_27 : decode b_Rd_readName 27 = .ok (.aload_n 0, 1) := by decide +kernel
theorem d_Rd_readName_28 : decode b_Rd_readName 28 = .ok (.dup, 1) := by decide +kernel
theorem d_Rd_readName_29 : decode b_Rd_readName 29 = .ok (.getfield 9, 3) := by decide +kernel
theorem d_Rd_readName_32 : decode b_Rd_readName 32 = .ok (.iconst 1, 1) := by decide +kernel
theorem d_Rd_readName_33 : decode b_Rd_readName 33 = .ok (.iadd, 1) := by decide +kernel
theorem d_Rd_readName_34 : decode b_Rd_readName 34 = .ok (.putfield 9, 3) := by decide +kernel
theorem d_Rd_readName_37 : decode b_Rd_readName 37 = .ok (.goto (-37), 3) := by decide +kernel
theorem d_Rd_readName_40 : decode b_Rd_readName 40 = .ok (.aload_n 0, 1) := by decide +kernel
theorem d_Rd_readName_41 : decode b_Rd_readName 41 = .ok (.iconst 1, 1) := by decide +kernel
theorem d_Rd_readName_42 : decode b_Rd_readName 42 = .ok (.putfield 15, 3) := by decide +kernel
theorem d_Rd_readName_45 : decode b_Rd_readName 45 = .ok (.aload_n 0, 1) := by decide +kernel
theorem d_Rd_readName_46 : decode b_Rd_readName 46 = .ok (.bipush 10, 2) := by decide +kernel
theorem d_Rd_readName_48 : decode b_Rd_readName 48 = .ok (.putfield 21, 3) := by decide +kernel
theorem d_Rd_readName_51 : decode b_Rd_readName 51 = .ok (.iconst 0, 1) := by decide +kernel
theorem d_Rd_readName_52 : decode b_Rd_readName 52 = .ok (.istore_n 1, 1) := by decide +kernel
theorem d_Rd_readName_53 : decode b_Rd_readName 53 = .ok (.iload_n 1, 1) := by decide +kernel
theorem d_Rd_readName_54 : decode b_Rd_readName 54 = .ok (.bipush 10, 2) := by decide +kernel
theorem d_Rd_readName_56 : decode b_Rd_readName 56 = .ok (.if_icmp .ge 103, 3) := by decide +kernel
theorem d_Rd_readName_59 : decode b_Rd_readName 59 = .ok (.iload_n 1, 1) := by decide +kernel
theorem d_Rd_readName_60 : decode b_Rd_readName 60 = .ok (.invokestatic 107, 3) := by decide +kernel
theorem d_Rd_readName_63 : decode b_Rd_readName 63 = .ok (.astore_n 2, 1) := by decide +kernel
theorem d_Rd_readName_64 : decode b_Rd_readName 64 = .ok (.aload_n 2, 1) := by decide +kernel
theorem d_Rd_readName_65 : decode b_Rd_readName 65 = .ok (.invokevirtual 111, 3) := by decide +kernel
theorem d_Rd_readName_68 : decode b_Rd_readName 68 = .ok (.aload_n 0, 1) := by decide +kernel
theorem d_Rd_readName_69 : decode b_Rd_readName 69 = .ok (.getfield 9, 3) := by decide +kernel
theorem d_Rd_readName_72 : decode b_Rd_readName 72 = .ok (.aload_n 0, 1) := by decide +kernel
theorem d_Rd_readName_73 : decode b_Rd_readName 73 = .ok (.getfield 18, 3) := by decide +kernel
theorem d_Rd_readName_76 : decode b_Rd_readName 76 = .ok (.isub, 1) := by decide +kernel
theorem d_Rd_readName_77 : decode b_Rd_readName 77 = .ok (.if_icmp .ne 7, 3) := by decide +kernel
theorem d_Rd_readName_80 : decode b_Rd_readName 80 = .ok (.iconst 1, 1) := by decide +kernel
theorem d_Rd_readName_81 : decode b_Rd_readName 81 = .ok (.goto 4, 3) := by decide +kernel
theorem d_Rd_readName_84 : decode b_Rd_readName 84 = .ok (.iconst 0, 1) := by decide +kernel
theorem d_Rd_readName_85 : decode b_Rd_readName 85 = .ok (.istore_n 3, 1) := by decide +kernel
theorem d_Rd_readName_86 : decode b_Rd_readName 86 = .ok (.iconst 0, 1) := by decide +kernel
theorem d_Rd_readName_87 : decode b_Rd_readName 87 = .ok (.istore 4, 2) := by decide +kernel
theorem d_Rd_readName_89 : decode b_Rd_readName 89 = .ok (.iload_n 3, 1) := by decide +kernel
theorem d_Rd_readName_90 : decode b_Rd_readName 90 = .ok (.ifCond .eq 47, 3) := by decide +kernel
theorem d_Rd_readName_93 : decode b_Rd_readName 93 = .ok (.iload 4, 2) := by decide +kernel
theorem d_Rd_readName_95 : decode b_Rd_readName 95 = .ok (.aload_n 2, 1) := by decide +kernel
theorem d_Rd_readName_96 : decode b_Rd_readName 96 = .ok (.invokevirtual 111, 3) := by decide +kernel
theorem d_Rd_readName_99 : decode b_Rd_readName 99 = .ok (.if_icmp .ge 38, 3) := by decide +kernel
theorem d_Rd_readName_102 : decode b_Rd_readName 102 = .ok (.aload_n 2, 1) := by decide +kernel
theorem d_Rd_readName_103 : decode b_Rd_readName 103 = .ok (.iload 4, 2) := by decide +kernel
theorem d_Rd_readName_105 : decode b_Rd_readName 105 = .ok (.invokevirtual 117, 3) := by decide +kernel
theorem d_Rd_readName_108 : decode b_Rd_readName 108 = .ok (.aload_n 0, 1) := by decide +kernel
theorem d_Rd_readName_109 : decode b_Rd_readName 109 = .ok (.getfield 33, 3) := by decide +kernel
theorem d_Rd_readName_112 : decode b_Rd_readName 112 = .ok (.aload_n 0, 1) := by decide +kernel
theorem d_Rd_readName_113 : decode b_Rd_readName 113 = .ok (.getfield 18, 3) := by decide +kernel
theorem d_Rd_readName_116 : decode b_Rd_readName 116 = .ok (.iload 4, 2) := by decide +kernel
theorem d_Rd_readName_118 : decode b_Rd_readName 118 = .ok (.iadd, 1) := by decide +kernel
theorem d_Rd_readName_119 : decode b_Rd_readName 119 = .ok (.invokevirtual 92, 3) := by decide +kernel
theorem d_Rd_readName_122 : decode b_Rd_readName 122 = .ok (.if_icmp .ne 7, 3) := by decide +kernel
theorem d_Rd_readName_125 : decode b_Rd_readName 125 = .ok (.iconst 1, 1) := by decide +kernel
theorem d_Rd_readName_126 : decode b_Rd_readName 126 = .ok (.goto 4, 3) := by decide +kernel
theorem d_Rd_readName_129 : decode b_Rd_readName 129 = .ok (.iconst 0, 1) := by decide +kernel
theorem d_Rd_readName_130 : decode b_Rd_readName 130 = .ok (.istore_n 3, 1) := by decide +kernel
theorem d_Rd_readName_131 : decode b_Rd_readName 131 = .ok (.iinc 4 1, 3) := by decide +kernel
theorem d_Rd_readName_134 : decode b_Rd_readName 134 = .ok (.goto (-45), 3) := by decide +kernel
theorem d_Rd_readName_137 : decode b_Rd_readName 137 = .ok (.aload_n 0, 1) := by decide +kernel
theorem d_Rd_readName_138 : decode b_Rd_readName 138 = .ok (.iload_n 3, 1) := by decide +kernel
theorem d_Rd_readName_139 : decode b_Rd_readName 139 = .ok (.ifCond .eq 7, 3) := by decide +kernel
theorem d_Rd_readName_142 : decode b_Rd_readName 142 = .ok (.iload_n 1, 1) := by decide +kernel
theorem d_Rd_readName_143 : decode b_Rd_readName 143 = .ok (.goto 7, 3) := by decide +kernel
theorem d_Rd_readName_146 : decode b_Rd_readName 146 = .ok (.aload_n 0, 1) := by decide +kernel
theorem d_Rd_readName_147 : decode b_Rd_readName 147 = .ok (.getfield 21, 3) := by decide +kernel
theorem d_Rd_readName_150 : decode b_Rd_readName 150 = .ok (.putfield 21, 3) := by decide +kernel
theorem d_Rd_readName_153 : decode b_Rd_readName 153 = .ok (.iinc 1 1, 3) := by decide +kernel
theorem d_Rd_readName_156 : decode b_Rd_readName 156 = .ok (.goto (-103), 3) := by decide +kernel
theorem d_Rd_readName_159 : decode b_Rd_readName 159 = .ok (.aload_n 0, 1) := by decide +kernel
theorem d_Rd_readName_160 : decode b_Rd_readName 160 = .ok (.getfield 21, 3) := by decide +kernel
theorem d_Rd_readName_163 : decode b_Rd_readName 163 = .ok (.bipush 10, 2) := by decide +kernel
theorem d_Rd_readName_165 : decode b_Rd_readName 165 = .ok (.if_icmp .ne 12, 3) := by decide +kernel
theorem d_Rd_readName_168 : decode b_Rd_readName 168 = .ok (.aload_n 0, 1) := by decide +kernel
theorem d_Rd_readName_169 : decode b_Rd_readName 169 = .ok (.iconst 1, 1) := by decide +kernel
theorem d_Rd_readName_170 : decode b_Rd_readName 170 = .ok (.aload_n 0, 1) := by decide +kernel
theorem d_Rd_readName_171 : decode b_Rd_readName 171 = .ok (.getfield 18, 3) := by decide +kernel
theorem d_Rd_readName_174 : decode b_Rd_readName 174 = .ok (.invokevirtual 44, 3) := by decide +kernel
theorem d_Rd_readName_177 : decode b_Rd_readName 177 = .ok (.return_, 1) := by decide +kernel
theorem d_Rd_nameOf_0 : decode b_Rd_nameOf 0 = .ok (.iload_n 0, 1) := by decide +kernel
theorem d_Rd_nameOf_1 : decode b_Rd_nameOf 1 = .ok (.tableswitch 78 0 8 #[51, 54, 57, 60, 63, 66, 69, 72, 75], 51) := by decide +kernel
theorem d_Rd_nameOf_52 : decode b_Rd_nameOf 52 = .ok (.ldc 121, 2) := by decide +kernel
theorem d_Rd_nameOf_54 : decode b_Rd_nameOf 54 = .ok (.areturn, 1) := by decide +kernel
theorem d_Rd_nameOf_55 : decode b_Rd_nameOf 55 = .ok (.ldc 123, 2) := by decide +kernel
theorem d_Rd_nameOf_57 : decode b_Rd_nameOf 57 = .ok (.areturn, 1) := by decide +kernel
theorem d_Rd_nameOf_58 : decode b_Rd_nameOf 58 = .ok (.ldc 125, 2) := by decide +kernel
theorem d_Rd_nameOf_60 : decode b_Rd_nameOf 60 = .ok (.areturn, 1) := by decide +kernel
theorem d_Rd_nameOf_61 : decode b_Rd_nameOf 61 = .ok (.ldc 127, 2) := by decide +kernel
theorem d_Rd_nameOf_63 : decode b_Rd_nameOf 63 = .ok (.areturn, 1) := by decide +kernel
theorem d_Rd_nameOf_64 : decode b_Rd_nameOf 64 = .ok (.ldc 129, 2) := by decide +kernel
theorem d_Rd_nameOf_66 : decode b_Rd_nameOf 66 = .ok (.areturn, 1) := by decide +kernel
theorem d_Rd_nameOf_67 : decode b_Rd_nameOf 67 = .ok (.ldc 131, 2) := by decide +kernel
theorem d_Rd_nameOf_69 : decode b_Rd_nameOf 69 = .ok (.areturn, 1) := by decide +kernel
theorem d_Rd_nameOf_70 : decode b_Rd_nameOf 70 = .ok (.ldc 133, 2) := by decide +kernel
theorem d_Rd_nameOf_72 : decode b_Rd_nameOf 72 = .ok (.areturn, 1) := by decide +kernel
theorem d_Rd_nameOf_73 : decode b_Rd_nameOf 73 = .ok (.ldc 135, 2) := by decide +kernel
theorem d_Rd_nameOf_75 : decode b_Rd_nameOf 75 = .ok (.areturn, 1) := by decide +kernel
theorem d_Rd_nameOf_76 : decode b_Rd_nameOf 76 = .ok (.ldc 137, 2) := by decide +kernel
theorem d_Rd_nameOf_78 : decode b_Rd_nameOf 78 = .ok (.areturn, 1) := by decide +kernel
theorem d_Rd_nameOf_79 : decode b_Rd_nameOf 79 = .ok (.ldc 139, 2) := by decide +kernel
theorem d_Rd_nameOf_81 : decode b_Rd_nameOf 81 = .ok (.areturn, 1) := by decide +kernel
theorem d_St_length_0 : decode b_St_length 0 = .ok (.aload_n 0, 1) := by decide +kernel
theorem d_St_length_1 : decode b_St_length 1 = .ok (.getfield 9, 3) := by decide +kernel
theorem d_St_length_4 : decode b_St_length 4 = .ok (.arraylength, 1) := by decide +kernel
theorem d_St_length_5 : decode b_St_length 5 = .ok (.aload_n 0, 1) := by decide +kernel
theorem d_St_length_6 : decode b_St_length 6 = .ok (.invokevirtual 335, 3) := by decide +kernel
theorem d_St_length_9 : decode b_St_length 9 = .ok (.ishr, 1) := by decide +kernel
theorem d_St_length_10 : decode b_St_length 10 = .ok (.ireturn, 1) := by decide +kernel
theorem d_St_coder_0 : decode b_St_coder 0 = .ok (.getstatic 38, 3) := by decide +kernel
theorem d_St_coder_3 : decode b_St_coder 3 = .ok (.ifCond .eq 10, 3) := by decide +kernel
theorem d_St_coder_6 : decode b_St_coder 6 = .ok (.aload_n 0, 1) := by decide +kernel
theorem d_St_coder_7 : decode b_St_coder 7 = .ok (.getfield 15, 3) := by decide +kernel
theorem d_St_coder_10 : decode b_St_coder 10 = .ok (.goto 4, 3) := by decide +kernel
theorem d_St_coder_13 : decode b_St_coder 13 = .ok (.iconst 1, 1) := by decide +kernel
theorem d_St_coder_14 : decode b_St_coder 14 = .ok (.ireturn, 1) := by decide +kernel
theorem d_St_charAt_0 : decode b_St_charAt 0 = .ok (.aload_n 0, 1) := by decide +kernel
theorem d_St_charAt_1 : decode b_St_charAt 1 = .ok (.invokevirtual 492, 3) := by decide +kernel
theorem d_St_charAt_4 : decode b_St_charAt 4 = .ok (.ifCond .eq 12, 3) := by decide +kernel
theorem d_St_charAt_7 : decode b_St_charAt 7 = .ok (.aload_n 0, 1) := by decide +kernel
theorem d_St_charAt_8 : decode b_St_charAt 8 = .ok (.getfield 9, 3) := by decide +kernel
theorem d_St_charAt_11 : decode b_St_charAt 11 = .ok (.iload_n 1, 1) := by decide +kernel
theorem d_St_charAt_12 : decode b_St_charAt 12 = .ok (.invokestatic 495, 3) := by decide +kernel
theorem d_St_charAt_15 : decode b_St_charAt 15 = .ok (.ireturn, 1) := by decide +kernel
theorem d_St_charAt_16 : decode b_St_charAt 16 = .ok (.aload_n 0, 1) := by decide +kernel
theorem d_St_charAt_17 : decode b_St_charAt 17 = .ok (.getfield 9, 3) := by decide +kernel
theorem d_St_charAt_20 : decode b_St_charAt 20 = .ok (.iload_n 1, 1) := by decide +kernel
theorem d_St_charAt_21 : decode b_St_charAt 21 = .ok (.invokestatic 498, 3) := by decide +kernel
theorem d_St_charAt_24 : decode b_St_charAt 24 = .ok (.ireturn, 1) := by decide +kernel
theorem d_St_isLatin1_0 : decode b_St_isLatin1 0 = .ok (.getstatic 38, 3) := by decide +kernel
theorem d_St_isLatin1_3 : decode b_St_isLatin1 3 = .ok (.ifCond .eq 14, 3) := by decide +kernel
theorem d_St_isLatin1_6 : decode b_St_isLatin1 6 = .ok (.aload_n 0, 1) := by decide +kernel
theorem d_St_isLatin1_7 : decode b_St_isLatin1 7 = .ok (.getfield 15, 3) := by decide +kernel
theorem d_St_isLatin1_10 : decode b_St_isLatin1 10 = .ok (.ifCond .ne 7, 3) := by decide +kernel
theorem d_St_isLatin1_13 : decode b_St_isLatin1 13 = .ok (.iconst 1, 1) := by decide +kernel
theorem d_St_isLatin1_14 : decode b_St_isLatin1 14 = .ok (.goto 4, 3) := by decide +kernel
theorem d_St_isLatin1_17 : decode b_St_isLatin1 17 = .ok (.iconst 0, 1) := by decide +kernel
theorem d_St_isLatin1_18 : decode b_St_isLatin1 18 = .ok (.ireturn, 1) := by decide +kernel
theorem d_S1_charAt_0 : decode b_S1_charAt 0 = .ok (.iload_n 1, 1) := by decide +kernel
theorem d_S1_charAt_1 : decode b_S1_charAt 1 = .ok (.aload_n 0, 1) := by decide +kernel
theorem d_S1_charAt_2 : decode b_S1_charAt 2 = .ok (.arraylength, 1) := by decide +kernel
theorem d_S1_charAt_3 : decode b_S1_charAt 3 = .ok (.invokestatic 9, 3) := by decide +kernel
theorem d_S1_charAt_6 : decode b_S1_charAt 6 = .ok (.aload_n 0, 1) := by decide +kernel
theorem d_S1_charAt_7 : decode b_S1_charAt 7 = .ok (.iload_n 1, 1) := by decide +kernel
theorem d_S1_charAt_8 : decode b_S1_charAt 8 = .ok (.baload, 1) := by decide +kernel
theorem d_S1_charAt_9 : decode b_S1_charAt 9 = .ok (.sipush 255, 3) := by decide +kernel
theorem d_S1_charAt_12 : decode b_S1_charAt 12 = .ok (.iand, 1) := by decide +kernel
theorem d_S1_charAt_13 : decode b_S1_charAt 13 = .ok (.i2c, 1) := by decide +kernel
theorem d_S1_charAt_14 : decode b_S1_charAt 14 = .ok (.ireturn, 1) := by decide +kernel
theorem d_St_checkIndex_0 : decode b_St_checkIndex 0 = .ok (.iload_n 0, 1) := by decide +kernel
theorem d_St_checkIndex_1 : decode b_St_checkIndex 1 = .ok (.iload_n 1, 1) := by decide +kernel
theorem d_St_checkIndex_2 : decode b_St_checkIndex 2 = .ok (.getstatic 1053, 3) := by decide +kernel
theorem d_St_checkIndex_5 : decode b_St_checkIndex 5 = .ok (.invokestatic 1059, 3) := by decide +kernel
theorem d_St_checkIndex_8 : decode b_St_checkIndex 8 = .ok (.pop, 1) := by decide +kernel
theorem d_St_checkIndex_9 : decode b_St_checkIndex 9 = .ok (.return_, 1) := by decide +kernel
theorem d_Pr_checkIndex_0 : decode b_Pr_checkIndex 0 = .ok (.iload_n 0, 1) := by decide +kernel
theorem d_Pr_checkIndex_1 : decode b_Pr_checkIndex 1 = .ok (.ifCond .lt 8, 3) := by decide +kernel
theorem d_Pr_checkIndex_4 : decode b_Pr_checkIndex 4 = .ok (.iload_n 0, 1) := by decide +kernel
theorem d_Pr_checkIndex_5 : decode b_Pr_checkIndex 5 = .ok (.iload_n 1, 1) := by decide +kernel
theorem d_Pr_checkIndex_6 : decode b_Pr_checkIndex 6 = .ok (.if_icmp .lt 10, 3) := by decide +kernel
theorem d_Pr_checkIndex_9 : decode b_Pr_checkIndex 9 = .ok (.aload_n 2, 1) := by decide +kernel
theorem d_Pr_checkIndex_10 : decode b_Pr_checkIndex 10 = .ok (.iload_n 0, 1) := by decide +kernel
theorem d_Pr_checkIndex_11 : decode b_Pr_checkIndex 11 = .ok (.iload_n 1, 1) := by decide +kernel
theorem d_Pr_checkIndex_12 : decode b_Pr_checkIndex 12 = .ok (.invokestatic 95, 3) := by decide +kernel
theorem d_Pr_checkIndex_15 : decode b_Pr_checkIndex 15 = .ok (.athrow, 1) := by decide +kernel
theorem d_Pr_checkIndex_16 : decode b_Pr_checkIndex 16 = .ok (.iload_n 0, 1) := by decide +kernel
theorem d_Pr_checkIndex_17 : decode b_Pr_checkIndex 17 = .ok (.ireturn, 1) := by decide +kernel
theorem d_Rd_fail_0 : decode b_Rd_fail 0 = .ok (.aload_n 0, 1) := by decide +kernel
theorem d_Rd_fail_1 : decode b_Rd_fail 1 = .ok (.iload_n 1, 1) := by decide +kernel
theorem d_Rd_fail_2 : decode b_Rd_fail 2 = .ok (.putfield 27, 3) := by decide +kernel
theorem d_Rd_fail_5 : decode b_Rd_fail 5 = .ok (.aload_n 0, 1) := by decide +kernel
theorem d_Rd_fail_6 : decode b_Rd_fail 6 = .ok (.iload_n 2, 1) := by decide +kernel
theorem d_Rd_fail_7 : decode b_Rd_fail 7 = .ok (.putfield 30, 3) := by decide +kernel
theorem d_Rd_fail_10 : decode b_Rd_fail 10 = .ok (.return_, 1) := by decide +kernel
theorem d_Rd_isFigure_0 : decode b_Rd_isFigure 0 = .ok (.iload_n 0, 1) := by decide +kernel
theorem d_Rd_isFigure_1 : decode b_Rd_isFigure 1 = .ok (.bipush 48, 2) := by decide +kernel
theorem d_Rd_isFigure_3 : decode b_Rd_isFigure 3 = .ok (.if_icmp .lt 13, 3) := by decide +kernel
theorem d_Rd_isFigure_6 : decode b_Rd_isFigure 6 = .ok (.iload_n 0, 1) := by decide +kernel
theorem d_Rd_isFigure_7 : decode b_Rd_isFigure 7 = .ok (.bipush 57, 2) := by decide +kernel
theorem d_Rd_isFigure_9 : decode b_Rd_isFigure 9 = .ok (.if_icmp .gt 7, 3) := by decide +kernel
theorem d_Rd_isFigure_12 : decode b_Rd_isFigure 12 = .ok (.iconst 1, 1) := by decide +kernel
theorem d_Rd_isFigure_13 : decode b_Rd_isFigure 13 = .ok (.goto 4, 3) := by decide +kernel
theorem d_Rd_isFigure_16 : decode b_Rd_isFigure 16 = .ok (.iconst 0, 1) := by decide +kernel
theorem d_Rd_isFigure_17 : decode b_Rd_isFigure 17 = .ok (.ireturn, 1) := by decide +kernel
theorem d_Rd_readFigures_0 : decode b_Rd_readFigures 0 = .ok (.aload_n 0, 1) := by decide +kernel
theorem d_Rd_readFigures_1 : decode b_Rd_readFigures 1 = .ok (.getfield 33, 3) := by decide +kernel
theorem d_Rd_readFigures_4 : decode b_Rd_readFigures 4 = .ok (.aload_n 0, 1) := by decide +kernel
theorem d_Rd_readFigures_5 : decode b_Rd_readFigures 5 = .ok (.getfield 9, 3) := by decide +kernel
theorem d_Rd_readFigures_8 : decode b_Rd_readFigures 8 = .ok (.invokevirtual 92, 3) := by decide +kernel
theorem d_Rd_readFigures_11 : decode b_Rd_readFigures 11 = .ok (.bipush 45, 2) := by decide +kernel
theorem d_Rd_readFigures_13 : decode b_Rd_readFigures 13 = .ok (.if_icmp .ne 7, 3) := by decide +kernel
theorem d_Rd_readFigures_16 : decode b_Rd_readFigures 16 = .ok (.iconst 1, 1) := by decide +kernel
theorem d_Rd_readFigures_17 : decode b_Rd_readFigures 17 = .ok (.goto 4, 3) := by decide +kernel
theorem d_Rd_readFigures_20 : decode b_Rd_readFigures 20 = .ok (.iconst 0, 1) := by decide +kernel
theorem d_Rd_readFigures_21 : decode b_Rd_readFigures 21 = .ok (.istore_n 1, 1) := by decide +kernel
theorem d_Rd_readFigures_22 : decode b_Rd_readFigures 22 = .ok (.iload_n 1, 1) := by decide +kernel
theorem d_Rd_readFigures_23 : decode b_Rd_readFigures 23 = .ok (.ifCond .eq 12, 3) := by decide +kernel
theorem d_Rd_readFigures_26 : decode b_Rd_readFigures 26 = .ok (.aload_n 0, 1) := by decide +kernel
theorem d_Rd_readFigures_27 : decode b_Rd_readFigures 27 = .ok (.getfield 9, 3) := by decide +kernel
theorem d_Rd_readFigures_30 : decode b_Rd_readFigures 30 = .ok (.iconst 1, 1) := by decide +kernel
theorem d_Rd_readFigures_31 : decode b_Rd_readFigures 31 = .ok (.iadd, 1) := by decide +kernel
theorem d_Rd_readFigures_32 : decode b_Rd_readFigures 32 = .ok (.goto 7, 3) := by decide +kernel
theorem d_Rd_readFigures_35 : decode b_Rd_readFigures 35 = .ok (.aload_n 0, 1) := by decide +kernel
theorem d_Rd_readFigures_36 : decode b_Rd_readFigures 36 = .ok (.getfield 9, 3) := by decide +kernel
theorem d_Rd_readFigures_39 : decode b_Rd_readFigures 39 = .ok (.istore_n 2, 1) := by decide +kernel
theorem d_Rd_readFigures_40 : decode b_Rd_readFigures 40 = .ok (.iconst 0, 1) := by decide +kernel
theorem d_Rd_readFigures_41 : decode b_Rd_readFigures 41 = .ok (.istore_n 3, 1) := by decide +kernel
theorem d_Rd_readFigures_42 : decode b_Rd_readFigures 42 = .ok (.aload_n 0, 1) := by decide +kernel
theorem d_Rd_readFigures_43 : decode b_Rd_readFigures 43 = .ok (.iload_n 2, 1) := by decide +kernel
theorem d_Rd_readFigures_44 : decode b_Rd_readFigures 44 = .ok (.putfield 9, 3) := by decide +kernel
theorem d_Rd_readFigures_47 : decode b_Rd_readFigures 47 = .ok (.aload_n 0, 1) := by decide +kernel
theorem d_Rd_readFigures_48 : decode b_Rd_readFigures 48 = .ok (.getfield 9, 3) := by decide +kernel
theorem d_Rd_readFigures_51 : decode b_Rd_readFigures 51 = .ok (.sipush 160, 3) := by decide +kernel
theorem d_Rd_readFigures_54 : decode b_Rd_readFigures 54 = .ok (.if_icmp .ge 67, 3) := by decide +kernel
theorem d_Rd_readFigures_57 : decode b_Rd_readFigures 57 = .ok (.aload_n 0, 1) := by decide +kernel
theorem d_Rd_readFigures_58 : decode b_Rd_readFigures 58 = .ok (.getfield 33, 3) := by decide +kernel
theorem d_Rd_readFigures_61 : decode b_Rd_readFigures 61 = .ok (.aload_n 0, 1) := by decide +kernel
theorem d_Rd_readFigures_62 : decode b_Rd_readFigures 62 = .ok (.getfield 9, 3) := by decide +kernel
theorem d_Rd_readFigures_65 : decode b_Rd_readFigures 65 = .ok (.invokevirtual 92, 3) := by decide +kernel
theorem d_Rd_readFigures_68 : decode b_Rd_readFigures 68 = .ok (.invokestatic 101, 3) := by decide +kernel
theorem d_Rd_readFigures_71 : decode b_Rd_readFigures 71 = .ok (.ifCond .eq 50, 3) := by decide +kernel
theorem d_Rd_readFigures_74 : decode b_Rd_readFigures 74 = .ok (.aload_n 0, 1) := by decide +kernel
theorem d_Rd_readFigures_75 : decode b_Rd_readFigures 75 = .ok (.getfield 9, 3) := by decide +kernel
theorem d_Rd_readFigures_78 : decode b_Rd_readFigures 78 = .ok (.iload_n 2, 1) := by decide +kernel
theorem d_Rd_readFigures_79 : decode b_Rd_readFigures 79 = .ok (.isub, 1) := by decide +kernel
theorem d_Rd_readFigures_80 : decode b_Rd_readFigures 80 = .ok (.iconst 2, 1) := by decide +kernel
theorem d_Rd_readFigures_81 : decode b_Rd_readFigures 81 = .ok (.if_icmp .ge 25, 3) := by decide +kernel
theorem d_Rd_readFigures_84 : decode b_Rd_readFigures 84 = .ok (.iload_n 3, 1) := by decide +kernel
theorem d_Rd_readFigures_85 : decode b_Rd_readFigures 85 = .ok (.bipush 10, 2) := by decide +kernel
theorem d_Rd_readFigures_87 : decode b_Rd_readFigures 87 = .ok (.imul, 1) := by decide +kernel
theorem d_Rd_readFigures_88 : decode b_Rd_readFigures 88 = .ok (.aload_n 0, 1) := by decide +kernel
theorem d_Rd_readFigures_89 : decode b_Rd_readFigures 89 = .ok (.getfield 33, 3) := by decide +kernel
theorem d_Rd_readFigures_92 : decode b_Rd_readFigures 92 = .ok (.aload_n 0, 1) := by decide +kernel
theorem d_Rd_readFigures_93 : decode b_Rd_readFigures 93 = .ok (.getfield 9, 3) := by decide +kernel
theorem d_Rd_readFigures_96 : decode b_Rd_readFigures 96 = .ok (.invokevirtual 92, 3) := by decide +kernel
theorem d_Rd_readFigures_99 : decode b_Rd_readFigures 99 = .ok (.bipush 48, 2) := by decide +kernel
theorem d_Rd_readFigures_101 : decode b_Rd_readFigures 101 = .ok (.isub, 1) := by decide +kernel
theorem d_Rd_readFigures_102 : decode b_Rd_readFigures 102 = .ok (.iadd, 1) := by decide +kernel
theorem d_Rd_readFigures_103 : decode b_Rd_readFigures 103 = .ok (.goto 4, 3) := by decide +kernel
theorem d_Rd_readFigures_106 : decode b_Rd_readFigures 106 = .ok (.iload_n 3, 1) := by decide +kernel
theorem d_Rd_readFigures_107 : decode b_Rd_readFigures 107 = .ok (.istore_n 3, 1) := by decide +kernel
theorem d_Rd_readFigures_108 : decode b_Rd_readFigures 108 = .ok (.aload_n 0, 1) := by decide +kernel
theorem d_Rd_readFigures_109 : decode b_Rd_readFigures 109 = .ok (.dup, 1) := by decide +kernel
theorem d_Rd_readFigures_110 : decode b_Rd_readFigures 110 = .ok (.getfield 9, 3) := by decide +kernel
theorem d_Rd_readFigures_113 : decode b_Rd_readFigures 113 = .ok (.iconst 1, 1) := by decide +kernel
theorem d_Rd_readFigures_114 : decode b_Rd_readFigures 114 = .ok (.iadd, 1) := by decide +kernel
theorem d_Rd_readFigures_115 : decode b_Rd_readFigures 115 = .ok (.putfield 9, 3) := by decide +kernel
theorem d_Rd_readFigures_118 : decode b_Rd_readFigures 118 = .ok (.goto (-71), 3) := by decide +kernel
theorem d_Rd_readFigures_121 : decode b_Rd_readFigures 121 = .ok (.aload_n 0, 1) := by decide +kernel
theorem d_Rd_readFigures_122 : decode b_Rd_readFigures 122 = .ok (.iconst 2, 1) := by decide +kernel
theorem d_Rd_readFigures_123 : decode b_Rd_readFigures 123 = .ok (.putfield 15, 3) := by decide +kernel
theorem d_Rd_readFigures_126 : decode b_Rd_readFigures 126 = .ok (.aload_n 0, 1) := by decide +kernel
theorem d_Rd_readFigures_127 : decode b_Rd_readFigures 127 = .ok (.iload_n 1, 1) := by decide +kernel
theorem d_Rd_readFigures_128 : decode b_Rd_readFigures 128 = .ok (.ifCond .eq 8, 3) := by decide +kernel
theorem d_Rd_readFigures_131 : decode b_Rd_readFigures 131 = .ok (.iload_n 3, 1) := by decide +kernel
theorem d_Rd_readFigures_132 : decode b_Rd_readFigures 132 = .ok (.ineg, 1) := by decide +kernel
theorem d_Rd_readFigures_133 : decode b_Rd_readFigures 133 = .ok (.goto 4, 3) := by decide +kernel
theorem d_Rd_readFigures_136 : decode b_Rd_readFigures 136 = .ok (.iload_n 3, 1) := by decide +kernel
theorem d_Rd_readFigures_137 : decode b_Rd_readFigures 137 = .ok (.putfield 21, 3) := by decide +kernel
theorem d_Rd_readFigures_140 : decode b_Rd_readFigures 140 = .ok (.aload_n 0, 1) := by decide +kernel
theorem d_Rd_readFigures_141 : decode b_Rd_readFigures 141 = .ok (.getfield 9, 3) := by decide +kernel
theorem d_Rd_readFigures_144 : decode b_Rd_readFigures 144 = .ok (.iload_n 2, 1) := by decide +kernel
theorem d_Rd_readFigures_145 : decode b_Rd_readFigures 145 = .ok (.if_icmp .eq 13, 3) := by decide +kernel
theorem d_Rd_readFigures_148 : decode b_Rd_readFigures 148 = .ok (.aload_n 0, 1) := by decide +kernel
theorem d_Rd_readFigures_149 : decode b_Rd_readFigures 149 = .ok (.getfield 9, 3) := by decide +kernel
theorem d_Rd_readFigures_152 : decode b_Rd_readFigures 152 = .ok (.iload_n 2, 1) := by decide +kernel
theorem d_Rd_readFigures_153 : decode b_Rd_readFigures 153 = .ok (.isub, 1) := by decide +kernel
theorem d_Rd_readFigures_154 : decode b_Rd_readFigures 154 = .ok (.iconst 2, 1) := by decide +kernel
theorem d_Rd_readFigures_155 : decode b_Rd_readFigures 155 = .ok (.if_icmp .le 12, 3) := by decide +kernel
theorem d_Rd_readFigures_158 : decode b_Rd_readFigures 158 = .ok (.aload_n 0, 1) := by decide +kernel
theorem d_Rd_readFigures_159 : decode b_Rd_readFigures 159 = .ok (.iconst 1, 1) := by decide +kernel
theorem d_Rd_readFigures_160 : decode b_Rd_readFigures 160 = .ok (.aload_n 0, 1) := by decide +kernel
theorem d_Rd_readFigures_161 : decode b_Rd_readFigures 161 = .ok (.getfield 18, 3) := by decide +kernel
theorem d_Rd_readFigures_164 : decode b_Rd_readFigures 164 = .ok (.invokevirtual 44, 3) := by decide +kernel
theorem d_Rd_readFigures_167 : decode b_Rd_readFigures 167 = .ok (.return_, 1) := by decide +kernel
theorem d_Rd_readText_0 : decode b_Rd_readText 0 = .ok (.aload_n 0, 1) := by decide +kernel
theorem d_Rd_readText_1 : decode b_Rd_readText 1 = .ok (.getfield 27, 3) := by decide +kernel
theorem d_Rd_readText_4 : decode b_Rd_readText 4 = .ok (.ifCond .ne 18, 3) := by decide +kernel
theorem d_Rd_readText_7 : decode b_Rd_readText 7 = .ok (.iload_n 1, 1) := by decide +kernel
theorem d_Rd_readText_8 : decode b_Rd_readText 8 = .ok (.bipush 10, 2) := by decide +kernel
theorem d_Rd_readText_10 : decode b_Rd_readText 10 = .ok (.if_icmp .le 12, 3) := by decide +kernel
theorem d_Rd_readText_13 : decode b_Rd_readText 13 = .ok (.aload_n 0, 1) := by decide +kernel
theorem d_Rd_readText_14 : decode b_Rd_readText 14 = .ok (.iconst 4, 1) := by decide +kernel
theorem d_Rd_readText_15 : decode b_Rd_readText 15 = .ok (.aload_n 0, 1) := by decide +kernel
theorem d_Rd_readText_16 : decode b_Rd_readText 16 = .ok (.getfield 18, 3) := by decide +kernel
theorem d_Rd_readText_19 : decode b_Rd_readText 19 = .ok (.invokevirtual 44, 3) := by decide +kernel
theorem d_Rd_readText_22 : decode b_Rd_readText 22 = .ok (.aload_n 0, 1) := by decide +kernel
theorem d_Rd_readText_23 : decode b_Rd_readText 23 = .ok (.getfield 27, 3) := by decide +kernel
theorem d_Rd_readText_26 : decode b_Rd_readText 26 = .ok (.ifCond .ne 20, 3) := by decide +kernel
theorem d_Rd_readText_29 : decode b_Rd_readText 29 = .ok (.aload_n 0, 1) := by decide +kernel
theorem d_Rd_readText_30 : decode b_Rd_readText 30 = .ok (.getfield 15, 3) := by decide +kernel
theorem d_Rd_readText_33 : decode b_Rd_readText 33 = .ok (.iconst 1, 1) := by decide +kernel
theorem d_Rd_readText_34 : decode b_Rd_readText 34 = .ok (.if_icmp .eq 12, 3) := by decide +kernel
theorem d_Rd_readText_37 : decode b_Rd_readText 37 = .ok (.aload_n 0, 1) := by decide +kernel
theorem d_Rd_readText_38 : decode b_Rd_readText 38 = .ok (.iconst 2, 1) := by decide +kernel
theorem d_Rd_readText_39 : decode b_Rd_readText 39 = .ok (.aload_n 0, 1) := by decide +kernel
theorem d_Rd_readText_40 : decode b_Rd_readText 40 = .ok (.getfield 18, 3) := by decide +kernel
theorem d_Rd_readText_43 : decode b_Rd_readText 43 = .ok (.invokevirtual 44, 3) := by decide +kernel
theorem d_Rd_readText_46 : decode b_Rd_readText 46 = .ok (.aload_n 0, 1) := by decide +kernel
theorem d_Rd_readText_47 : decode b_Rd_readText 47 = .ok (.getfield 27, 3) := by decide +kernel
theorem d_Rd_readText_50 : decode b_Rd_readText 50 = .ok (.ifCond .eq 5, 3) := by decide +kernel
theorem d_Rd_readText_53 : decode b_Rd_readText 53 = .ok (.aconst_null, 1) := by decide +kernel
theorem d_Rd_readText_54 : decode b_Rd_readText 54 = .ok (.areturn, 1) := by decide +kernel
theorem d_Rd_readText_55 : decode b_Rd_readText 55 = .ok (.aload_n 0, 1) := by decide +kernel
theorem d_Rd_readText_56 : decode b_Rd_readText 56 = .ok (.getfield 21, 3) := by decide +kernel
theorem d_Rd_readText_59 : decode b_Rd_readText 59 = .ok (.istore_n 2, 1) := by decide +kernel
theorem d_Rd_readText_60 : decode b_Rd_readText 60 = .ok (.aload_n 0, 1) := by decide +kernel
theorem d_Rd_readText_61 : decode b_Rd_readText 61 = .ok (.dup, 1) := by decide +kernel
theorem d_Rd_readText_62 : decode b_Rd_readText 62 = .ok (.getfield 24, 3) := by decide +kernel
theorem d_Rd_readText_65 : decode b_Rd_readText 65 = .ok (.iconst 1, 1) := by decide +kernel
theorem d_Rd_readText_66 : decode b_Rd_readText 66 = .ok (.iadd, 1) := by decide +kernel
theorem d_Rd_readText_67 : decode b_Rd_readText 67 = .ok (.putfield 24, 3) := by decide +kernel
theorem d_Rd_readText_70 : decode b_Rd_readText 70 = .ok (.aload_n 0, 1) := by decide +kernel
theorem d_Rd_readText_71 : decode b_Rd_readText 71 = .ok (.invokevirtual 37, 3) := by decide +kernel
theorem d_Rd_readText_74 : decode b_Rd_readText 74 = .ok (.bipush 6, 2) := by decide +kernel
theorem d_Rd_readText_76 : decode b_Rd_readText 76 = .ok (.newarray .int, 2) := by decide +kernel
theorem d_Rd_readText_78 : decode b_Rd_readText 78 = .ok (.astore_n 3, 1) := by decide +kernel
theorem d_Rd_readText_79 : decode b_Rd_readText 79 = .ok (.iconst 0, 1) := by decide +kernel
theorem d_Rd_readText_80 : decode b_Rd_readText 80 = .ok (.istore 4, 2) := by decide +kernel
theorem d_Rd_readText_82 : decode b_Rd_readText 82 = .ok (.iload 4, 2) := by decide +kernel
theorem d_Rd_readText_84 : decode b_Rd_readText 84 = .ok (.bipush 6, 2) := by decide +kernel
theorem d_Rd_readText_86 : decode b_Rd_readText 86 = .ok (.if_icmp .ge 58, 3) := by decide +kernel
theorem d_Rd_readText_89 : decode b_Rd_readText 89 = .ok (.iload 4, 2) := by decide +kernel
theorem d_Rd_readText_91 : decode b_Rd_readText 91 = .ok (.iload_n 2, 1) := by decide +kernel
theorem d_Rd_readText_92 : decode b_Rd_readText 92 = .ok (.invokestatic 48, 3) := by decide +kernel
theorem d_Rd_readText_95 : decode b_Rd_readText 95 = .ok (.if_icmp .ge 49, 3) := by decide +kernel
theorem d_Rd_readText_98 : decode b_Rd_readText 98 = .ok (.iload_n 2, 1) := by decide +kernel
theorem d_Rd_readText_99 : decode b_Rd_readText 99 = .ok (.iconst 1, 1) := by decide +kernel
theorem d_Rd_readText_100 : decode b_Rd_readText 100 = .ok (.if_icmp .ne 18, 3) := by decide +kernel
theorem d_Rd_readText_103 : decode b_Rd_readText 103 = .ok (.iload 4, 2) := by decide +kernel
theorem d_Rd_readText_105 : decode b_Rd_readText 105 = .ok (.iconst 3, 1) := by decide +kernel
theorem d_Rd_readText_106 : decode b_Rd_readText 106 = .ok (.if_icmp .lt 12, 3) := by decide +kernel
theorem d_Rd_readText_109 : decode b_Rd_readText 109 = .ok (.aload_n 3, 1) := by decide +kernel
theorem d_Rd_readText_110 : decode b_Rd_readText 110 = .ok (.iload 4, 2) := by decide +kernel
theorem d_Rd_readText_112 : decode b_Rd_readText 112 = .ok (.iconst 3, 1) := by decide +kernel
theorem d_Rd_readText_113 : decode b_Rd_readText 113 = .ok (.isub, 1) := by decide +kernel
theorem d_Rd_readText_114 : decode b_Rd_readText 114 = .ok (.iaload, 1) := by decide +kernel
theorem d_Rd_readText_115 : decode b_Rd_readText 115 = .ok (.goto 9, 3) := by decide +kernel
theorem d_Rd_readText_118 : decode b_Rd_readText 118 = .ok (.iload_n 2, 1) := by decide +kernel
theorem d_Rd_readText_119 : decode b_Rd_readText 119 = .ok (.iload 4, 2) := by decide +kernel
theorem d_Rd_readText_121 : decode b_Rd_readText 121 = .ok (.invokestatic 52, 3) := by decide +kernel
theorem d_Rd_readText_124 : decode b_Rd_readText 124 = .ok (.istore 5, 2) := by decide +kernel
theorem d_Rd_readText_126 : decode b_Rd_readText 126 = .ok (.aload_n 3, 1) := by decide +kernel
theorem d_Rd_readText_127 : decode b_Rd_readText 127 = .ok (.iload 4, 2) := by decide +kernel
theorem d_Rd_readText_129 : decode b_Rd_readText 129 = .ok (.aload_n 0, 1) := by decide +kernel
theorem d_Rd_readText_130 : decode b_Rd_readText 130 = .ok (.iload 5, 2) := by decide +kernel
theorem d_Rd_readText_132 : decode b_Rd_readText 132 = .ok (.bipush 20, 2) := by decide +kernel
theorem d_Rd_readText_134 : decode b_Rd_readText 134 = .ok (.invokevirtual 56, 3) := by decide +kernel
theorem d_Rd_readText_137 : decode b_Rd_readText 137 = .ok (.iastore, 1) := by decide +kernel
theorem d_Rd_readText_138 : decode b_Rd_readText 138 = .ok (.iinc 4 1, 3) := by decide +kernel
theorem d_Rd_readText_141 : decode b_Rd_readText 141 = .ok (.goto (-59), 3) := by decide +kernel
theorem d_Rd_readText_144 : decode b_Rd_readText 144 = .ok (.iload_n 2, 1) := by decide +kernel
theorem d_Rd_readText_145 : decode b_Rd_readText 145 = .ok (.iconst 3, 1) := by decide +kernel
theorem d_Rd_readText_146 : decode b_Rd_readText 146 = .ok (.if_icmp .lt 13, 3) := by decide +kernel
theorem d_Rd_readText_149 : decode b_Rd_readText 149 = .ok (.aload_n 0, 1) := by decide +kernel
theorem d_Rd_readText_150 : decode b_Rd_readText 150 = .ok (.iload_n 1, 1) := by decide +kernel
theorem d_Rd_readText_151 : decode b_Rd_readText 151 = .ok (.iconst 1, 1) := by decide +kernel
theorem d_Rd_readText_152 : decode b_Rd_readText 152 = .ok (.iadd, 1) := by decide +kernel
theorem d_Rd_readText_153 : decode b_Rd_readText 153 = .ok (.invokevirtual 40, 3) := by decide +kernel
theorem d_Rd_readText_156 : decode b_Rd_readText 156 = .ok (.goto 4, 3) := by decide +kernel
theorem d_Rd_readText_159 : decode b_Rd_readText 159 = .ok (.aconst_null, 1) := by decide +kernel
theorem d_Rd_readText_160 : decode b_Rd_readText 160 = .ok (.astore 4, 2) := by decide +kernel
theorem d_Rd_readText_162 : decode b_Rd_readText 162 = .ok (.iload_n 2, 1) := by decide +kernel
theorem d_Rd_readText_163 : decode b_Rd_readText 163 = .ok (.invokestatic 59, 3) := by decide +kernel
theorem d_Rd_readText_166 : decode b_Rd_readText 166 = .ok (.ifCond .eq 13, 3) := by decide +kernel
theorem d_Rd_readText_169 : decode b_Rd_readText 169 = .ok (.aload_n 0, 1) := by decide +kernel
theorem d_Rd_readText_170 : decode b_Rd_readText 170 = .ok (.iload_n 1, 1) := by decide +kernel
theorem d_Rd_readText_171 : decode b_Rd_readText 171 = .ok (.iconst 1, 1) := by decide +kernel
theorem d_Rd_readText_172 : decode b_Rd_readText 172 = .ok (.iadd, 1) := by decide +kernel
theorem d_Rd_readText_173 : decode b_Rd_readText 173 = .ok (.invokevirtual 40, 3) := by decide +kernel
theorem d_Rd_readText_176 : decode b_Rd_readText 176 = .ok (.goto 4, 3) := by decide +kernel
theorem d_Rd_readText_179 : decode b_Rd_readText 179 = .ok (.aconst_null, 1) := by decide +kernel
theorem d_Rd_readText_180 : decode b_Rd_readText 180 = .ok (.astore 5, 2) := by decide +kernel
theorem d_Rd_readText_182 : decode b_Rd_readText 182 = .ok (.aload_n 0, 1) := by decide +kernel
theorem d_Rd_readText_183 : decode b_Rd_readText 183 = .ok (.getfield 27, 3) := by decide +kernel
theorem d_Rd_readText_186 : decode b_Rd_readText 186 = .ok (.ifCond .ne 15, 3) := by decide +kernel
theorem d_Rd_readText_189 : decode b_Rd_readText 189 = .ok (.iload_n 2, 1) := by decide +kernel
theorem d_Rd_readText_190 : decode b_Rd_readText 190 = .ok (.aload_n 3, 1) := by decide +kernel
theorem d_Rd_readText_191 : decode b_Rd_readText 191 = .ok (.aload 4, 2) := by decide +kernel
theorem d_Rd_readText_193 : decode b_Rd_readText 193 = .ok (.aload 5, 2) := by decide +kernel
theorem d_Rd_readText_195 : decode b_Rd_readText 195 = .ok (.invokestatic 63, 3) := by decide +kernel
theorem d_Rd_readText_198 : decode b_Rd_readText 198 = .ok (.goto 4, 3) := by decide +kernel
theorem d_Rd_readText_201 : decode b_Rd_readText 201 = .ok (.aconst_null, 1) := by decide +kernel
theorem d_Rd_readText_202 : decode b_Rd_readText 202 = .ok (.areturn, 1) := by decide +kernel
theorem d_Rd_numberCount_0 : decode b_Rd_numberCount 0 = .ok (.iload_n 0, 1) := by decide +kernel
theorem d_Rd_numberCount_1 : decode b_Rd_numberCount 1 = .ok (.tableswitch 64 0 9 #[58, 55, 58, 64, 64, 64, 60, 64, 64, 62], 55) := by decide +kernel
theorem d_Rd_numberCount_56 : decode b_Rd_numberCount 56 = .ok (.bipush 6, 2) := by decide +kernel
theorem d_Rd_numberCount_58 : decode b_Rd_numberCount 58 = .ok (.ireturn, 1) := by decide +kernel
theorem d_Rd_numberCount_59 : decode b_Rd_numberCount 59 = .ok (.iconst 4, 1) := by decide +kernel
theorem d_Rd_numberCount_60 : decode b_Rd_numberCount 60 = .ok (.ireturn, 1) := by decide +kernel
theorem d_Rd_numberCount_61 : decode b_Rd_numberCount 61 = .ok (.iconst 3, 1) := by decide +kernel
theorem d_Rd_numberCount_62 : decode b_Rd_numberCount 62 = .ok (.ireturn, 1) := by decide +kernel
theorem d_Rd_numberCount_63 : decode b_Rd_numberCount 63 = .ok (.iconst 1, 1) := by decide +kernel
theorem d_Rd_numberCount_64 : decode b_Rd_numberCount 64 = .ok (.ireturn, 1) := by decide +kernel
theorem d_Rd_numberCount_65 : decode b_Rd_numberCount 65 = .ok (.iconst 0, 1) := by decide +kernel
theorem d_Rd_numberCount_66 : decode b_Rd_numberCount 66 = .ok (.ireturn, 1) := by decide +kernel
theorem d_Rd_leastNumber_0 : decode b_Rd_leastNumber 0 = .ok (.iload_n 0, 1) := by decide +kernel
theorem d_Rd_leastNumber_1 : decode b_Rd_leastNumber 1 = .ok (.bipush 9, 2) := by decide +kernel
theorem d_Rd_leastNumber_3 : decode b_Rd_leastNumber 3 = .ok (.if_icmp .ne 5, 3) := by decide +kernel
theorem d_Rd_leastNumber_6 : decode b_Rd_leastNumber 6 = .ok (.iconst 1, 1) := by decide +kernel
theorem d_Rd_leastNumber_7 : decode b_Rd_leastNumber 7 = .ok (.ireturn, 1) := by decide +kernel
theorem d_Rd_leastNumber_8 : decode b_Rd_leastNumber 8 = .ok (.iload_n 0, 1) := by decide +kernel
theorem d_Rd_leastNumber_9 : decode b_Rd_leastNumber 9 = .ok (.ifCond .ne 12, 3) := by decide +kernel
theorem d_Rd_leastNumber_12 : decode b_Rd_leastNumber 12 = .ok (.iload_n 1, 1) := by decide +kernel
theorem d_Rd_leastNumber_13 : decode b_Rd_leastNumber 13 = .ok (.iconst 3, 1) := by decide +kernel
theorem d_Rd_leastNumber_14 : decode b_Rd_leastNumber 14 = .ok (.if_icmp .ne 7, 3) := by decide +kernel
theorem d_Rd_leastNumber_17 : decode b_Rd_leastNumber 17 = .ok (.iconst 0, 1) := by decide +kernel
theorem d_Rd_leastNumber_18 : decode b_Rd_leastNumber 18 = .ok (.goto 5, 3) := by decide +kernel
theorem d_Rd_leastNumber_21 : decode b_Rd_leastNumber 21 = .ok (.bipush (-20), 2) := by decide +kernel
theorem d_Rd_leastNumber_23 : decode b_Rd_leastNumber 23 = .ok (.ireturn, 1) := by decide +kernel
theorem d_Rd_readNumber_0 : decode b_Rd_readNumber 0 = .ok (.aload_n 0, 1) := by decide +kernel
theorem d_Rd_readNumber_1 : decode b_Rd_readNumber 1 = .ok (.getfield 27, 3) := by decide +kernel
theorem d_Rd_readNumber_4 : decode b_Rd_readNumber 4 = .ok (.ifCond .ne 20, 3) := by decide +kernel
theorem d_Rd_readNumber_7 : decode b_Rd_readNumber 7 = .ok (.aload_n 0, 1) := by decide +kernel
theorem d_Rd_readNumber_8 : decode b_Rd_readNumber 8 = .ok (.getfield 15, 3) := by decide +kernel
theorem d_Rd_readNumber_11 : decode b_Rd_readNumber 11 = .ok (.iconst 2, 1) := by decide +kernel
theorem d_Rd_readNumber_12 : decode b_Rd_readNumber 12 = .ok (.if_icmp .eq 12, 3) := by decide +kernel
theorem d_Rd_readNumber_15 : decode b_Rd_readNumber 15 = .ok (.aload_n 0, 1) := by decide +kernel
theorem d_Rd_readNumber_16 : decode b_Rd_readNumber 16 = .ok (.iconst 2, 1) := by decide +kernel
theorem d_Rd_readNumber_17 : decode b_Rd_readNumber 17 = .ok (.aload_n 0, 1) := by decide +kernel
theorem d_Rd_readNumber_18 : decode b_Rd_readNumber 18 = .ok (.getfield 18, 3) := by decide +kernel
theorem d_Rd_readNumber_21 : decode b_Rd_readNumber 21 = .ok (.invokevirtual 44, 3) := by decide +kernel
theorem d_Rd_readNumber_24 : decode b_Rd_readNumber 24 = .ok (.aload_n 0, 1) := by decide +kernel
theorem d_Rd_readNumber_25 : decode b_Rd_readNumber 25 = .ok (.getfield 27, 3) := by decide +kernel
theorem d_Rd_readNumber_28 : decode b_Rd_readNumber 28 = .ok (.ifCond .ne 28, 3) := by decide +kernel
theorem d_Rd_readNumber_31 : decode b_Rd_readNumber 31 = .ok (.aload_n 0, 1) := by decide +kernel
theorem d_Rd_readNumber_32 : decode b_Rd_readNumber 32 = .ok (.getfield 21, 3) := by decide +kernel
theorem d_Rd_readNumber_35 : decode b_Rd_readNumber 35 = .ok (.iload_n 1, 1) := by decide +kernel
theorem d_Rd_readNumber_36 : decode b_Rd_readNumber 36 = .ok (.if_icmp .lt 11, 3) := by decide +kernel
theorem d_Rd_readNumber_39 : decode b_Rd_readNumber 39 = .ok (.aload_n 0, 1) := by decide +kernel
theorem d_Rd_readNumber_40 : decode b_Rd_readNumber 40 = .ok (.getfield 21, 3) := by decide +kernel
theorem d_Rd_readNumber_43 : decode b_Rd_readNumber 43 = .ok (.iload_n 2, 1) := by decide +kernel
theorem d_Rd_readNumber_44 : decode b_Rd_readNumber 44 = .ok (.if_icmp .le 12, 3) := by decide +kernel
theorem d_Rd_readNumber_47 : decode b_Rd_readNumber 47 = .ok (.aload_n 0, 1) := by decide +kernel
theorem d_Rd_readNumber_48 : decode b_Rd_readNumber 48 = .ok (.iconst 3, 1) := by decide +kernel
theorem d_Rd_readNumber_49 : decode b_Rd_readNumber 49 = .ok (.aload_n 0, 1) := by decide +kernel
theorem d_Rd_readNumber_50 : decode b_Rd_readNumber 50 = .ok (.getfield 18, 3) := by decide +kernel
theorem d_Rd_readNumber_53 : decode b_Rd_readNumber 53 = .ok (.invokevirtual 44, 3) := by decide +kernel
theorem d_Rd_readNumber_56 : decode b_Rd_readNumber 56 = .ok (.aload_n 0, 1) := by decide +kernel
theorem d_Rd_readNumber_57 : decode b_Rd_readNumber 57 = .ok (.getfield 27, 3) := by decide +kernel
theorem d_Rd_readNumber_60 : decode b_Rd_readNumber 60 = .ok (.ifCond .eq 5, 3) := by decide +kernel
theorem d_Rd_readNumber_63 : decode b_Rd_readNumber 63 = .ok (.iconst 0, 1) := by decide +kernel
theorem d_Rd_readNumber_64 : decode b_Rd_readNumber 64 = .ok (.ireturn, 1) := by decide +kernel
theorem d_Rd_readNumber_65 : decode b_Rd_readNumber 65 = .ok (.aload_n 0, 1) := by decide +kernel
theorem d_Rd_readNumber_66 : decode b_Rd_readNumber 66 = .ok (.getfield 21, 3) := by decide +kernel
theorem d_Rd_readNumber_69 : decode b_Rd_readNumber 69 = .ok (.istore_n 3, 1) := by decide +kernel
theorem d_Rd_readNumber_70 : decode b_Rd_readNumber 70 = .ok (.aload_n 0, 1) := by decide +kernel
theorem d_Rd_readNumber_71 : decode b_Rd_readNumber 71 = .ok (.invokevirtual 37, 3) := by decide +kernel
theorem d_Rd_readNumber_74 : decode b_Rd_readNumber 74 = .ok (.iload_n 3, 1) := by decide +kernel
theorem d_Rd_readNumber_75 : decode b_Rd_readNumber 75 = .ok (.ireturn, 1) := by decide +kernel
theorem d_Rd_isPair_0 : decode b_Rd_isPair 0 = .ok (.iload_n 0, 1) := by decide +kernel
theorem d_Rd_isPair_1 : decode b_Rd_isPair 1 = .ok (.iconst 3, 1) := by decide +kernel
theorem d_Rd_isPair_2 : decode b_Rd_isPair 2 = .ok (.if_icmp .eq 13, 3) := by decide +kernel
theorem d_Rd_isPair_5 : decode b_Rd_isPair 5 = .ok (.iload_n 0, 1) := by decide +kernel
theorem d_Rd_isPair_6 : decode b_Rd_isPair 6 = .ok (.iconst 4, 1) := by decide +kernel
theorem d_Rd_isPair_7 : decode b_Rd_isPair 7 = .ok (.if_icmp .eq 8, 3) := by decide +kernel
theorem d_Rd_isPair_10 : decode b_Rd_isPair 10 = .ok (.iload_n 0, 1) := by decide +kernel
theorem d_Rd_isPair_11 : decode b_Rd_isPair 11 = .ok (.iconst 5, 1) := by decide +kernel
theorem d_Rd_isPair_12 : decode b_Rd_isPair 12 = .ok (.if_icmp .ne 7, 3) := by decide +kernel
theorem d_Rd_isPair_15 : decode b_Rd_isPair 15 = .ok (.iconst 1, 1) := by decide +kernel
theorem d_Rd_isPair_16 : decode b_Rd_isPair 16 = .ok (.goto 4, 3) := by decide +kernel
theorem d_Rd_isPair_19 : decode b_Rd_isPair 19 = .ok (.iconst 0, 1) := by decide +kernel
theorem d_Rd_isPair_20 : decode b_Rd_isPair 20 = .ok (.ireturn, 1) := by decide +kernel
theorem d_Rd_formOf_0 : decode b_Rd_formOf 0 = .ok (.iload_n 0, 1) := by decide +kernel
theorem d_Rd_formOf_1 : decode b_Rd_formOf 1 = .ok (.tableswitch 128 0 5 #[39, 59, 85, 105, 105, 105], 39) := by decide +kernel
theorem d_Rd_formOf_40 : decode b_Rd_formOf 40 = .ok (.new 67, 3) := by decide +kernel
theorem d_Rd_formOf_43 : decode b_Rd_formOf 43 = .ok (.dup, 1) := by decide +kernel
theorem d_Rd_formOf_44 : decode b_Rd_formOf 44 = .ok (.aload_n 1, 1) := by decide +kernel
theorem d_Rd_formOf_45 : decode b_Rd_formOf 45 = .ok (.iconst 0, 1) := by decide +kernel
theorem d_Rd_formOf_46 : decode b_Rd_formOf 46 = .ok (.iaload, 1) := by decide +kernel
theorem d_Rd_formOf_47 : decode b_Rd_formOf 47 = .ok (.aload_n 1, 1) := by decide +kernel
theorem d_Rd_formOf_48 : decode b_Rd_formOf 48 = .ok (.iconst 1, 1) := by decide +kernel
theorem d_Rd_formOf_49 : decode b_Rd_formOf 49 = .ok (.iaload, 1) := by decide +kernel
theorem d_Rd_formOf_50 : decode b_Rd_formOf 50 = .ok (.aload_n 1, 1) := by decide +kernel
theorem d_Rd_formOf_51 : decode b_Rd_formOf 51 = .ok (.iconst 2, 1) := by decide +kernel
theorem d_Rd_formOf_52 : decode b_Rd_formOf 52 = .ok (.iaload, 1) := by decide +kernel
theorem d_Rd_formOf_53 : decode b_Rd_formOf 53 = .ok (.aload_n 1, 1) := by decide +kernel
theorem d_Rd_formOf_54 : decode b_Rd_formOf 54 = .ok (.iconst 3, 1) := by decide +kernel
theorem d_Rd_formOf_55 : decode b_Rd_formOf 55 = .ok (.iaload, 1) := by decide +kernel
theorem d_Rd_formOf_56 : decode b_Rd_formOf 56 = .ok (.invokespecial 69, 3) := by decide +kernel
theorem d_Rd_formOf_59 : decode b_Rd_formOf 59 = .ok (.areturn, 1) := by decide +kernel
theorem d_Rd_formOf_60 : decode b_Rd_formOf 60 = .ok (.new 72, 3) := by decide +kernel
theorem d_Rd_formOf_63 : decode b_Rd_formOf 63 = .ok (.dup, 1) := by decide +kernel
theorem d_Rd_formOf_64 : decode b_Rd_formOf 64 = .ok (.aload_n 1, 1) := by decide +kernel
theorem d_Rd_formOf_65 : decode b_Rd_formOf 65 = .ok (.iconst 0, 1) := by decide +kernel
theorem d_Rd_formOf_66 : decode b_Rd_formOf 66 = .ok (.iaload, 1) := by decide +kernel
theorem d_Rd_formOf_67 : decode b_Rd_formOf 67 = .ok (.aload_n 1, 1) := by decide +kernel
theorem d_Rd_formOf_68 : decode b_Rd_formOf 68 = .ok (.iconst 1, 1) := by decide +kernel
theorem d_Rd_formOf_69 : decode b_Rd_formOf 69 = .ok (.iaload, 1) := by decide +kernel
theorem d_Rd_formOf_70 : decode b_Rd_formOf 70 = .ok (.aload_n 1, 1) := by decide +kernel
theorem d_Rd_formOf_71 : decode b_Rd_formOf 71 = .ok (.iconst 2, 1) := by decide +kernel
theorem d_Rd_formOf_72 : decode b_Rd_formOf 72 = .ok (.iaload, 1) := by decide +kernel
theorem d_Rd_formOf_73 : decode b_Rd_formOf 73 = .ok (.aload_n 1, 1) := by decide +kernel
theorem d_Rd_formOf_74 : decode b_Rd_formOf 74 = .ok (.iconst 3, 1) := by decide +kernel
theorem d_Rd_formOf_75 : decode b_Rd_formOf 75 = .ok (.iaload, 1) := by decide +kernel
theorem d_Rd_formOf_76 : decode b_Rd_formOf 76 = .ok (.aload_n 1, 1) := by decide +kernel
theorem d_Rd_formOf_77 : decode b_Rd_formOf 77 = .ok (.iconst 4, 1) := by decide +kernel
theorem d_Rd_formOf_78 : decode b_Rd_formOf 78 = .ok (.iaload, 1) := by decide +kernel
theorem d_Rd_formOf_79 : decode b_Rd_formOf 79 = .ok (.aload_n 1, 1) := by decide +kernel
theorem d_Rd_formOf_80 : decode b_Rd_formOf 80 = .ok (.iconst 5, 1) := by decide +kernel
theorem d_Rd_formOf_81 : decode b_Rd_formOf 81 = .ok (.iaload, 1) := by decide +kernel
theorem d_Rd_formOf_82 : decode b_Rd_formOf 82 = .ok (.invokespecial 74, 3) := by decide +kernel
theorem d_Rd_formOf_85 : decode b_Rd_formOf 85 = .ok (.areturn, 1) := by decide +kernel
theorem d_Rd_formOf_86 : decode b_Rd_formOf 86 = .ok (.new 77, 3) := by decide +kernel
theorem d_Rd_formOf_89 : decode b_Rd_formOf 89 = .ok (.dup, 1) := by decide +kernel
theorem d_Rd_formOf_90 : decode b_Rd_formOf 90 = .ok (.aload_n 1, 1) := by decide +kernel
theorem d_Rd_formOf_91 : decode b_Rd_formOf 91 = .ok (.iconst 0, 1) := by decide +kernel
theorem d_Rd_formOf_92 : decode b_Rd_formOf 92 = .ok (.iaload, 1) := by decide +kernel
theorem d_Rd_formOf_93 : decode b_Rd_formOf 93 = .ok (.aload_n 1, 1) := by decide +kernel
theorem d_Rd_formOf_94 : decode b_Rd_formOf 94 = .ok (.iconst 1, 1) := by decide +kernel
theorem d_Rd_formOf_95 : decode b_Rd_formOf 95 = .ok (.iaload, 1) := by decide +kernel
theorem d_Rd_formOf_96 : decode b_Rd_formOf 96 = .ok (.aload_n 1, 1) := by decide +kernel
theorem d_Rd_formOf_97 : decode b_Rd_formOf 97 = .ok (.iconst 2, 1) := by decide +kernel
theorem d_Rd_formOf_98 : decode b_Rd_formOf 98 = .ok (.iaload, 1) := by decide +kernel
theorem d_Rd_formOf_99 : decode b_Rd_formOf 99 = .ok (.aload_n 1, 1) := by decide +kernel
theorem d_Rd_formOf_100 : decode b_Rd_formOf 100 = .ok (.iconst 3, 1) := by decide +kernel
theorem d_Rd_formOf_101 : decode b_Rd_formOf 101 = .ok (.iaload, 1) := by decide +kernel
theorem d_Rd_formOf_102 : decode b_Rd_formOf 102 = .ok (.invokespecial 79, 3) := by decide +kernel
theorem d_Rd_formOf_105 : decode b_Rd_formOf 105 = .ok (.areturn, 1) := by decide +kernel
theorem d_Rd_formOf_106 : decode b_Rd_formOf 106 = .ok (.aload_n 2, 1) := by decide +kernel
theorem d_Rd_formOf_107 : decode b_Rd_formOf 107 = .ok (.ifnull 7, 3) := by decide +kernel
theorem d_Rd_formOf_110 : decode b_Rd_formOf 110 = .ok (.aload_n 3, 1) := by decide +kernel
theorem d_Rd_formOf_111 : decode b_Rd_formOf 111 = .ok (.ifnonnull 7, 3) := by decide +kernel
theorem d_Rd_formOf_114 : decode b_Rd_formOf 114 = .ok (.aconst_null, 1) := by decide +kernel
theorem d_Rd_formOf_115 : decode b_Rd_formOf 115 = .ok (.goto 13, 3) := by decide +kernel
theorem d_Rd_formOf_118 : decode b_Rd_formOf 118 = .ok (.new 80, 3) := by decide +kernel
theorem d_Rd_formOf_121 : decode b_Rd_formOf 121 = .ok (.dup, 1) := by decide +kernel
theorem d_Rd_formOf_122 : decode b_Rd_formOf 122 = .ok (.iload_n 0, 1) := by decide +kernel
theorem d_Rd_formOf_123 : decode b_Rd_formOf 123 = .ok (.aload_n 2, 1) := by decide +kernel
theorem d_Rd_formOf_124 : decode b_Rd_formOf 124 = .ok (.aload_n 3, 1) := by decide +kernel
theorem d_Rd_formOf_125 : decode b_Rd_formOf 125 = .ok (.invokespecial 82, 3) := by decide +kernel
theorem d_Rd_formOf_128 : decode b_Rd_formOf 128 = .ok (.areturn, 1) := by decide +kernel
theorem d_Rd_formOf_129 : decode b_Rd_formOf 129 = .ok (.aload_n 2, 1) := by decide +kernel
theorem d_Rd_formOf_130 : decode b_Rd_formOf 130 = .ok (.ifnonnull 7, 3) := by decide +kernel
theorem d_Rd_formOf_133 : decode b_Rd_formOf 133 = .ok (.aconst_null, 1) := by decide +kernel
theorem d_Rd_formOf_134 : decode b_Rd_formOf 134 = .ok (.goto 21, 3) := by decide +kernel
theorem d_Rd_formOf_137 : decode b_Rd_formOf 137 = .ok (.new 85, 3) := by decide +kernel
theorem d_Rd_formOf_140 : decode b_Rd_formOf 140 = .ok (.dup, 1) := by decide +kernel
theorem d_Rd_formOf_141 : decode b_Rd_formOf 141 = .ok (.iload_n 0, 1) := by decide +kernel
theorem d_Rd_formOf_142 : decode b_Rd_formOf 142 = .ok (.aload_n 1, 1) := by decide +kernel
theorem d_Rd_formOf_143 : decode b_Rd_formOf 143 = .ok (.iconst 0, 1) := by decide +kernel
theorem d_Rd_formOf_144 : decode b_Rd_formOf 144 = .ok (.iaload, 1) := by decide +kernel
theorem d_Rd_formOf_145 : decode b_Rd_formOf 145 = .ok (.aload_n 1, 1) := by decide +kernel
theorem d_Rd_formOf_146 : decode b_Rd_formOf 146 = .ok (.iconst 1, 1) := by decide +kernel
theorem d_Rd_formOf_147 : decode b_Rd_formOf 147 = .ok (.iaload, 1) := by decide +kernel
theorem d_Rd_formOf_148 : decode b_Rd_formOf 148 = .ok (.aload_n 1, 1) := by decide +kernel
theorem d_Rd_formOf_149 : decode b_Rd_formOf 149 = .ok (.iconst 2, 1) := by decide +kernel
theorem d_Rd_formOf_150 : decode b_Rd_formOf 150 = .ok (.iaload, 1) := by decide +kernel
theorem d_Rd_formOf_151 : decode b_Rd_formOf 151 = .ok (.aload_n 2, 1) := by decide +kernel
theorem d_Rd_formOf_152 : decode b_Rd_formOf 152 = .ok (.invokespecial 87, 3) := by decide +kernel
theorem d_Rd_formOf_155 : decode b_Rd_formOf 155 = .ok (.areturn, 1) := by decide +kernel
theorem d_Ba_init_0 : decode b_Ba_init 0 = .ok (.aload_n 0, 1) := by decide +kernel
theorem d_Ba_init_1 : decode b_Ba_init 1 = .ok (.invokespecial 1, 3) := by decide +kernel
theorem d_Ba_init_4 : decode b_Ba_init 4 = .ok (.aload_n 0, 1) := by decide +kernel
theorem d_Ba_init_5 : decode b_Ba_init 5 = .ok (.iload_n 1, 1) := by decide +kernel
theorem d_Ba_init_6 : decode b_Ba_init 6 = .ok (.putfield 7, 3) := by decide +kernel
theorem d_Ba_init_9 : decode b_Ba_init 9 = .ok (.aload_n 0, 1) := by decide +kernel
theorem d_Ba_init_10 : decode b_Ba_init 10 = .ok (.iload_n 2, 1) := by decide +kernel
theorem d_Ba_init_11 : decode b_Ba_init 11 = .ok (.putfield 13, 3) := by decide +kernel
theorem d_Ba_init_14 : decode b_Ba_init 14 = .ok (.aload_n 0, 1) := by decide +kernel
theorem d_Ba_init_15 : decode b_Ba_init 15 = .ok (.iload_n 3, 1) := by decide +kernel
theorem d_Ba_init_16 : decode b_Ba_init 16 = .ok (.putfield 16, 3) := by decide +kernel
theorem d_Ba_init_19 : decode b_Ba_init 19 = .ok (.aload_n 0, 1) := by decide +kernel
theorem d_Ba_init_20 : decode b_Ba_init 20 = .ok (.iload 4, 2) := by decide +kernel
theorem d_Ba_init_22 : decode b_Ba_init 22 = .ok (.putfield 19, 3) := by decide +kernel
theorem d_Ba_init_25 : decode b_Ba_init 25 = .ok (.return_, 1) := by decide +kernel
theorem d_Fo_init_0 : decode b_Fo_init 0 = .ok (.aload_n 0, 1) := by decide +kernel
theorem d_Fo_init_1 : decode b_Fo_init 1 = .ok (.invokespecial 1, 3) := by decide +kernel
theorem d_Fo_init_4 : decode b_Fo_init 4 = .ok (.return_, 1) := by decide +kernel
theorem d_Bx_init_0 : decode b_Bx_init 0 = .ok (.aload_n 0, 1) := by decide +kernel
theorem d_Bx_init_1 : decode b_Bx_init 1 = .ok (.invokespecial 1, 3) := by decide +kernel
theorem d_Bx_init_4 : decode b_Bx_init 4 = .ok (.aload_n 0, 1) := by decide +kernel
theorem d_Bx_init_5 : decode b_Bx_init 5 = .ok (.iload_n 1, 1) := by decide +kernel
theorem d_Bx_init_6 : decode b_Bx_init 6 = .ok (.putfield 7, 3) := by decide +kernel
theorem d_Bx_init_9 : decode b_Bx_init 9 = .ok (.aload_n 0, 1) := by decide +kernel
theorem d_Bx_init_10 : decode b_Bx_init 10 = .ok (.iload_n 2, 1) := by decide +kernel
theorem d_Bx_init_11 : decode b_Bx_init 11 = .ok (.putfield 13, 3) := by decide +kernel
theorem d_Bx_init_14 : decode b_Bx_init 14 = .ok (.aload_n 0, 1) := by decide +kernel
theorem d_Bx_init_15 : decode b_Bx_init 15 = .ok (.iload_n 3, 1) := by decide +kernel
theorem d_Bx_init_16 : decode b_Bx_init 16 = .ok (.putfield 16, 3) := by decide +kernel
theorem d_Bx_init_19 : decode b_Bx_init 19 = .ok (.aload_n 0, 1) := by decide +kernel
theorem d_Bx_init_20 : decode b_Bx_init 20 = .ok (.iload 4, 2) := by decide +kernel
theorem d_Bx_init_22 : decode b_Bx_init 22 = .ok (.putfield 19, 3) := by decide +kernel
theorem d_Bx_init_25 : decode b_Bx_init 25 = .ok (.aload_n 0, 1) := by decide +kernel
theorem d_Bx_init_26 : decode b_Bx_init 26 = .ok (.iload 5, 2) := by decide +kernel
theorem d_Bx_init_28 : decode b_Bx_init 28 = .ok (.putfield 22, 3) := by decide +kernel
theorem d_Bx_init_31 : decode b_Bx_init 31 = .ok (.aload_n 0, 1) := by decide +kernel
theorem d_Bx_init_32 : decode b_Bx_init 32 = .ok (.iload 6, 2) := by decide +kernel
theorem d_Bx_init_34 : decode b_Bx_init 34 = .ok (.putfield 25, 3) := by decide +kernel
theorem d_Bx_init_37 : decode b_Bx_init 37 = .ok (.return_, 1) := by decide +kernel
theorem d_Pn_init_0 : decode b_Pn_init 0 = .ok (.aload_n 0, 1) := by decide +kernel
theorem d_Pn_init_1 : decode b_Pn_init 1 = .ok (.invokespecial 1, 3) := by decide +kernel
theorem d_Pn_init_4 : decode b_Pn_init 4 = .ok (.aload_n 0, 1) := by decide +kernel
theorem d_Pn_init_5 : decode b_Pn_init 5 = .ok (.iload_n 1, 1) := by decide +kernel
theorem d_Pn_init_6 : decode b_Pn_init 6 = .ok (.putfield 7, 3) := by decide +kernel
theorem d_Pn_init_9 : decode b_Pn_init 9 = .ok (.aload_n 0, 1) := by decide +kernel
theorem d_Pn_init_10 : decode b_Pn_init 10 = .ok (.iload_n 2, 1) := by decide +kernel
theorem d_Pn_init_11 : decode b_Pn_init 11 = .ok (.putfield 13, 3) := by decide +kernel
theorem d_Pn_init_14 : decode b_Pn_init 14 = .ok (.aload_n 0, 1) := by decide +kernel
theorem d_Pn_init_15 : decode b_Pn_init 15 = .ok (.iload_n 3, 1) := by decide +kernel
theorem d_Pn_init_16 : decode b_Pn_init 16 = .ok (.putfield 16, 3) := by decide +kernel
theorem d_Pn_init_19 : decode b_Pn_init 19 = .ok (.aload_n 0, 1) := by decide +kernel
theorem d_Pn_init_20 : decode b_Pn_init 20 = .ok (.iload 4, 2) := by decide +kernel
theorem d_Pn_init_22 : decode b_Pn_init 22 = .ok (.putfield 19, 3) := by decide +kernel
theorem d_Pn_init_25 : decode b_Pn_init 25 = .ok (.return_, 1) := by decide +kernel
theorem d_Pa_init_0 : decode b_Pa_init 0 = .ok (.aload_n 0, 1) := by decide +kernel
theorem d_Pa_init_1 : decode b_Pa_init 1 = .ok (.invokespecial 3, 3) := by decide +kernel
theorem d_Pa_init_4 : decode b_Pa_init 4 = .ok (.aload_n 0, 1) := by decide +kernel
theorem d_Pa_init_5 : decode b_Pa_init 5 = .ok (.iload_n 1, 1) := by decide +kernel
theorem d_Pa_init_6 : decode b_Pa_init 6 = .ok (.putfield 9, 3) := by decide +kernel
theorem d_Pa_init_9 : decode b_Pa_init 9 = .ok (.aload_n 0, 1) := by decide +kernel
theorem d_Pa_init_10 : decode b_Pa_init 10 = .ok (.aload_n 2, 1) := by decide +kernel
theorem d_Pa_init_11 : decode b_Pa_init 11 = .ok (.putfield 15, 3) := by decide +kernel
theorem d_Pa_init_14 : decode b_Pa_init 14 = .ok (.aload_n 0, 1) := by decide +kernel
theorem d_Pa_init_15 : decode b_Pa_init 15 = .ok (.aload_n 3, 1) := by decide +kernel
theorem d_Pa_init_16 : decode b_Pa_init 16 = .ok (.putfield 19, 3) := by decide +kernel
theorem d_Pa_init_19 : decode b_Pa_init 19 = .ok (.return_, 1) := by decide +kernel
theorem d_Pl_init_0 : decode b_Pl_init 0 = .ok (.aload_n 0, 1) := by decide +kernel
theorem d_Pl_init_1 : decode b_Pl_init 1 = .ok (.invokespecial 3, 3) := by decide +kernel
theorem d_Pl_init_4 : decode b_Pl_init 4 = .ok (.aload_n 0, 1) := by decide +kernel
theorem d_Pl_init_5 : decode b_Pl_init 5 = .ok (.iload_n 1, 1) := by decide +kernel
theorem d_Pl_init_6 : decode b_Pl_init 6 = .ok (.putfield 9, 3) := by decide +kernel
theorem d_Pl_init_9 : decode b_Pl_init 9 = .ok (.aload_n 0, 1) := by decide +kernel
theorem d_Pl_init_10 : decode b_Pl_init 10 = .ok (.iload_n 2, 1) := by decide +kernel
theorem d_Pl_init_11 : decode b_Pl_init 11 = .ok (.putfield 15, 3) := by decide +kernel
theorem d_Pl_init_14 : decode b_Pl_init 14 = .ok (.aload_n 0, 1) := by decide +kernel
theorem d_Pl_init_15 : decode b_Pl_init 15 = .ok (.iload_n 3, 1) := by decide +kernel
theorem d_Pl_init_16 : decode b_Pl_init 16 = .ok (.putfield 18, 3) := by decide +kernel
theorem d_Pl_init_19 : decode b_Pl_init 19 = .ok (.aload_n 0, 1) := by decide +kernel
theorem d_Pl_init_20 : decode b_Pl_init 20 = .ok (.iload 4, 2) := by decide +kernel
theorem d_Pl_init_22 : decode b_Pl_init 22 = .ok (.putfield 21, 3) := by decide +kernel
theorem d_Pl_init_25 : decode b_Pl_init 25 = .ok (.aload_n 0, 1) := by decide +kernel
theorem d_Pl_init_26 : decode b_Pl_init 26 = .ok (.aload 5, 2) := by decide +kernel
theorem d_Pl_init_28 : decode b_Pl_init 28 = .ok (.putfield 24, 3) := by decide +kernel
theorem d_Pl_init_31 : decode b_Pl_init 31 = .ok (.return_, 1) := by decide +kernel
theorem d_Ba_valueAt_0 : decode b_Ba_valueAt 0 = .ok (.iload_n 1, 1) := by decide +kernel
theorem d_Ba_valueAt_1 : decode b_Ba_valueAt 1 = .ok (.aload_n 0, 1) := by decide +kernel
theorem d_Ba_valueAt_2 : decode b_Ba_valueAt 2 = .ok (.getfield 7, 3) := by decide +kernel
theorem d_Ba_valueAt_5 : decode b_Ba_valueAt 5 = .ok (.isub, 1) := by decide +kernel
theorem d_Ba_valueAt_6 : decode b_Ba_valueAt 6 = .ok (.iload_n 1, 1) := by decide +kernel
theorem d_Ba_valueAt_7 : decode b_Ba_valueAt 7 = .ok (.aload_n 0, 1) := by decide +kernel
theorem d_Ba_valueAt_8 : decode b_Ba_valueAt 8 = .ok (.getfield 7, 3) := by decide +kernel
theorem d_Ba_valueAt_11 : decode b_Ba_valueAt 11 = .ok (.isub, 1) := by decide +kernel
theorem d_Ba_valueAt_12 : decode b_Ba_valueAt 12 = .ok (.imul, 1) := by decide +kernel
theorem d_Ba_valueAt_13 : decode b_Ba_valueAt 13 = .ok (.iload_n 2, 1) := by decide +kernel
theorem d_Ba_valueAt_14 : decode b_Ba_valueAt 14 = .ok (.aload_n 0, 1) := by decide +kernel
theorem d_Ba_valueAt_15 : decode b_Ba_valueAt 15 = .ok (.getfield 13, 3) := by decide +kernel
theorem d_Ba_valueAt_18 : decode b_Ba_valueAt 18 = .ok (.isub, 1) := by decide +kernel
theorem d_Ba_valueAt_19 : decode b_Ba_valueAt 19 = .ok (.iload_n 2, 1) := by decide +kernel
theorem d_Ba_valueAt_20 : decode b_Ba_valueAt 20 = .ok (.aload_n 0, 1) := by decide +kernel
theorem d_Ba_valueAt_21 : decode b_Ba_valueAt 21 = .ok (.getfield 13, 3) := by decide +kernel
theorem d_Ba_valueAt_24 : decode b_Ba_valueAt 24 = .ok (.isub, 1) := by decide +kernel
theorem d_Ba_valueAt_25 : decode b_Ba_valueAt 25 = .ok (.imul, 1) := by decide +kernel
theorem d_Ba_valueAt_26 : decode b_Ba_valueAt 26 = .ok (.iadd, 1) := by decide +kernel
theorem d_Ba_valueAt_27 : decode b_Ba_valueAt 27 = .ok (.iload_n 3, 1) := by decide +kernel
theorem d_Ba_valueAt_28 : decode b_Ba_valueAt 28 = .ok (.aload_n 0, 1) := by decide +kernel
theorem d_Ba_valueAt_29 : decode b_Ba_valueAt 29 = .ok (.getfield 16, 3) := by decide +kernel
theorem d_Ba_valueAt_32 : decode b_Ba_valueAt 32 = .ok (.isub, 1) := by decide +kernel
theorem d_Ba_valueAt_33 : decode b_Ba_valueAt 33 = .ok (.iload_n 3, 1) := by decide +kernel
theorem d_Ba_valueAt_34 : decode b_Ba_valueAt 34 = .ok (.aload_n 0, 1) := by decide +kernel
theorem d_Ba_valueAt_35 : decode b_Ba_valueAt 35 = .ok (.getfield 16, 3) := by decide +kernel
theorem d_Ba_valueAt_38 : decode b_Ba_valueAt 38 = .ok (.isub, 1) := by decide +kernel
theorem d_Ba_valueAt_39 : decode b_Ba_valueAt 39 = .ok (.imul, 1) := by decide +kernel
theorem d_Ba_valueAt_40 : decode b_Ba_valueAt 40 = .ok (.iadd, 1) := by decide +kernel
theorem d_Ba_valueAt_41 : decode b_Ba_valueAt 41 = .ok (.aload_n 0, 1) := by decide +kernel
theorem d_Ba_valueAt_42 : decode b_Ba_valueAt 42 = .ok (.getfield 19, 3) := by decide +kernel
theorem d_Ba_valueAt_45 : decode b_Ba_valueAt 45 = .ok (.aload_n 0, 1) := by decide +kernel
theorem d_Ba_valueAt_46 : decode b_Ba_valueAt 46 = .ok (.getfield 19, 3) := by decide +kernel
theorem d_Ba_valueAt_49 : decode b_Ba_valueAt 49 = .ok (.imul, 1) := by decide +kernel
theorem d_Ba_valueAt_50 : decode b_Ba_valueAt 50 = .ok (.isub, 1) := by decide +kernel
theorem d_Ba_valueAt_51 : decode b_Ba_valueAt 51 = .ok (.ireturn, 1) := by decide +kernel
theorem d_Bx_valueAt_0 : decode b_Bx_valueAt 0 = .ok (.aload_n 0, 1) := by decide +kernel
theorem d_Bx_valueAt_1 : decode b_Bx_valueAt 1 = .ok (.getfield 7, 3) := by decide +kernel
theorem d_Bx_valueAt_4 : decode b_Bx_valueAt 4 = .ok (.iload_n 1, 1) := by decide +kernel
theorem d_Bx_valueAt_5 : decode b_Bx_valueAt 5 = .ok (.isub, 1) := by decide +kernel
theorem d_Bx_valueAt_6 : decode b_Bx_valueAt 6 = .ok (.iload_n 1, 1) := by decide +kernel
theorem d_Bx_valueAt_7 : decode b_Bx_valueAt 7 = .ok (.aload_n 0, 1) := by decide +kernel
theorem d_Bx_valueAt_8 : decode b_Bx_valueAt 8 = .ok (.getfield 19, 3) := by decide +kernel
theorem d_Bx_valueAt_11 : decode b_Bx_valueAt 11 = .ok (.isub, 1) := by decide +kernel
theorem d_Bx_valueAt_12 : decode b_Bx_valueAt 12 = .ok (.invokestatic 28, 3) := by decide +kernel
theorem d_Bx_valueAt_15 : decode b_Bx_valueAt 15 = .ok (.istore 4, 2) := by decide +kernel
theorem d_Bx_valueAt_17 : decode b_Bx_valueAt 17 = .ok (.aload_n 0, 1) := by decide +kernel
theorem d_Bx_valueAt_18 : decode b_Bx_valueAt 18 = .ok (.getfield 13, 3) := by decide +kernel
theorem d_Bx_valueAt_21 : decode b_Bx_valueAt 21 = .ok (.iload_n 2, 1) := by decide +kernel
theorem d_Bx_valueAt_22 : decode b_Bx_valueAt 22 = .ok (.isub, 1) := by decide +kernel
theorem d_Bx_valueAt_23 : decode b_Bx_valueAt 23 = .ok (.iload_n 2, 1) := by decide +kernel
theorem d_Bx_valueAt_24 : decode b_Bx_valueAt 24 = .ok (.aload_n 0, 1) := by decide +kernel
theorem d_Bx_valueAt_25 : decode b_Bx_valueAt 25 = .ok (.getfield 22, 3) := by decide +kernel
theorem d_Bx_valueAt_28 : decode b_Bx_valueAt 28 = .ok (.isub, 1) := by decide +kernel
theorem d_Bx_valueAt_29 : decode b_Bx_valueAt 29 = .ok (.invokestatic 28, 3) := by decide +kernel
theorem d_Bx_valueAt_32 : decode b_Bx_valueAt 32 = .ok (.istore 5, 2) := by decide +kernel
theorem d_Bx_valueAt_34 : decode b_Bx_valueAt 34 = .ok (.aload_n 0, 1) := by decide +kernel
theorem d_Bx_valueAt_35 : decode b_Bx_valueAt 35 = .ok (.getfield 16, 3) := by decide +kernel
theorem d_Bx_valueAt_38 : decode b_Bx_valueAt 38 = .ok (.iload_n 3, 1) := by decide +kernel
theorem d_Bx_valueAt_39 : decode b_Bx_valueAt 39 = .ok (.isub, 1) := by decide +kernel
theorem d_Bx_valueAt_40 : decode b_Bx_valueAt 40 = .ok (.iload_n 3, 1) := by decide +kernel
theorem d_Bx_valueAt_41 : decode b_Bx_valueAt 41 = .ok (.aload_n 0, 1) := by decide +kernel
theorem d_Bx_valueAt_42 : decode b_Bx_valueAt 42 = .ok (.getfield 25, 3) := by decide +kernel
theorem d_Bx_valueAt_45 : decode b_Bx_valueAt 45 = .ok (.isub, 1) := by decide +kernel
theorem d_Bx_valueAt_46 : decode b_Bx_valueAt 46 = .ok (.invokestatic 28, 3) := by decide +kernel
theorem d_Bx_valueAt_49 : decode b_Bx_valueAt 49 = .ok (.istore 6, 2) := by decide +kernel
theorem d_Bx_valueAt_51 : decode b_Bx_valueAt 51 = .ok (.iload 4, 2) := by decide +kernel
theorem d_Bx_valueAt_53 : decode b_Bx_valueAt 53 = .ok (.iload 5, 2) := by decide +kernel
theorem d_Bx_valueAt_55 : decode b_Bx_valueAt 55 = .ok (.iload 6, 2) := by decide +kernel
theorem d_Bx_valueAt_57 : decode b_Bx_valueAt 57 = .ok (.invokestatic 28, 3) := by decide +kernel
theorem d_Bx_valueAt_60 : decode b_Bx_valueAt 60 = .ok (.invokestatic 28, 3) := by decide +kernel
theorem d_Bx_valueAt_63 : decode b_Bx_valueAt 63 = .ok (.iconst 1, 1) := by decide +kernel
theorem d_Bx_valueAt_64 : decode b_Bx_valueAt 64 = .ok (.isub, 1) := by decide +kernel
theorem d_Bx_valueAt_65 : decode b_Bx_valueAt 65 = .ok (.ireturn, 1) := by decide +kernel
theorem d_Ma_max_0 : decode b_Ma_max 0 = .ok (.iload_n 0, 1) := by decide +kernel
theorem d_Ma_max_1 : decode b_Ma_max 1 = .ok (.iload_n 1, 1) := by decide +kernel
theorem d_Ma_max_2 : decode b_Ma_max 2 = .ok (.if_icmp .lt 7, 3) := by decide +kernel
theorem d_Ma_max_5 : decode b_Ma_max 5 = .ok (.iload_n 0, 1) := by decide +kernel
theorem d_Ma_max_6 : decode b_Ma_max 6 = .ok (.goto 4, 3) := by decide +kernel
theorem d_Ma_max_9 : decode b_Ma_max 9 = .ok (.iload_n 1, 1) := by decide +kernel
theorem d_Ma_max_10 : decode b_Ma_max 10 = .ok (.ireturn, 1) := by decide +kernel
theorem d_Pa_valueAt_0 : decode b_Pa_valueAt 0 = .ok (.aload_n 0, 1) := by decide +kernel
theorem d_Pa_valueAt_1 : decode b_Pa_valueAt 1 = .ok (.aload_n 0, 1) := by decide +kernel
theorem d_Pa_valueAt_2 : decode b_Pa_valueAt 2 = .ok (.getfield 15, 3) := by decide +kernel
theorem d_Pa_valueAt_5 : decode b_Pa_valueAt 5 = .ok (.iload_n 1, 1) := by decide +kernel
theorem d_Pa_valueAt_6 : decode b_Pa_valueAt 6 = .ok (.iload_n 2, 1) := by decide +kernel
theorem d_Pa_valueAt_7 : decode b_Pa_valueAt 7 = .ok (.iload_n 3, 1) := by decide +kernel
theorem d_Pa_valueAt_8 : decode b_Pa_valueAt 8 = .ok (.invokevirtual 22, 3) := by decide +kernel
theorem d_Pa_valueAt_11 : decode b_Pa_valueAt 11 = .ok (.aload_n 0, 1) := by decide +kernel
theorem d_Pa_valueAt_12 : decode b_Pa_valueAt 12 = .ok (.getfield 19, 3) := by decide +kernel
theorem d_Pa_valueAt_15 : decode b_Pa_valueAt 15 = .ok (.iload_n 1, 1) := by decide +kernel
theorem d_Pa_valueAt_16 : decode b_Pa_valueAt 16 = .ok (.iload_n 2, 1) := by decide +kernel
theorem d_Pa_valueAt_17 : decode b_Pa_valueAt 17 = .ok (.iload_n 3, 1) := by decide +kernel
theorem d_Pa_valueAt_18 : decode b_Pa_valueAt 18 = .ok (.invokevirtual 22, 3) := by decide +kernel
theorem d_Pa_valueAt_21 : decode b_Pa_valueAt 21 = .ok (.invokevirtual 26, 3) := by decide +kernel
theorem d_Pa_valueAt_24 : decode b_Pa_valueAt 24 = .ok (.ireturn, 1) := by decide +kernel
theorem d_Pl_valueAt_0 : decode b_Pl_valueAt 0 = .ok (.aload_n 0, 1) := by decide +kernel
theorem d_Pl_valueAt_1 : decode b_Pl_valueAt 1 = .ok (.getfield 9, 3) := by decide +kernel
theorem d_Pl_valueAt_4 : decode b_Pl_valueAt 4 = .ok (.tableswitch 77 6 8 #[28, 54, 65], 28) := by decide +kernel
theorem d_Pl_valueAt_32 : decode b_Pl_valueAt 32 = .ok (.aload_n 0, 1) := by decide +kernel
theorem d_Pl_valueAt_33 : decode b_Pl_valueAt 33 = .ok (.getfield 24, 3) := by decide +kernel
theorem d_Pl_valueAt_36 : decode b_Pl_valueAt 36 = .ok (.iload_n 1, 1) := by decide +kernel
theorem d_Pl_valueAt_37 : decode b_Pl_valueAt 37 = .ok (.aload_n 0, 1) := by decide +kernel
theorem d_Pl_valueAt_38 : decode b_Pl_valueAt 38 = .ok (.getfield 15, 3) := by decide +kernel
theorem d_Pl_valueAt_41 : decode b_Pl_valueAt 41 = .ok (.isub, 1) := by decide +kernel
theorem d_Pl_valueAt_42 : decode b_Pl_valueAt 42 = .ok (.iload_n 2, 1) := by decide +kernel
theorem d_Pl_valueAt_43 : decode b_Pl_valueAt 43 = .ok (.aload_n 0, 1) := by decide +kernel
theorem d_Pl_valueAt_44 : decode b_Pl_valueAt 44 = .ok (.getfield 18, 3) := by decide +kernel
theorem d_Pl_valueAt_47 : decode b_Pl_valueAt 47 = .ok (.isub, 1) := by decide +kernel
theorem d_Pl_valueAt_48 : decode b_Pl_valueAt 48 = .ok (.iload_n 3, 1) := by decide +kernel
theorem d_Pl_valueAt_49 : decode b_Pl_valueAt 49 = .ok (.aload_n 0, 1) := by decide +kernel
theorem d_Pl_valueAt_50 : decode b_Pl_valueAt 50 = .ok (.getfield 21, 3) := by decide +kernel
theorem d_Pl_valueAt_53 : decode b_Pl_valueAt 53 = .ok (.isub, 1) := by decide +kernel
theorem d_Pl_valueAt_54 : decode b_Pl_valueAt 54 = .ok (.invokevirtual 28, 3) := by decide +kernel
theorem d_Pl_valueAt_57 : decode b_Pl_valueAt 57 = .ok (.ireturn, 1) := by decide +kernel
theorem d_Pl_valueAt_58 : decode b_Pl_valueAt 58 = .ok (.aload_n 0, 1) := by decide +kernel
theorem d_Pl_valueAt_59 : decode b_Pl_valueAt 59 = .ok (.getfield 24, 3) := by decide +kernel
theorem d_Pl_valueAt_62 : decode b_Pl_valueAt 62 = .ok (.iload_n 2, 1) := by decide +kernel
theorem d_Pl_valueAt_63 : decode b_Pl_valueAt 63 = .ok (.iload_n 3, 1) := by decide +kernel
theorem d_Pl_valueAt_64 : decode b_Pl_valueAt 64 = .ok (.iload_n 1, 1) := by decide +kernel
theorem d_Pl_valueAt_65 : decode b_Pl_valueAt 65 = .ok (.invokevirtual 28, 3) := by decide +kernel
theorem d_Pl_valueAt_68 : decode b_Pl_valueAt 68 = .ok (.ireturn, 1) := by decide +kernel
theorem d_Pl_valueAt_69 : decode b_Pl_valueAt 69 = .ok (.aload_n 0, 1) := by decide +kernel
theorem d_Pl_valueAt_70 : decode b_Pl_valueAt 70 = .ok (.getfield 24, 3) := by decide +kernel
theorem d_Pl_valueAt_73 : decode b_Pl_valueAt 73 = .ok (.iload_n 1, 1) := by decide +kernel
theorem d_Pl_valueAt_74 : decode b_Pl_valueAt 74 = .ok (.ineg, 1) := by decide +kernel
theorem d_Pl_valueAt_75 : decode b_Pl_valueAt 75 = .ok (.iload_n 2, 1) := by decide +kernel
theorem d_Pl_valueAt_76 : decode b_Pl_valueAt 76 = .ok (.iload_n 3, 1) := by decide +kernel
theorem d_Pl_valueAt_77 : decode b_Pl_valueAt 77 = .ok (.invokevirtual 28, 3) := by decide +kernel
theorem d_Pl_valueAt_80 : decode b_Pl_valueAt 80 = .ok (.ireturn, 1) := by decide +kernel
theorem d_Pl_valueAt_81 : decode b_Pl_valueAt 81 = .ok (.aload_n 0, 1) := by decide +kernel
theorem d_Pl_valueAt_82 : decode b_Pl_valueAt 82 = .ok (.getfield 24, 3) := by decide +kernel
theorem d_Pl_valueAt_85 : decode b_Pl_valueAt 85 = .ok (.aload_n 0, 1) := by decide +kernel
theorem d_Pl_valueAt_86 : decode b_Pl_valueAt 86 = .ok (.iload_n 1, 1) := by decide +kernel
theorem d_Pl_valueAt_87 : decode b_Pl_valueAt 87 = .ok (.invokevirtual 32, 3) := by decide +kernel
theorem d_Pl_valueAt_90 : decode b_Pl_valueAt 90 = .ok (.iload_n 2, 1) := by decide +kernel
theorem d_Pl_valueAt_91 : decode b_Pl_valueAt 91 = .ok (.iload_n 3, 1) := by decide +kernel
theorem d_Pl_valueAt_92 : decode b_Pl_valueAt 92 = .ok (.invokevirtual 28, 3) := by decide +kernel
theorem d_Pl_valueAt_95 : decode b_Pl_valueAt 95 = .ok (.ireturn, 1) := by decide +kernel
theorem d_Pn_valueAt_0 : decode b_Pn_valueAt 0 = .ok (.aload_n 0, 1) := by decide +kernel
theorem d_Pn_valueAt_1 : decode b_Pn_valueAt 1 = .ok (.getfield 7, 3) := by decide +kernel
theorem d_Pn_valueAt_4 : decode b_Pn_valueAt 4 = .ok (.iload_n 1, 1) := by decide +kernel
theorem d_Pn_valueAt_5 : decode b_Pn_valueAt 5 = .ok (.imul, 1) := by decide +kernel
theorem d_Pn_valueAt_6 : decode b_Pn_valueAt 6 = .ok (.aload_n 0, 1) := by decide +kernel
theorem d_Pn_valueAt_7 : decode b_Pn_valueAt 7 = .ok (.getfield 13, 3) := by decide +kernel
theorem d_Pn_valueAt_10 : decode b_Pn_valueAt 10 = .ok (.iload_n 2, 1) := by decide +kernel
theorem d_Pn_valueAt_11 : decode b_Pn_valueAt 11 = .ok (.imul, 1) := by decide +kernel
theorem d_Pn_valueAt_12 : decode b_Pn_valueAt 12 = .ok (.iadd, 1) := by decide +kernel
theorem d_Pn_valueAt_13 : decode b_Pn_valueAt 13 = .ok (.aload_n 0, 1) := by decide +kernel
theorem d_Pn_valueAt_14 : decode b_Pn_valueAt 14 = .ok (.getfield 16, 3) := by decide +kernel
theorem d_Pn_valueAt_17 : decode b_Pn_valueAt 17 = .ok (.iload_n 3, 1) := by decide +kernel
theorem d_Pn_valueAt_18 : decode b_Pn_valueAt 18 = .ok (.imul, 1) := by decide +kernel
theorem d_Pn_valueAt_19 : decode b_Pn_valueAt 19 = .ok (.iadd, 1) := by decide +kernel
theorem d_Pn_valueAt_20 : decode b_Pn_valueAt 20 = .ok (.aload_n 0, 1) := by decide +kernel
theorem d_Pn_valueAt_21 : decode b_Pn_valueAt 21 = .ok (.getfield 19, 3) := by decide +kernel
theorem d_Pn_valueAt_24 : decode b_Pn_valueAt 24 = .ok (.isub, 1) := by decide +kernel
theorem d_Pn_valueAt_25 : decode b_Pn_valueAt 25 = .ok (.ireturn, 1) := by decide +kernel
theorem d_Pl_modulo_0 : decode b_Pl_modulo 0 = .ok (.aload_n 0, 1) := by decide +kernel
theorem d_Pl_modulo_1 : decode b_Pl_modulo 1 = .ok (.getfield 15, 3) := by decide +kernel
theorem d_Pl_modulo_4 : decode b_Pl_modulo 4 = .ok (.iconst 1, 1) := by decide +kernel
theorem d_Pl_modulo_5 : decode b_Pl_modulo 5 = .ok (.if_icmp .ge 7, 3) := by decide +kernel
theorem d_Pl_modulo_8 : decode b_Pl_modulo 8 = .ok (.iconst 0, 1) := by decide +kernel
theorem d_Pl_modulo_9 : decode b_Pl_modulo 9 = .ok (.goto 11, 3) := by decide +kernel
theorem d_Pl_modulo_12 : decode b_Pl_modulo 12 = .ok (.iload_n 1, 1) := by decide +kernel
theorem d_Pl_modulo_13 : decode b_Pl_modulo 13 = .ok (.aload_n 0, 1) := by decide +kernel
theorem d_Pl_modulo_14 : decode b_Pl_modulo 14 = .ok (.getfield 15, 3) := by decide +kernel
theorem d_Pl_modulo_17 : decode b_Pl_modulo 17 = .ok (.invokestatic 43, 3) := by decide +kernel
theorem d_Pl_modulo_20 : decode b_Pl_modulo 20 = .ok (.ireturn, 1) := by decide +kernel
theorem d_Ma_floorMod_0 : decode b_Ma_floorMod 0 = .ok (.iload_n 0, 1) := by decide +kernel
theorem d_Ma_floorMod_1 : decode b_Ma_floorMod 1 = .ok (.iload_n 1, 1) := by decide +kernel
theorem d_Ma_floorMod_2 : decode b_Ma_floorMod 2 = .ok (.irem, 1) := by decide +kernel
theorem d_Ma_floorMod_3 : decode b_Ma_floorMod 3 = .ok (.istore_n 2, 1) := by decide +kernel
theorem d_Ma_floorMod_4 : decode b_Ma_floorMod 4 = .ok (.iload_n 0, 1) := by decide +kernel
theorem d_Ma_floorMod_5 : decode b_Ma_floorMod 5 = .ok (.iload_n 1, 1) := by decide +kernel
theorem d_Ma_floorMod_6 : decode b_Ma_floorMod 6 = .ok (.ixor, 1) := by decide +kernel
theorem d_Ma_floorMod_7 : decode b_Ma_floorMod 7 = .ok (.ifCond .ge 11, 3) := by decide +kernel
theorem d_Ma_floorMod_10 : decode b_Ma_floorMod 10 = .ok (.iload_n 2, 1) := by decide +kernel
theorem d_Ma_floorMod_11 : decode b_Ma_floorMod 11 = .ok (.ifCond .eq 7, 3) := by decide +kernel
theorem d_Ma_floorMod_14 : decode b_Ma_floorMod 14 = .ok (.iload_n 2, 1) := by decide +kernel
theorem d_Ma_floorMod_15 : decode b_Ma_floorMod 15 = .ok (.iload_n 1, 1) := by decide +kernel
theorem d_Ma_floorMod_16 : decode b_Ma_floorMod 16 = .ok (.iadd, 1) := by decide +kernel
theorem d_Ma_floorMod_17 : decode b_Ma_floorMod 17 = .ok (.ireturn, 1) := by decide +kernel
theorem d_Ma_floorMod_18 : decode b_Ma_floorMod 18 = .ok (.iload_n 2, 1) := by decide +kernel
theorem d_Ma_floorMod_19 : decode b_Ma_floorMod 19 = .ok (.ireturn, 1) := by decide +kernel
theorem d_Pa_joined_0 : decode b_Pa_joined 0 = .ok (.aload_n 0, 1) := by decide +kernel
theorem d_Pa_joined_1 : decode b_Pa_joined 1 = .ok (.getfield 9, 3) := by decide +kernel
theorem d_Pa_joined_4 : decode b_Pa_joined 4 = .ok (.iconst 3, 1) := by decide +kernel
theorem d_Pa_joined_5 : decode b_Pa_joined 5 = .ok (.if_icmp .ne 9, 3) := by decide +kernel
theorem d_Pa_joined_8 : decode b_Pa_joined 8 = .ok (.iload_n 1, 1) := by decide +kernel
theorem d_Pa_joined_9 : decode b_Pa_joined 9 = .ok (.iload_n 2, 1) := by decide +kernel
theorem d_Pa_joined_10 : decode b_Pa_joined 10 = .ok (.invokestatic 34, 3) := by decide +kernel
theorem d_Pa_joined_13 : decode b_Pa_joined 13 = .ok (.ireturn, 1) := by decide +kernel
theorem d_Pa_joined_14 : decode b_Pa_joined 14 = .ok (.iload_n 1, 1) := by decide +kernel
theorem d_Pa_joined_15 : decode b_Pa_joined 15 = .ok (.aload_n 0, 1) := by decide +kernel
theorem d_Pa_joined_16 : decode b_Pa_joined 16 = .ok (.getfield 9, 3) := by decide +kernel
theorem d_Pa_joined_19 : decode b_Pa_joined 19 = .ok (.iconst 5, 1) := by decide +kernel
theorem d_Pa_joined_20 : decode b_Pa_joined 20 = .ok (.if_icmp .ne 8, 3) := by decide +kernel
theorem d_Pa_joined_23 : decode b_Pa_joined 23 = .ok (.iload_n 2, 1) := by decide +kernel
theorem d_Pa_joined_24 : decode b_Pa_joined 24 = .ok (.ineg, 1) := by decide +kernel
theorem d_Pa_joined_25 : decode b_Pa_joined 25 = .ok (.goto 4, 3) := by decide +kernel
theorem d_Pa_joined_28 : decode b_Pa_joined 28 = .ok (.iload_n 2, 1) := by decide +kernel
theorem d_Pa_joined_29 : decode b_Pa_joined 29 = .ok (.invokestatic 39, 3) := by decide +kernel
theorem d_Pa_joined_32 : decode b_Pa_joined 32 = .ok (.ireturn, 1) := by decide +kernel
theorem d_Ma_min_0 : decode b_Ma_min 0 = .ok (.iload_n 0, 1) := by decide +kernel
theorem d_Ma_min_1 : decode b_Ma_min 1 = .ok (.iload_n 1, 1) := by decide +kernel
theorem d_Ma_min_2 : decode b_Ma_min 2 = .ok (.if_icmp .gt 7, 3) := by decide +kernel
theorem d_Ma_min_5 : decode b_Ma_min 5 = .ok (.iload_n 0, 1) := by decide +kernel
theorem d_Ma_min_6 : decode b_Ma_min 6 = .ok (.goto 4, 3) := by decide +kernel
theorem d_Ma_min_9 : decode b_Ma_min 9 = .ok (.iload_n 1, 1) := by decide +kernel
theorem d_Ma_min_10 : decode b_Ma_min 10 = .ok (.ireturn, 1) := by decide +kernel
theorem d_Ba_bound_0 : decode b_Ba_bound 0 = .ok (.iload_n 1, 1) := by decide +kernel
theorem d_Ba_bound_1 : decode b_Ba_bound 1 = .ok (.aload_n 0, 1) := by decide +kernel
theorem d_Ba_bound_2 : decode b_Ba_bound 2 = .ok (.getfield 7, 3) := by decide +kernel
theorem d_Ba_bound_5 : decode b_Ba_bound 5 = .ok (.isub, 1) := by decide +kernel
theorem d_Ba_bound_6 : decode b_Ba_bound 6 = .ok (.iload 4, 2) := by decide +kernel
theorem d_Ba_bound_8 : decode b_Ba_bound 8 = .ok (.aload_n 0, 1) := by decide +kernel
theorem d_Ba_bound_9 : decode b_Ba_bound 9 = .ok (.getfield 7, 3) := by decide +kernel
theorem d_Ba_bound_12 : decode b_Ba_bound 12 = .ok (.isub, 1) := by decide +kernel
theorem d_Ba_bound_13 : decode b_Ba_bound 13 = .ok (.iload 7, 2) := by decide +kernel
theorem d_Ba_bound_15 : decode b_Ba_bound 15 = .ok (.invokestatic 22, 3) := by decide +kernel
theorem d_Ba_bound_18 : decode b_Ba_bound 18 = .ok (.istore 8, 2) := by decide +kernel
theorem d_Ba_bound_20 : decode b_Ba_bound 20 = .ok (.iload 8, 2) := by decide +kernel
theorem d_Ba_bound_22 : decode b_Ba_bound 22 = .ok (.iload_n 2, 1) := by decide +kernel
theorem d_Ba_bound_23 : decode b_Ba_bound 23 = .ok (.aload_n 0, 1) := by decide +kernel
theorem d_Ba_bound_24 : decode b_Ba_bound 24 = .ok (.getfield 13, 3) := by decide +kernel
theorem d_Ba_bound_27 : decode b_Ba_bound 27 = .ok (.isub, 1) := by decide +kernel
theorem d_Ba_bound_28 : decode b_Ba_bound 28 = .ok (.iload 5, 2) := by decide +kernel
theorem d_Ba_bound_30 : decode b_Ba_bound 30 = .ok (.aload_n 0, 1) := by decide +kernel
theorem d_Ba_bound_31 : decode b_Ba_bound 31 = .ok (.getfield 13, 3) := by decide +kernel
theorem d_Ba_bound_34 : decode b_Ba_bound 34 = .ok (.isub, 1) := by decide +kernel
theorem d_Ba_bound_35 : decode b_Ba_bound 35 = .ok (.iload 7, 2) := by decide +kernel
theorem d_Ba_bound_37 : decode b_Ba_bound 37 = .ok (.invokestatic 22, 3) := by decide +kernel
theorem d_Ba_bound_40 : decode b_Ba_bound 40 = .ok (.iadd, 1) := by decide +kernel
theorem d_Ba_bound_41 : decode b_Ba_bound 41 = .ok (.istore 8, 2) := by decide +kernel
theorem d_Ba_bound_43 : decode b_Ba_bound 43 = .ok (.iload 8, 2) := by decide +kernel
theorem d_Ba_bound_45 : decode b_Ba_bound 45 = .ok (.iload_n 3, 1) := by decide +kernel
theorem d_Ba_bound_46 : decode b_Ba_bound 46 = .ok (.aload_n 0, 1) := by decide +kernel
theorem d_Ba_bound_47 : decode b_Ba_bound 47 = .ok (.getfield 16, 3) := by decide +kernel
theorem d_Ba_bound_50 : decode b_Ba_bound 50 = .ok (.isub, 1) := by decide +kernel
theorem d_Ba_bound_51 : decode b_Ba_bound 51 = .ok (.iload 6, 2) := by decide +kernel
theorem d_Ba_bound_53 : decode b_Ba_bound 53 = .ok (.aload_n 0, 1) := by decide +kernel
theorem d_Ba_bound_54 : decode b_Ba_bound 54 = .ok (.getfield 16, 3) := by decide +kernel
theorem d_Ba_bound_57 : decode b_Ba_bound 57 = .ok (.isub, 1) := by decide +kernel
theorem d_Ba_bound_58 : decode b_Ba_bound 58 = .ok (.iload 7, 2) := by decide +kernel
theorem d_Ba_bound_60 : decode b_Ba_bound 60 = .ok (.invokestatic 22, 3) := by decide +kernel
theorem d_Ba_bound_63 : decode b_Ba_bound 63 = .ok (.iadd, 1) := by decide +kernel
theorem d_Ba_bound_64 : decode b_Ba_bound 64 = .ok (.istore 8, 2) := by decide +kernel
theorem d_Ba_bound_66 : decode b_Ba_bound 66 = .ok (.iload 8, 2) := by decide +kernel
theorem d_Ba_bound_68 : decode b_Ba_bound 68 = .ok (.aload_n 0, 1) := by decide +kernel
theorem d_Ba_bound_69 : decode b_Ba_bound 69 = .ok (.getfield 19, 3) := by decide +kernel
theorem d_Ba_bound_72 : decode b_Ba_bound 72 = .ok (.aload_n 0, 1) := by decide +kernel
theorem d_Ba_bound_73 : decode b_Ba_bound 73 = .ok (.getfield 19, 3) := by decide +kernel
theorem d_Ba_bound_76 : decode b_Ba_bound 76 = .ok (.imul, 1) := by decide +kernel
theorem d_Ba_bound_77 : decode b_Ba_bound 77 = .ok (.isub, 1) := by decide +kernel
theorem d_Ba_bound_78 : decode b_Ba_bound 78 = .ok (.ireturn, 1) := by decide +kernel
theorem d_Ba_squareBound_0 : decode b_Ba_squareBound 0 = .ok (.iload_n 2, 1) := by decide +kernel
theorem d_Ba_squareBound_1 : decode b_Ba_squareBound 1 = .ok (.ifCond .eq 13, 3) := by decide +kernel
theorem d_Ba_squareBound_4 : decode b_Ba_squareBound 4 = .ok (.iload_n 0, 1) := by decide +kernel
theorem d_Ba_squareBound_5 : decode b_Ba_squareBound 5 = .ok (.iload_n 0, 1) := by decide +kernel
theorem d_Ba_squareBound_6 : decode b_Ba_squareBound 6 = .ok (.imul, 1) := by decide +kernel
theorem d_Ba_squareBound_7 : decode b_Ba_squareBound 7 = .ok (.iload_n 1, 1) := by decide +kernel
theorem d_Ba_squareBound_8 : decode b_Ba_squareBound 8 = .ok (.iload_n 1, 1) := by decide +kernel
theorem d_Ba_squareBound_9 : decode b_Ba_squareBound 9 = .ok (.imul, 1) := by decide +kernel
theorem d_Ba_squareBound_10 : decode b_Ba_squareBound 10 = .ok (.invokestatic 26, 3) := by decide +kernel
theorem d_Ba_squareBound_13 : decode b_Ba_squareBound 13 = .ok (.ireturn, 1) := by decide +kernel
theorem d_Ba_squareBound_14 : decode b_Ba_squareBound 14 = .ok (.iload_n 0, 1) := by decide +kernel
theorem d_Ba_squareBound_15 : decode b_Ba_squareBound 15 = .ok (.ifCond .gt 11, 3) := by decide +kernel
theorem d_Ba_squareBound_18 : decode b_Ba_squareBound 18 = .ok (.iload_n 1, 1) := by decide +kernel
theorem d_Ba_squareBound_19 : decode b_Ba_squareBound 19 = .ok (.ifCond .lt 7, 3) := by decide +kernel
theorem d_Ba_squareBound_22 : decode b_Ba_squareBound 22 = .ok (.iconst 0, 1) := by decide +kernel
theorem d_Ba_squareBound_23 : decode b_Ba_squareBound 23 = .ok (.goto 12, 3) := by decide +kernel
theorem d_Ba_squareBound_26 : decode b_Ba_squareBound 26 = .ok (.iload_n 0, 1) := by decide +kernel
theorem d_Ba_squareBound_27 : decode b_Ba_squareBound 27 = .ok (.iload_n 0, 1) := by decide +kernel
theorem d_Ba_squareBound_28 : decode b_Ba_squareBound 28 = .ok (.imul, 1) := by decide +kernel
theorem d_Ba_squareBound_29 : decode b_Ba_squareBound 29 = .ok (.iload_n 1, 1) := by decide +kernel
theorem d_Ba_squareBound_30 : decode b_Ba_squareBound 30 = .ok (.iload_n 1, 1) := by decide +kernel
theorem d_Ba_squareBound_31 : decode b_Ba_squareBound 31 = .ok (.imul, 1) := by decide +kernel
theorem d_Ba_squareBound_32 : decode b_Ba_squareBound 32 = .ok (.invokestatic 32, 3) := by decide +kernel
theorem d_Ba_squareBound_35 : decode b_Ba_squareBound 35 = .ok (.ireturn, 1) := by decide +kernel
theorem d_Bx_bound_0 : decode b_Bx_bound 0 = .ok (.iload 7, 2) := by decide +kernel
theorem d_Bx_bound_2 : decode b_Bx_bound 2 = .ok (.ifCond .eq 22, 3) := by decide +kernel
theorem d_Bx_bound_5 : decode b_Bx_bound 5 = .ok (.aload_n 0, 1) := by decide +kernel
theorem d_Bx_bound_6 : decode b_Bx_bound 6 = .ok (.getfield 7, 3) := by decide +kernel
theorem d_Bx_bound_9 : decode b_Bx_bound 9 = .ok (.iload_n 1, 1) := by decide +kernel
theorem d_Bx_bound_10 : decode b_Bx_bound 10 = .ok (.isub, 1) := by decide +kernel
theorem d_Bx_bound_11 : decode b_Bx_bound 11 = .ok (.iload 4, 2) := by decide +kernel
theorem d_Bx_bound_13 : decode b_Bx_bound 13 = .ok (.aload_n 0, 1) := by decide +kernel
theorem d_Bx_bound_14 : decode b_Bx_bound 14 = .ok (.getfield 19, 3) := by decide +kernel
theorem d_Bx_bound_17 : decode b_Bx_bound 17 = .ok (.isub, 1) := by decide +kernel
theorem d_Bx_bound_18 : decode b_Bx_bound 18 = .ok (.invokestatic 28, 3) := by decide +kernel
theorem d_Bx_bound_21 : decode b_Bx_bound 21 = .ok (.goto 19, 3) := by decide +kernel
theorem d_Bx_bound_24 : decode b_Bx_bound 24 = .ok (.aload_n 0, 1) := by decide +kernel
theorem d_Bx_bound_25 : decode b_Bx_bound 25 = .ok (.getfield 7, 3) := by decide +kernel
theorem d_Bx_bound_28 : decode b_Bx_bound 28 = .ok (.iload 4, 2) := by decide +kernel
theorem d_Bx_bound_30 : decode b_Bx_bound 30 = .ok (.isub, 1) := by decide +kernel
theorem d_Bx_bound_31 : decode b_Bx_bound 31 = .ok (.iload_n 1, 1) := by decide +kernel
theorem d_Bx_bound_32 : decode b_Bx_bound 32 = .ok (.aload_n 0, 1) := by decide +kernel
theorem d_Bx_bound_33 : decode b_Bx_bound 33 = .ok (.getfield 19, 3) := by decide +kernel
theorem d_Bx_bound_36 : decode b_Bx_bound 36 = .ok (.isub, 1) := by decide +kernel
theorem d_Bx_bound_37 : decode b_Bx_bound 37 = .ok (.invokestatic 28, 3) := by decide +kernel
theorem d_Bx_bound_40 : decode b_Bx_bound 40 = .ok (.istore 8, 2) := by decide +kernel
theorem d_Bx_bound_42 : decode b_Bx_bound 42 = .ok (.iload 7, 2) := by decide +kernel
theorem d_Bx_bound_44 : decode b_Bx_bound 44 = .ok (.ifCond .eq 22, 3) := by decide +kernel
theorem d_Bx_bound_47 : decode b_Bx_bound 47 = .ok (.aload_n 0, 1) := by decide +kernel
theorem d_Bx_bound_48 : decode b_Bx_bound 48 = .ok (.getfield 13, 3) := by decide +kernel
theorem d_Bx_bound_51 : decode b_Bx_bound 51 = .ok (.iload_n 2, 1) := by decide +kernel
theorem d_Bx_bound_52 : decode b_Bx_bound 52 = .ok (.isub, 1) := by decide +kernel
theorem d_Bx_bound_53 : decode b_Bx_bound 53 = .ok (.iload 5, 2) := by decide +kernel
theorem d_Bx_bound_55 : decode b_Bx_bound 55 = .ok (.aload_n 0, 1) := by decide +kernel
theorem d_Bx_bound_56 : decode b_Bx_bound 56 = .ok (.getfield 22, 3) := by decide +kernel
theorem d_Bx_bound_59 : decode b_Bx_bound 59 = .ok (.isub, 1) := by decide +kernel
theorem d_Bx_bound_60 : decode b_Bx_bound 60 = .ok (.invokestatic 28, 3) := by decide +kernel
theorem d_Bx_bound_63 : decode b_Bx_bound 63 = .ok (.goto 19, 3) := by decide +kernel
theorem d_Bx_bound_66 : decode b_Bx_bound 66 = .ok (.aload_n 0, 1) := by decide +kernel
theorem d_Bx_bound_67 : decode b_Bx_bound 67 = .ok (.getfield 13, 3) := by decide +kernel
theorem d_Bx_bound_70 : decode b_Bx_bound 70 = .ok (.iload 5, 2) := by decide +kernel
theorem d_Bx_bound_72 : decode b_Bx_bound 72 = .ok (.isub, 1) := by decide +kernel
theorem d_Bx_bound_73 : decode b_Bx_bound 73 = .ok (.iload_n 2, 1) := by decide +kernel
theorem d_Bx_bound_74 : decode b_Bx_bound 74 = .ok (.aload_n 0, 1) := by decide +kernel
theorem d_Bx_bound_75 : decode b_Bx_bound 75 = .ok (.getfield 22, 3) := by decide +kernel
theorem d_Bx_bound_78 : decode b_Bx_bound 78 = .ok (.isub, 1) := by decide +kernel
theorem d_Bx_bound_79 : decode b_Bx_bound 79 = .ok (.invokestatic 28, 3) := by decide +kernel
theorem d_Bx_bound_82 : decode b_Bx_bound 82 = .ok (.istore 9, 2) := by decide +kernel
theorem d_Bx_bound_84 : decode b_Bx_bound 84 = .ok (.iload 7, 2) := by decide +kernel
theorem d_Bx_bound_86 : decode b_Bx_bound 86 = .ok (.ifCond .eq 22, 3) := by decide +kernel
theorem d_Bx_bound_89 : decode b_Bx_bound 89 = .ok (.aload_n 0, 1) := by decide +kernel
theorem d_Bx_bound_90 : decode b_Bx_bound 90 = .ok (.getfield 16, 3) := by decide +kernel
theorem d_Bx_bound_93 : decode b_Bx_bound 93 = .ok (.iload_n 3, 1) := by decide +kernel
theorem d_Bx_bound_94 : decode b_Bx_bound 94 = .ok (.isub, 1) := by decide +kernel
theorem d_Bx_bound_95 : decode b_Bx_bound 95 = .ok (.iload 6, 2) := by decide +kernel
theorem d_Bx_bound_97 : decode b_Bx_bound 97 = .ok (.aload_n 0, 1) := by decide +kernel
theorem d_Bx_bound_98 : decode b_Bx_bound 98 = .ok (.getfield 25, 3) := by decide +kernel
theorem d_Bx_bound_101 : decode b_Bx_bound 101 = .ok (.isub, 1) := by decide +kernel
theorem d_Bx_bound_102 : decode b_Bx_bound 102 = .ok (.invokestatic 28, 3) := by decide +kernel
theorem d_Bx_bound_105 : decode b_Bx_bound 105 = .ok (.goto 19, 3) := by decide +kernel
theorem d_Bx_bound_108 : decode b_Bx_bound 108 = .ok (.aload_n 0, 1) := by decide +kernel
theorem d_Bx_bound_109 : decode b_Bx_bound 109 = .ok (.getfield 16, 3) := by decide +kernel
theorem d_Bx_bound_112 : decode b_Bx_bound 112 = .ok (.iload 6, 2) := by decide +kernel
theorem d_Bx_bound_114 : decode b_Bx_bound 114 = .ok (.isub, 1) := by decide +kernel
theorem d_Bx_bound_115 : decode b_Bx_bound 115 = .ok (.iload_n 3, 1) := by decide +kernel
theorem d_Bx_bound_116 : decode b_Bx_bound 116 = .ok (.aload_n 0, 1) := by decide +kernel
theorem d_Bx_bound_117 : decode b_Bx_bound 117 = .ok (.getfield 25, 3) := by decide +kernel
theorem d_Bx_bound_120 : decode b_Bx_bound 120 = .ok (.isub, 1) := by decide +kernel
theorem d_Bx_bound_121 : decode b_Bx_bound 121 = .ok (.invokestatic 28, 3) := by decide +kernel
theorem d_Bx_bound_124 : decode b_Bx_bound 124 = .ok (.istore 10, 2) := by decide +kernel
theorem d_Bx_bound_126 : decode b_Bx_bound 126 = .ok (.iload 8, 2) := by decide +kernel
theorem d_Bx_bound_128 : decode b_Bx_bound 128 = .ok (.iload 9, 2) := by decide +kernel
theorem d_Bx_bound_130 : decode b_Bx_bound 130 = .ok (.iload 10, 2) := by decide +kernel
theorem d_Bx_bound_132 : decode b_Bx_bound 132 = .ok (.invokestatic 28, 3) := by decide +kernel
theorem d_Bx_bound_135 : decode b_Bx_bound 135 = .ok (.invokestatic 28, 3) := by decide +kernel
theorem d_Bx_bound_138 : decode b_Bx_bound 138 = .ok (.iconst 1, 1) := by decide +kernel
theorem d_Bx_bound_139 : decode b_Bx_bound 139 = .ok (.isub, 1) := by decide +kernel
theorem d_Bx_bound_140 : decode b_Bx_bound 140 = .ok (.ireturn, 1) := by decide +kernel
theorem d_Pa_bound_0 : decode b_Pa_bound 0 = .ok (.aload_n 0, 1) := by decide +kernel
theorem d_Pa_bound_1 : decode b_Pa_bound 1 = .ok (.getfield 9, 3) := by decide +kernel
theorem d_Pa_bound_4 : decode b_Pa_bound 4 = .ok (.iconst 5, 1) := by decide +kernel
theorem d_Pa_bound_5 : decode b_Pa_bound 5 = .ok (.if_icmp .ne 7, 3) := by decide +kernel
theorem d_Pa_bound_8 : decode b_Pa_bound 8 = .ok (.iconst 1, 1) := by decide +kernel
theorem d_Pa_bound_9 : decode b_Pa_bound 9 = .ok (.goto 4, 3) := by decide +kernel
theorem d_Pa_bound_12 : decode b_Pa_bound 12 = .ok (.iconst 0, 1) := by decide +kernel
theorem d_Pa_bound_13 : decode b_Pa_bound 13 = .ok (.iload 7, 2) := by decide +kernel
theorem d_Pa_bound_15 : decode b_Pa_bound 15 = .ok (.if_icmp .eq 7, 3) := by decide +kernel
theorem d_Pa_bound_18 : decode b_Pa_bound 18 = .ok (.iconst 1, 1) := by decide +kernel
theorem d_Pa_bound_19 : decode b_Pa_bound 19 = .ok (.goto 4, 3) := by decide +kernel
theorem d_Pa_bound_22 : decode b_Pa_bound 22 = .ok (.iconst 0, 1) := by decide +kernel
theorem d_Pa_bound_23 : decode b_Pa_bound 23 = .ok (.istore 8, 2) := by decide +kernel
theorem d_Pa_bound_25 : decode b_Pa_bound 25 = .ok (.aload_n 0, 1) := by decide +kernel
theorem d_Pa_bound_26 : decode b_Pa_bound 26 = .ok (.aload_n 0, 1) := by decide +kernel
theorem d_Pa_bound_27 : decode b_Pa_bound 27 = .ok (.getfield 15, 3) := by decide +kernel
theorem d_Pa_bound_30 : decode b_Pa_bound 30 = .ok (.iload_n 1, 1) := by decide +kernel
theorem d_Pa_bound_31 : decode b_Pa_bound 31 = .ok (.iload_n 2, 1) := by decide +kernel
theorem d_Pa_bound_32 : decode b_Pa_bound 32 = .ok (.iload_n 3, 1) := by decide +kernel
theorem d_Pa_bound_33 : decode b_Pa_bound 33 = .ok (.iload 4, 2) := by decide +kernel
theorem d_Pa_bound_35 : decode b_Pa_bound 35 = .ok (.iload 5, 2) := by decide +kernel
theorem d_Pa_bound_37 : decode b_Pa_bound 37 = .ok (.iload 6, 2) := by decide +kernel
theorem d_Pa_bound_39 : decode b_Pa_bound 39 = .ok (.iload 7, 2) := by decide +kernel
theorem d_Pa_bound_41 : decode b_Pa_bound 41 = .ok (.invokevirtual 30, 3) := by decide +kernel
theorem d_Pa_bound_44 : decode b_Pa_bound 44 = .ok (.aload_n 0, 1) := by decide +kernel
theorem d_Pa_bound_45 : decode b_Pa_bound 45 = .ok (.getfield 19, 3) := by decide +kernel
theorem d_Pa_bound_48 : decode b_Pa_bound 48 = .ok (.iload_n 1, 1) := by decide +kernel
theorem d_Pa_bound_49 : decode b_Pa_bound 49 = .ok (.iload_n 2, 1) := by decide +kernel
theorem d_Pa_bound_50 : decode b_Pa_bound 50 = .ok (.iload_n 3, 1) := by decide +kernel
theorem d_Pa_bound_51 : decode b_Pa_bound 51 = .ok (.iload 4, 2) := by decide +kernel
theorem d_Pa_bound_53 : decode b_Pa_bound 53 = .ok (.iload 5, 2) := by decide +kernel
theorem d_Pa_bound_55 : decode b_Pa_bound 55 = .ok (.iload 6, 2) := by decide +kernel
theorem d_Pa_bound_57 : decode b_Pa_bound 57 = .ok (.iload 8, 2) := by decide +kernel
theorem d_Pa_bound_59 : decode b_Pa_bound 59 = .ok (.invokevirtual 30, 3) := by decide +kernel
theorem d_Pa_bound_62 : decode b_Pa_bound 62 = .ok (.invokevirtual 26, 3) := by decide +kernel
theorem d_Pa_bound_65 : decode b_Pa_bound 65 = .ok (.ireturn, 1) := by decide +kernel
theorem d_Pl_bound_0 : decode b_Pl_bound 0 = .ok (.aload_n 0, 1) := by decide +kernel
theorem d_Pl_bound_1 : decode b_Pl_bound 1 = .ok (.getfield 9, 3) := by decide +kernel
theorem d_Pl_bound_4 : decode b_Pl_bound 4 = .ok (.tableswitch 117 6 8 #[28, 77, 96], 28) := by decide +kernel
theorem d_Pl_bound_32 : decode b_Pl_bound 32 = .ok (.aload_n 0, 1) := by decide +kernel
theorem d_Pl_bound_33 : decode b_Pl_bound 33 = .ok (.getfield 24, 3) := by decide +kernel
theorem d_Pl_bound_36 : decode b_Pl_bound 36 = .ok (.iload_n 1, 1) := by decide +kernel
theorem d_Pl_bound_37 : decode b_Pl_bound 37 = .ok (.aload_n 0, 1) := by decide +kernel
theorem d_Pl_bound_38 : decode b_Pl_bound 38 = .ok (.getfield 15, 3) := by decide +kernel
theorem d_Pl_bound_41 : decode b_Pl_bound 41 = .ok (.isub, 1) := by decide +kernel
theorem d_Pl_bound_42 : decode b_Pl_bound 42 = .ok (.iload_n 2, 1) := by decide +kernel
theorem d_Pl_bound_43 : decode b_Pl_bound 43 = .ok (.aload_n 0, 1) := by decide +kernel
theorem d_Pl_bound_44 : decode b_Pl_bound 44 = .ok (.getfield 18, 3) := by decide +kernel
theorem d_Pl_bound_47 : decode b_Pl_bound 47 = .ok (.isub, 1) := by decide +kernel
theorem d_Pl_bound_48 : decode b_Pl_bound 48 = .ok (.iload_n 3, 1) := by decide +kernel
theorem d_Pl_bound_49 : decode b_Pl_bound 49 = .ok (.aload_n 0, 1) := by decide +kernel
theorem d_Pl_bound_50 : decode b_Pl_bound 50 = .ok (.getfield 21, 3) := by decide +kernel
theorem d_Pl_bound_53 : decode b_Pl_bound 53 = .ok (.isub, 1) := by decide +kernel
theorem d_Pl_bound_54 : decode b_Pl_bound 54 = .ok (.iload 4, 2) := by decide +kernel
theorem d_Pl_bound_56 : decode b_Pl_bound 56 = .ok (.aload_n 0, 1) := by decide +kernel
theorem d_Pl_bound_57 : decode b_Pl_bound 57 = .ok (.getfield 15, 3) := by decide +kernel
theorem d_Pl_bound_60 : decode b_Pl_bound 60 = .ok (.isub, 1) := by decide +kernel
theorem d_Pl_bound_61 : decode b_Pl_bound 61 = .ok (.iload 5, 2) := by decide +kernel
theorem d_Pl_bound_63 : decode b_Pl_bound 63 = .ok (.aload_n 0, 1) := by decide +kernel
theorem d_Pl_bound_64 : decode b_Pl_bound 64 = .ok (.getfield 18, 3) := by decide +kernel
theorem d_Pl_bound_67 : decode b_Pl_bound 67 = .ok (.isub, 1) := by decide +kernel
theorem d_Pl_bound_68 : decode b_Pl_bound 68 = .ok (.iload 6, 2) := by decide +kernel
theorem d_Pl_bound_70 : decode b_Pl_bound 70 = .ok (.aload_n 0, 1) := by decide +kernel
theorem d_Pl_bound_71 : decode b_Pl_bound 71 = .ok (.getfield 21, 3) := by decide +kernel
theorem d_Pl_bound_74 : decode b_Pl_bound 74 = .ok (.isub, 1) := by decide +kernel
theorem d_Pl_bound_75 : decode b_Pl_bound 75 = .ok (.iload 7, 2) := by decide +kernel
theorem d_Pl_bound_77 : decode b_Pl_bound 77 = .ok (.invokevirtual 36, 3) := by decide +kernel
theorem d_Pl_bound_80 : decode b_Pl_bound 80 = .ok (.ireturn, 1) := by decide +kernel
theorem d_Pl_bound_81 : decode b_Pl_bound 81 = .ok (.aload_n 0, 1) := by decide +kernel
theorem d_Pl_bound_82 : decode b_Pl_bound 82 = .ok (.getfield 24, 3) := by decide +kernel
theorem d_Pl_bound_85 : decode b_Pl_bound 85 = .ok (.iload_n 2, 1) := by decide +kernel
theorem d_Pl_bound_86 : decode b_Pl_bound 86 = .ok (.iload_n 3, 1) := by decide +kernel
theorem d_Pl_bound_87 : decode b_Pl_bound 87 = .ok (.iload_n 1, 1) := by decide +kernel
theorem d_Pl_bound_88 : decode b_Pl_bound 88 = .ok (.iload 5, 2) := by decide +kernel
theorem d_Pl_bound_90 : decode b_Pl_bound 90 = .ok (.iload 6, 2) := by decide +kernel
theorem d_Pl_bound_92 : decode b_Pl_bound 92 = .ok (.iload 4, 2) := by decide +kernel
theorem d_Pl_bound_94 : decode b_Pl_bound 94 = .ok (.iload 7, 2) := by decide +kernel
theorem d_Pl_bound_96 : decode b_Pl_bound 96 = .ok (.invokevirtual 36, 3) := by decide +kernel
theorem d_Pl_bound_99 : decode b_Pl_bound 99 = .ok (.ireturn, 1) := by decide +kernel
theorem d_Pl_bound_100 : decode b_Pl_bound 100 = .ok (.aload_n 0, 1) := by decide +kernel
theorem d_Pl_bound_101 : decode b_Pl_bound 101 = .ok (.getfield 24, 3) := by decide +kernel
theorem d_Pl_bound_104 : decode b_Pl_bound 104 = .ok (.iload 4, 2) := by decide +kernel
theorem d_Pl_bound_106 : decode b_Pl_bound 106 = .ok (.ineg, 1) := by decide +kernel
theorem d_Pl_bound_107 : decode b_Pl_bound 107 = .ok (.iload_n 2, 1) := by decide +kernel
theorem d_Pl_bound_108 : decode b_Pl_bound 108 = .ok (.iload_n 3, 1) := by decide +kernel
theorem d_Pl_bound_109 : decode b_Pl_bound 109 = .ok (.iload_n 1, 1) := by decide +kernel
theorem d_Pl_bound_110 : decode b_Pl_bound 110 = .ok (.ineg, 1) := by decide +kernel
theorem d_Pl_bound_111 : decode b_Pl_bound 111 = .ok (.iload 5, 2) := by decide +kernel
theorem d_Pl_bound_113 : decode b_Pl_bound 113 = .ok (.iload 6, 2) := by decide +kernel
theorem d_Pl_bound_115 : decode b_Pl_bound 115 = .ok (.iload 7, 2) := by decide +kernel
theorem d_Pl_bound_117 : decode b_Pl_bound 117 = .ok (.invokevirtual 36, 3) := by decide +kernel
theorem d_Pl_bound_120 : decode b_Pl_bound 120 = .ok (.ireturn, 1) := by decide +kernel
theorem d_Pl_bound_121 : decode b_Pl_bound 121 = .ok (.aload_n 0, 1) := by decide +kernel
theorem d_Pl_bound_122 : decode b_Pl_bound 122 = .ok (.iload_n 1, 1) := by decide +kernel
theorem d_Pl_bound_123 : decode b_Pl_bound 123 = .ok (.iload_n 2, 1) := by decide +kernel
theorem d_Pl_bound_124 : decode b_Pl_bound 124 = .ok (.iload_n 3, 1) := by decide +kernel
theorem d_Pl_bound_125 : decode b_Pl_bound 125 = .ok (.iload 4, 2) := by decide +kernel
theorem d_Pl_bound_127 : decode b_Pl_bound 127 = .ok (.iload 5, 2) := by decide +kernel
theorem d_Pl_bound_129 : decode b_Pl_bound 129 = .ok (.iload 6, 2) := by decide +kernel
theorem d_Pl_bound_131 : decode b_Pl_bound 131 = .ok (.iload 7, 2) := by decide +kernel
theorem d_Pl_bound_133 : decode b_Pl_bound 133 = .ok (.invokevirtual 40, 3) := by decide +kernel
theorem d_Pl_bound_136 : decode b_Pl_bound 136 = .ok (.ireturn, 1) := by decide +kernel
theorem d_Pn_bound_0 : decode b_Pn_bound 0 = .ok (.iload 7, 2) := by decide +kernel
theorem d_Pn_bound_2 : decode b_Pn_bound 2 = .ok (.ifCond .eq 22, 3) := by decide +kernel
theorem d_Pn_bound_5 : decode b_Pn_bound 5 = .ok (.aload_n 0, 1) := by decide +kernel
theorem d_Pn_bound_6 : decode b_Pn_bound 6 = .ok (.getfield 7, 3) := by decide +kernel
theorem d_Pn_bound_9 : decode b_Pn_bound 9 = .ok (.iload_n 1, 1) := by decide +kernel
theorem d_Pn_bound_10 : decode b_Pn_bound 10 = .ok (.imul, 1) := by decide +kernel
theorem d_Pn_bound_11 : decode b_Pn_bound 11 = .ok (.aload_n 0, 1) := by decide +kernel
theorem d_Pn_bound_12 : decode b_Pn_bound 12 = .ok (.getfield 7, 3) := by decide +kernel
theorem d_Pn_bound_15 : decode b_Pn_bound 15 = .ok (.iload 4, 2) := by decide +kernel
theorem d_Pn_bound_17 : decode b_Pn_bound 17 = .ok (.imul, 1) := by decide +kernel
theorem d_Pn_bound_18 : decode b_Pn_bound 18 = .ok (.invokestatic 22, 3) := by decide +kernel
theorem d_Pn_bound_21 : decode b_Pn_bound 21 = .ok (.goto 19, 3) := by decide +kernel
theorem d_Pn_bound_24 : decode b_Pn_bound 24 = .ok (.aload_n 0, 1) := by decide +kernel
theorem d_Pn_bound_25 : decode b_Pn_bound 25 = .ok (.getfield 7, 3) := by decide +kernel
theorem d_Pn_bound_28 : decode b_Pn_bound 28 = .ok (.iload_n 1, 1) := by decide +kernel
theorem d_Pn_bound_29 : decode b_Pn_bound 29 = .ok (.imul, 1) := by decide +kernel
theorem d_Pn_bound_30 : decode b_Pn_bound 30 = .ok (.aload_n 0, 1) := by decide +kernel
theorem d_Pn_bound_31 : decode b_Pn_bound 31 = .ok (.getfield 7, 3) := by decide +kernel
theorem d_Pn_bound_34 : decode b_Pn_bound 34 = .ok (.iload 4, 2) := by decide +kernel
theorem d_Pn_bound_36 : decode b_Pn_bound 36 = .ok (.imul, 1) := by decide +kernel
theorem d_Pn_bound_37 : decode b_Pn_bound 37 = .ok (.invokestatic 28, 3) := by decide +kernel
theorem d_Pn_bound_40 : decode b_Pn_bound 40 = .ok (.istore 8, 2) := by decide +kernel
theorem d_Pn_bound_42 : decode b_Pn_bound 42 = .ok (.iload 7, 2) := by decide +kernel
theorem d_Pn_bound_44 : decode b_Pn_bound 44 = .ok (.ifCond .eq 22, 3) := by decide +kernel
theorem d_Pn_bound_47 : decode b_Pn_bound 47 = .ok (.aload_n 0, 1) := by decide +kernel
theorem d_Pn_bound_48 : decode b_Pn_bound 48 = .ok (.getfield 13, 3) := by decide +kernel
theorem d_Pn_bound_51 : decode b_Pn_bound 51 = .ok (.iload_n 2, 1) := by decide +kernel
theorem d_Pn_bound_52 : decode b_Pn_bound 52 = .ok (.imul, 1) := by decide +kernel
theorem d_Pn_bound_53 : decode b_Pn_bound 53 = .ok (.aload_n 0, 1) := by decide +kernel
theorem d_Pn_bound_54 : decode b_Pn_bound 54 = .ok (.getfield 13, 3) := by decide +kernel
theorem d_Pn_bound_57 : decode b_Pn_bound 57 = .ok (.iload 5, 2) := by decide +kernel
theorem d_Pn_bound_59 : decode b_Pn_bound 59 = .ok (.imul, 1) := by decide +kernel
theorem d_Pn_bound_60 : decode b_Pn_bound 60 = .ok (.invokestatic 22, 3) := by decide +kernel
theorem d_Pn_bound_63 : decode b_Pn_bound 63 = .ok (.goto 19, 3) := by decide +kernel
theorem d_Pn_bound_66 : decode b_Pn_bound 66 = .ok (.aload_n 0, 1) := by decide +kernel
theorem d_Pn_bound_67 : decode b_Pn_bound 67 = .ok (.getfield 13, 3) := by decide +kernel
theorem d_Pn_bound_70 : decode b_Pn_bound 70 = .ok (.iload_n 2, 1) := by decide +kernel
theorem d_Pn_bound_71 : decode b_Pn_bound 71 = .ok (.imul, 1) := by decide +kernel
theorem d_Pn_bound_72 : decode b_Pn_bound 72 = .ok (.aload_n 0, 1) := by decide +kernel
theorem d_Pn_bound_73 : decode b_Pn_bound 73 = .ok (.getfield 13, 3) := by decide +kernel
theorem d_Pn_bound_76 : decode b_Pn_bound 76 = .ok (.iload 5, 2) := by decide +kernel
theorem d_Pn_bound_78 : decode b_Pn_bound 78 = .ok (.imul, 1) := by decide +kernel
theorem d_Pn_bound_79 : decode b_Pn_bound 79 = .ok (.invokestatic 28, 3) := by decide +kernel
theorem d_Pn_bound_82 : decode b_Pn_bound 82 = .ok (.istore 9, 2) := by decide +kernel
theorem d_Pn_bound_84 : decode b_Pn_bound 84 = .ok (.iload 7, 2) := by decide +kernel
theorem d_Pn_bound_86 : decode b_Pn_bound 86 = .ok (.ifCond .eq 22, 3) := by decide +kernel
theorem d_Pn_bound_89 : decode b_Pn_bound 89 = .ok (.aload_n 0, 1) := by decide +kernel
theorem d_Pn_bound_90 : decode b_Pn_bound 90 = .ok (.getfield 16, 3) := by decide +kernel
theorem d_Pn_bound_93 : decode b_Pn_bound 93 = .ok (.iload_n 3, 1) := by decide +kernel
theorem d_Pn_bound_94 : decode b_Pn_bound 94 = .ok (.imul, 1) := by decide +kernel
theorem d_Pn_bound_95 : decode b_Pn_bound 95 = .ok (.aload_n 0, 1) := by decide +kernel
theorem d_Pn_bound_96 : decode b_Pn_bound 96 = .ok (.getfield 16, 3) := by decide +kernel
theorem d_Pn_bound_99 : decode b_Pn_bound 99 = .ok (.iload 6, 2) := by decide +kernel
theorem d_Pn_bound_101 : decode b_Pn_bound 101 = .ok (.imul, 1) := by decide +kernel
theorem d_Pn_bound_102 : decode b_Pn_bound 102 = .ok (.invokestatic 22, 3) := by decide +kernel
theorem d_Pn_bound_105 : decode b_Pn_bound 105 = .ok (.goto 19, 3) := by decide +kernel
theorem d_Pn_bound_108 : decode b_Pn_bound 108 = .ok (.aload_n 0, 1) := by decide +kernel
theorem d_Pn_bound_109 : decode b_Pn_bound 109 = .ok (.getfield 16, 3) := by decide +kernel
theorem d_Pn_bound_112 : decode b_Pn_bound 112 = .ok (.iload_n 3, 1) := by decide +kernel
theorem d_Pn_bound_113 : decode b_Pn_bound 113 = .ok (.imul, 1) := by decide +kernel
theorem d_Pn_bound_114 : decode b_Pn_bound 114 = .ok (.aload_n 0, 1) := by decide +kernel
theorem d_Pn_bound_115 : decode b_Pn_bound 115 = .ok (.getfield 16, 3) := by decide +kernel
theorem d_Pn_bound_118 : decode b_Pn_bound 118 = .ok (.iload 6, 2) := by decide +kernel
theorem d_Pn_bound_120 : decode b_Pn_bound 120 = .ok (.imul, 1) := by decide +kernel
theorem d_Pn_bound_121 : decode b_Pn_bound 121 = .ok (.invokestatic 28, 3) := by decide +kernel
theorem d_Pn_bound_124 : decode b_Pn_bound 124 = .ok (.istore 10, 2) := by decide +kernel
theorem d_Pn_bound_126 : decode b_Pn_bound 126 = .ok (.iload 8, 2) := by decide +kernel
theorem d_Pn_bound_128 : decode b_Pn_bound 128 = .ok (.iload 9, 2) := by decide +kernel
theorem d_Pn_bound_130 : decode b_Pn_bound 130 = .ok (.iadd, 1) := by decide +kernel
theorem d_Pn_bound_131 : decode b_Pn_bound 131 = .ok (.iload 10, 2) := by decide +kernel
theorem d_Pn_bound_133 : decode b_Pn_bound 133 = .ok (.iadd, 1) := by decide +kernel
theorem d_Pn_bound_134 : decode b_Pn_bound 134 = .ok (.aload_n 0, 1) := by decide +kernel
theorem d_Pn_bound_135 : decode b_Pn_bound 135 = .ok (.getfield 19, 3) := by decide +kernel
theorem d_Pn_bound_138 : decode b_Pn_bound 138 = .ok (.isub, 1) := by decide +kernel
theorem d_Pn_bound_139 : decode b_Pn_bound 139 = .ok (.ireturn, 1) := by decide +kernel
theorem d_Pl_repeatedBound_0 : decode b_Pl_repeatedBound 0 = .ok (.aload_n 0, 1) := by decide +kernel
theorem d_Pl_repeatedBound_1 : decode b_Pl_repeatedBound 1 = .ok (.iload_n 1, 1) := by decide +kernel
theorem d_Pl_repeatedBound_2 : decode b_Pl_repeatedBound 2 = .ok (.invokevirtual 32, 3) := by decide +kernel
theorem d_Pl_repeatedBound_5 : decode b_Pl_repeatedBound 5 = .ok (.istore 8, 2) := by decide +kernel
theorem d_Pl_repeatedBound_7 : decode b_Pl_repeatedBound 7 = .ok (.aload_n 0, 1) := by decide +kernel
theorem d_Pl_repeatedBound_8 : decode b_Pl_repeatedBound 8 = .ok (.iload 4, 2) := by decide +kernel
theorem d_Pl_repeatedBound_10 : decode b_Pl_repeatedBound 10 = .ok (.invokevirtual 32, 3) := by decide +kernel
theorem d_Pl_repeatedBound_13 : decode b_Pl_repeatedBound 13 = .ok (.istore 9, 2) := by decide +kernel
theorem d_Pl_repeatedBound_15 : decode b_Pl_repeatedBound 15 = .ok (.iload 4, 2) := by decide +kernel
theorem d_Pl_repeatedBound_17 : decode b_Pl_repeatedBound 17 = .ok (.iload_n 1, 1) := by decide +kernel
theorem d_Pl_repeatedBound_18 : decode b_Pl_repeatedBound 18 = .ok (.isub, 1) := by decide +kernel
theorem d_Pl_repeatedBound_19 : decode b_Pl_repeatedBound 19 = .ok (.iconst 1, 1) := by decide +kernel
theorem d_Pl_repeatedBound_20 : decode b_Pl_repeatedBound 20 = .ok (.iadd, 1) := by decide +kernel
theorem d_Pl_repeatedBound_21 : decode b_Pl_repeatedBound 21 = .ok (.aload_n 0, 1) := by decide +kernel
theorem d_Pl_repeatedBound_22 : decode b_Pl_repeatedBound 22 = .ok (.getfield 15, 3) := by decide +kernel
theorem d_Pl_repeatedBound_25 : decode b_Pl_repeatedBound 25 = .ok (.if_icmp .ge 10, 3) := by decide +kernel
theorem d_Pl_repeatedBound_28 : decode b_Pl_repeatedBound 28 = .ok (.iload 9, 2) := by decide +kernel
theorem d_Pl_repeatedBound_30 : decode b_Pl_repeatedBound 30 = .ok (.iload 8, 2) := by decide +kernel
theorem d_Pl_repeatedBound_32 : decode b_Pl_repeatedBound 32 = .ok (.if_icmp .ge 14, 3) := by decide +kernel
theorem d_Pl_repeatedBound_35 : decode b_Pl_repeatedBound 35 = .ok (.iconst 0, 1) := by decide +kernel
theorem d_Pl_repeatedBound_36 : decode b_Pl_repeatedBound 36 = .ok (.istore 8, 2) := by decide +kernel
theorem d_Pl_repeatedBound_38 : decode b_Pl_repeatedBound 38 = .ok (.aload_n 0, 1) := by decide +kernel
theorem d_Pl_repeatedBound_39 : decode b_Pl_repeatedBound 39 = .ok (.getfield 15, 3) := by decide +kernel
theorem d_Pl_repeatedBound_42 : decode b_Pl_repeatedBound 42 = .ok (.iconst 1, 1) := by decide +kernel
theorem d_Pl_repeatedBound_43 : decode b_Pl_repeatedBound 43 = .ok (.isub, 1) := by decide +kernel
theorem d_Pl_repeatedBound_44 : decode b_Pl_repeatedBound 44 = .ok (.istore 9, 2) := by decide +kernel
theorem d_Pl_repeatedBound_46 : decode b_Pl_repeatedBound 46 = .ok (.aload_n 0, 1) := by decide +kernel
theorem d_Pl_repeatedBound_47 : decode b_Pl_repeatedBound 47 = .ok (.getfield 24, 3) := by decide +kernel
theorem d_Pl_repeatedBound_50 : decode b_Pl_repeatedBound 50 = .ok (.iload 8, 2) := by decide +kernel
theorem d_Pl_repeatedBound_52 : decode b_Pl_repeatedBound 52 = .ok (.iload_n 2, 1) := by decide +kernel
theorem d_Pl_repeatedBound_53 : decode b_Pl_repeatedBound 53 = .ok (.iload_n 3, 1) := by decide +kernel
theorem d_Pl_repeatedBound_54 : decode b_Pl_repeatedBound 54 = .ok (.iload 9, 2) := by decide +kernel
theorem d_Pl_repeatedBound_56 : decode b_Pl_repeatedBound 56 = .ok (.iload 5, 2) := by decide +kernel
theorem d_Pl_repeatedBound_58 : decode b_Pl_repeatedBound 58 = .ok (.iload 6, 2) := by decide +kernel
theorem d_Pl_repeatedBound_60 : decode b_Pl_repeatedBound 60 = .ok (.iload 7, 2) := by decide +kernel
theorem d_Pl_repeatedBound_62 : decode b_Pl_repeatedBound 62 = .ok (.invokevirtual 36, 3) := by decide +kernel
theorem d_Pl_repeatedBound_65 : decode b_Pl_repeatedBound 65 = .ok (.ireturn, 1) := by decide +kernel
theorem d_In_bitCount_0 : decode b_In_bitCount 0 = .ok (.iload_n 0, 1) := by decide +kernel
theorem d_In_bitCount_1 : decode b_In_bitCount 1 = .ok (.iload_n 0, 1) := by decide +kernel
theorem d_In_bitCount_2 : decode b_In_bitCount 2 = .ok (.iconst 1, 1) := by decide +kernel
theorem d_In_bitCount_3 : decode b_In_bitCount 3 = .ok (.iushr, 1) := by decide +kernel
theorem d_In_bitCount_4 : decode b_In_bitCount 4 = .ok (.ldc_w 265, 3) := by decide +kernel
theorem d_In_bitCount_7 : decode b_In_bitCount 7 = .ok (.iand, 1) := by decide +kernel
theorem d_In_bitCount_8 : decode b_In_bitCount 8 = .ok (.isub, 1) := by decide +kernel
theorem d_In_bitCount_9 : decode b_In_bitCount 9 = .ok (.istore_n 0, 1) := by decide +kernel
theorem d_In_bitCount_10 : decode b_In_bitCount 10 = .ok (.iload_n 0, 1) := by decide +kernel
theorem d_In_bitCount_11 : decode b_In_bitCount 11 = .ok (.ldc_w 266, 3) := by decide +kernel
theorem d_In_bitCount_14 : decode b_In_bitCount 14 = .ok (.iand, 1) := by decide +kernel
theorem d_In_bitCount_15 : decode b_In_bitCount 15 = .ok (.iload_n 0, 1) := by decide +kernel
theorem d_In_bitCount_16 : decode b_In_bitCount 16 = .ok (.iconst 2, 1) := by decide +kernel
theorem d_In_bitCount_17 : decode b_In_bitCount 17 = .ok (.iushr, 1) := by decide +kernel
theorem d_In_bitCount_18 : decode b_In_bitCount 18 = .ok (.ldc_w 266, 3) := by decide +kernel
theorem d_In_bitCount_21 : decode b_In_bitCount 21 = .ok (.iand, 1) := by decide +kernel
theorem d_In_bitCount_22 : decode b_In_bitCount 22 = .ok (.iadd, 1) := by decide +kernel
theorem d_In_bitCount_23 : decode b_In_bitCount 23 = .ok (.istore_n 0, 1) := by decide +kernel
theorem d_In_bitCount_24 : decode b_In_bitCount 24 = .ok (.iload_n 0, 1) := by decide +kernel
theorem d_In_bitCount_25 : decode b_In_bitCount 25 = .ok (.iload_n 0, 1) := by decide +kernel
theorem d_In_bitCount_26 : decode b_In_bitCount 26 = .ok (.iconst 4, 1) := by decide +kernel
theorem d_In_bitCount_27 : decode b_In_bitCount 27 = .ok (.iushr, 1) := by decide +kernel
theorem d_In_bitCount_28 : decode b_In_bitCount 28 = .ok (.iadd, 1) := by decide +kernel
theorem d_In_bitCount_29 : decode b_In_bitCount 29 = .ok (.ldc_w 267, 3) := by decide +kernel
theorem d_In_bitCount_32 : decode b_In_bitCount 32 = .ok (.iand, 1) := by decide +kernel
theorem d_In_bitCount_33 : decode b_In_bitCount 33 = .ok (.istore_n 0, 1) := by decide +kernel
theorem d_In_bitCount_34 : decode b_In_bitCount 34 = .ok (.iload_n 0, 1) := by decide +kernel
theorem d_In_bitCount_35 : decode b_In_bitCount 35 = .ok (.iload_n 0, 1) := by decide +kernel
theorem d_In_bitCount_36 : decode b_In_bitCount 36 = .ok (.bipush 8, 2) := by decide +kernel
theorem d_In_bitCount_38 : decode b_In_bitCount 38 = .ok (.iushr, 1) := by decide +kernel
theorem d_In_bitCount_39 : decode b_In_bitCount 39 = .ok (.iadd, 1) := by decide +kernel
theorem d_In_bitCount_40 : decode b_In_bitCount 40 = .ok (.istore_n 0, 1) := by decide +kernel
theorem d_In_bitCount_41 : decode b_In_bitCount 41 = .ok (.iload_n 0, 1) := by decide +kernel
theorem d_In_bitCount_42 : decode b_In_bitCount 42 = .ok (.iload_n 0, 1) := by decide +kernel
theorem d_In_bitCount_43 : decode b_In_bitCount 43 = .ok (.bipush 16, 2) := by decide +kernel
theorem d_In_bitCount_45 : decode b_In_bitCount 45 = .ok (.iushr, 1) := by decide +kernel
theorem d_In_bitCount_46 : decode b_In_bitCount 46 = .ok (.iadd, 1) := by decide +kernel
theorem d_In_bitCount_47 : decode b_In_bitCount 47 = .ok (.istore_n 0, 1) := by decide +kernel
theorem d_In_bitCount_48 : decode b_In_bitCount 48 = .ok (.iload_n 0, 1) := by decide +kernel
theorem d_In_bitCount_49 : decode b_In_bitCount 49 = .ok (.bipush 63, 2) := by decide +kernel
theorem d_In_bitCount_51 : decode b_In_bitCount 51 = .ok (.iand, 1) := by decide +kernel
theorem d_In_bitCount_52 : decode b_In_bitCount 52 = .ok (.ireturn, 1) := by decide +kernel
theorem d_In_numberOfTrailingZeros_0 : decode b_In_numberOfTrailingZeros 0 = .ok (.iload_n 0, 1) := by decide +kernel
theorem d_In_numberOfTrailingZeros_1 : decode b_In_numberOfTrailingZeros 1 = .ok (.iconst (-1), 1) := by decide +kernel
theorem d_In_numberOfTrailingZeros_2 : decode b_In_numberOfTrailingZeros 2 = .ok (.ixor, 1) := by decide +kernel
theorem d_In_numberOfTrailingZeros_3 : decode b_In_numberOfTrailingZeros 3 = .ok (.iload_n 0, 1) := by decide +kernel
theorem d_In_numberOfTrailingZeros_4 : decode b_In_numberOfTrailingZeros 4 = .ok (.iconst 1, 1) := by decide +kernel
theorem d_In_numberOfTrailingZeros_5 : decode b_In_numberOfTrailingZeros 5 = .ok (.isub, 1) := by decide +kernel
theorem d_In_numberOfTrailingZeros_6 : decode b_In_numberOfTrailingZeros 6 = .ok (.iand, 1) := by decide +kernel
theorem d_In_numberOfTrailingZeros_7 : decode b_In_numberOfTrailingZeros 7 = .ok (.istore_n 0, 1) := by decide +kernel
theorem d_In_numberOfTrailingZeros_8 : decode b_In_numberOfTrailingZeros 8 = .ok (.iload_n 0, 1) := by decide +kernel
theorem d_In_numberOfTrailingZeros_9 : decode b_In_numberOfTrailingZeros 9 = .ok (.ifCond .gt 8, 3) := by decide +kernel
theorem d_In_numberOfTrailingZeros_12 : decode b_In_numberOfTrailingZeros 12 = .ok (.iload_n 0, 1) := by decide +kernel
theorem d_In_numberOfTrailingZeros_13 : decode b_In_numberOfTrailingZeros 13 = .ok (.bipush 32, 2) := by decide +kernel
theorem d_In_numberOfTrailingZeros_15 : decode b_In_numberOfTrailingZeros 15 = .ok (.iand, 1) := by decide +kernel
theorem d_In_numberOfTrailingZeros_16 : decode b_In_numberOfTrailingZeros 16 = .ok (.ireturn, 1) := by decide +kernel
theorem d_In_numberOfTrailingZeros_17 : decode b_In_numberOfTrailingZeros 17 = .ok (.iconst 1, 1) := by decide +kernel
theorem d_In_numberOfTrailingZeros_18 : decode b_In_numberOfTrailingZeros 18 = .ok (.istore_n 1, 1) := by decide +kernel
theorem d_In_numberOfTrailingZeros_19 : decode b_In_numberOfTrailingZeros 19 = .ok (.iload_n 0, 1) := by decide +kernel
theorem d_In_numberOfTrailingZeros_20 : decode b_In_numberOfTrailingZeros 20 = .ok (.ldc_w 264, 3) := by decide +kernel
theorem d_In_numberOfTrailingZeros_23 : decode b_In_numberOfTrailingZeros 23 = .ok (.if_icmp .le 11, 3) := by decide +kernel
theorem d_In_numberOfTrailingZeros_26 : decode b_In_numberOfTrailingZeros 26 = .ok (.iinc 1 16, 3) := by decide +kernel
theorem d_In_numberOfTrailingZeros_29 : decode b_In_numberOfTrailingZeros 29 = .ok (.iload_n 0, 1) := by decide +kernel
theorem d_In_numberOfTrailingZeros_30 : decode b_In_numberOfTrailingZeros 30 = .ok (.bipush 16, 2) := by decide +kernel
theorem d_In_numberOfTrailingZeros_32 : decode b_In_numberOfTrailingZeros 32 = .ok (.iushr, 1) := by decide +kernel
theorem d_In_numberOfTrailingZeros_33 : decode b_In_numberOfTrailingZeros 33 = .ok (.istore_n 0, 1) := by decide +kernel
theorem d_In_numberOfTrailingZeros_34 : decode b_In_numberOfTrailingZeros 34 = .ok (.iload_n 0, 1) := by decide +kernel
theorem d_In_numberOfTrailingZeros_35 : decode b_In_numberOfTrailingZeros 35 = .ok (.sipush 256, 3) := by decide +kernel
theorem d_In_numberOfTrailingZeros_38 : decode b_In_numberOfTrailingZeros 38 = .ok (.if_icmp .le 11, 3) := by decide +kernel
theorem d_In_numberOfTrailingZeros_41 : decode b_In_numberOfTrailingZeros 41 = .ok (.iinc 1 8, 3) := by decide +kernel
theorem d_In_numberOfTrailingZeros_44 : decode b_In_numberOfTrailingZeros 44 = .ok (.iload_n 0, 1) := by decide +kernel
theorem d_In_numberOfTrailingZeros_45 : decode b_In_numberOfTrailingZeros 45 = .ok (.bipush 8, 2) := by decide +kernel
theorem d_In_numberOfTrailingZeros_47 : decode b_In_numberOfTrailingZeros 47 = .ok (.iushr, 1) := by decide +kernel
theorem d_In_numberOfTrailingZeros_48 : decode b_In_numberOfTrailingZeros 48 = .ok (.istore_n 0, 1) := by decide +kernel
theorem d_In_numberOfTrailingZeros_49 : decode b_In_numberOfTrailingZeros 49 = .ok (.iload_n 0, 1) := by decide +kernel
theorem d_In_numberOfTrailingZeros_50 : decode b_In_numberOfTrailingZeros 50 = .ok (.bipush 16, 2) := by decide +kernel
theorem d_In_numberOfTrailingZeros_52 : decode b_In_numberOfTrailingZeros 52 = .ok (.if_icmp .le 10, 3) := by decide +kernel
theorem d_In_numberOfTrailingZeros_55 : decode b_In_numberOfTrailingZeros 55 = .ok (.iinc 1 4, 3) := by decide +kernel
theorem d_In_numberOfTrailingZeros_58 : decode b_In_numberOfTrailingZeros 58 = .ok (.iload_n 0, 1) := by decide +kernel
theorem d_In_numberOfTrailingZeros_59 : decode b_In_numberOfTrailingZeros 59 = .ok (.iconst 4, 1) := by decide +kernel
theorem d_In_numberOfTrailingZeros_60 : decode b_In_numberOfTrailingZeros 60 = .ok (.iushr, 1) := by decide +kernel
theorem d_In_numberOfTrailingZeros_61 : decode b_In_numberOfTrailingZeros 61 = .ok (.istore_n 0, 1) := by decide +kernel
theorem d_In_numberOfTrailingZeros_62 : decode b_In_numberOfTrailingZeros 62 = .ok (.iload_n 0, 1) := by decide +kernel
theorem d_In_numberOfTrailingZeros_63 : decode b_In_numberOfTrailingZeros 63 = .ok (.iconst 4, 1) := by decide +kernel
theorem d_In_numberOfTrailingZeros_64 : decode b_In_numberOfTrailingZeros 64 = .ok (.if_icmp .le 10, 3) := by decide +kernel
theorem d_In_numberOfTrailingZeros_67 : decode b_In_numberOfTrailingZeros 67 = .ok (.iinc 1 2, 3) := by decide +kernel
theorem d_In_numberOfTrailingZeros_70 : decode b_In_numberOfTrailingZeros 70 = .ok (.iload_n 0, 1) := by decide +kernel
theorem d_In_numberOfTrailingZeros_71 : decode b_In_numberOfTrailingZeros 71 = .ok (.iconst 2, 1) := by decide +kernel
theorem d_In_numberOfTrailingZeros_72 : decode b_In_numberOfTrailingZeros 72 = .ok (.iushr, 1) := by decide +kernel
theorem d_In_numberOfTrailingZeros_73 : decode b_In_numberOfTrailingZeros 73 = .ok (.istore_n 0, 1) := by decide +kernel
theorem d_In_numberOfTrailingZeros_74 : decode b_In_numberOfTrailingZeros 74 = .ok (.iload_n 1, 1) := by decide +kernel
theorem d_In_numberOfTrailingZeros_75 : decode b_In_numberOfTrailingZeros 75 = .ok (.iload_n 0, 1) := by decide +kernel
theorem d_In_numberOfTrailingZeros_76 : decode b_In_numberOfTrailingZeros 76 = .ok (.iconst 1, 1) := by decide +kernel
theorem d_In_numberOfTrailingZeros_77 : decode b_In_numberOfTrailingZeros 77 = .ok (.iushr, 1) := by decide +kernel
theorem d_In_numberOfTrailingZeros_78 : decode b_In_numberOfTrailingZeros 78 = .ok (.iadd, 1) := by decide +kernel
theorem d_In_numberOfTrailingZeros_79 : decode b_In_numberOfTrailingZeros 79 = .ok (.ireturn, 1) := by decide +kernel
