theorem d_So_init_0 : decode b_So_init 0 = .ok (.aload_n 0, 1) := by decide +kernel
theorem d_So_init_1 : decode b_So_init 1 = .ok (.invokespecial 3, 3) := by decide +kernel
theorem d_So_init_4 : decode b_So_init 4 = .ok (.aload_n 0, 1) := by decide +kernel
theorem d_So_init_5 : decode b_So_init 5 = .ok (.new 9, 3) := by decide +kernel
theorem d_So_init_8 : decode b_So_init 8 = .ok (.dup, 1) := by decide +kernel
theorem d_So_init_9 : decode b_So_init 9 = .ok (.invokespecial 11, 3) := by decide +kernel
theorem d_So_init_12 : decode b_So_init 12 = .ok (.putfield 12, 3) := by decide +kernel
theorem d_So_init_15 : decode b_So_init 15 = .ok (.aload_n 0, 1) := by decide +kernel
theorem d_So_init_16 : decode b_So_init 16 = .ok (.new 16, 3) := by decide +kernel
theorem d_So_init_19 : decode b_So_init 19 = .ok (.dup, 1) := by decide +kernel
theorem d_So_init_20 : decode b_So_init 20 = .ok (.aload_n 0, 1) := by decide +kernel
theorem d_So_init_21 : decode b_So_init 21 = .ok (.getfield 12, 3) := by decide +kernel
theorem d_So_init_24 : decode b_So_init 24 = .ok (.invokespecial 18, 3) := by decide +kernel
theorem d_So_init_27 : decode b_So_init 27 = .ok (.putfield 21, 3) := by decide +kernel
theorem d_So_init_30 : decode b_So_init 30 = .ok (.aload_n 0, 1) := by decide +kernel
theorem d_So_init_31 : decode b_So_init 31 = .ok (.bipush 8, 2) := by decide +kernel
theorem d_So_init_33 : decode b_So_init 33 = .ok (.anewarray 25, 3) := by decide +kernel
theorem d_So_init_36 : decode b_So_init 36 = .ok (.putfield 27, 3) := by decide +kernel
theorem d_So_init_39 : decode b_So_init 39 = .ok (.aload_n 0, 1) := by decide +kernel
theorem d_So_init_40 : decode b_So_init 40 = .ok (.iconst 0, 1) := by decide +kernel
theorem d_So_init_41 : decode b_So_init 41 = .ok (.putfield 31, 3) := by decide +kernel
theorem d_So_init_44 : decode b_So_init 44 = .ok (.aload_n 0, 1) := by decide +kernel
theorem d_So_init_45 : decode b_So_init 45 = .ok (.iconst 0, 1) := by decide +kernel
theorem d_So_init_46 : decode b_So_init 46 = .ok (.putfield 35, 3) := by decide +kernel
theorem d_So_init_49 : decode b_So_init 49 = .ok (.aload_n 0, 1) := by decide +kernel
theorem d_So_init_50 : decode b_So_init 50 = .ok (.new 38, 3) := by decide +kernel
theorem d_So_init_53 : decode b_So_init 53 = .ok (.dup, 1) := by decide +kernel
theorem d_So_init_54 : decode b_So_init 54 = .ok (.invokespecial 40, 3) := by decide +kernel
theorem d_So_init_57 : decode b_So_init 57 = .ok (.putfield 41, 3) := by decide +kernel
theorem d_So_init_60 : decode b_So_init 60 = .ok (.aload_n 0, 1) := by decide +kernel
theorem d_So_init_61 : decode b_So_init 61 = .ok (.iconst 4, 1) := by decide +kernel
theorem d_So_init_62 : decode b_So_init 62 = .ok (.anewarray 45, 3) := by decide +kernel
theorem d_So_init_65 : decode b_So_init 65 = .ok (.putfield 47, 3) := by decide +kernel
theorem d_So_init_68 : decode b_So_init 68 = .ok (.iconst 0, 1) := by decide +kernel
theorem d_So_init_69 : decode b_So_init 69 = .ok (.istore_n 1, 1) := by decide +kernel
theorem d_So_init_70 : decode b_So_init 70 = .ok (.iload_n 1, 1) := by decide +kernel
theorem d_So_init_71 : decode b_So_init 71 = .ok (.iconst 4, 1) := by decide +kernel
theorem d_So_init_72 : decode b_So_init 72 = .ok (.if_icmp .ge 22, 3) := by decide +kernel
theorem d_So_init_75 : decode b_So_init 75 = .ok (.aload_n 0, 1) := by decide +kernel
theorem d_So_init_76 : decode b_So_init 76 = .ok (.getfield 47, 3) := by decide +kernel
theorem d_So_init_79 : decode b_So_init 79 = .ok (.iload_n 1, 1) := by decide +kernel
theorem d_So_init_80 : decode b_So_init 80 = .ok (.new 45, 3) := by decide +kernel
theorem d_So_init_83 : decode b_So_init 83 = .ok (.dup, 1) := by decide +kernel
theorem d_So_init_84 : decode b_So_init 84 = .ok (.invokespecial 51, 3) := by decide +kernel
theorem d_So_init_87 : decode b_So_init 87 = .ok (.aastore, 1) := by decide +kernel
theorem d_So_init_88 : decode b_So_init 88 = .ok (.iinc 1 1, 3) := by decide +kernel
theorem d_So_init_91 : decode b_So_init 91 = .ok (.goto (-21), 3) := by decide +kernel
theorem d_So_init_94 : decode b_So_init 94 = .ok (.return_, 1) := by decide +kernel
theorem d_Tp_init_0 : decode b_Tp_init 0 = .ok (.aload_n 0, 1) := by decide +kernel
theorem d_Tp_init_1 : decode b_Tp_init 1 = .ok (.invokespecial 1, 3) := by decide +kernel
theorem d_Tp_init_4 : decode b_Tp_init 4 = .ok (.aload_n 0, 1) := by decide +kernel
theorem d_Tp_init_5 : decode b_Tp_init 5 = .ok (.sipush 160, 3) := by decide +kernel
theorem d_Tp_init_8 : decode b_Tp_init 8 = .ok (.newarray .byte, 2) := by decide +kernel
theorem d_Tp_init_10 : decode b_Tp_init 10 = .ok (.putfield 9, 3) := by decide +kernel
theorem d_Tp_init_13 : decode b_Tp_init 13 = .ok (.aload_n 0, 1) := by decide +kernel
theorem d_Tp_init_14 : decode b_Tp_init 14 = .ok (.iconst 0, 1) := by decide +kernel
theorem d_Tp_init_15 : decode b_Tp_init 15 = .ok (.putfield 13, 3) := by decide +kernel
theorem d_Tp_init_18 : decode b_Tp_init 18 = .ok (.return_, 1) := by decide +kernel
theorem d_Fl_init_0 : decode b_Fl_init 0 = .ok (.aload_n 0, 1) := by decide +kernel
theorem d_Fl_init_1 : decode b_Fl_init 1 = .ok (.invokespecial 3, 3) := by decide +kernel
theorem d_Fl_init_4 : decode b_Fl_init 4 = .ok (.aload_n 0, 1) := by decide +kernel
theorem d_Fl_init_5 : decode b_Fl_init 5 = .ok (.sipush 225, 3) := by decide +kernel
theorem d_Fl_init_8 : decode b_Fl_init 8 = .ok (.newarray .int, 2) := by decide +kernel
theorem d_Fl_init_10 : decode b_Fl_init 10 = .ok (.putfield 9, 3) := by decide +kernel
theorem d_Fl_init_13 : decode b_Fl_init 13 = .ok (.aload_n 0, 1) := by decide +kernel
theorem d_Fl_init_14 : decode b_Fl_init 14 = .ok (.iconst 0, 1) := by decide +kernel
theorem d_Fl_init_15 : decode b_Fl_init 15 = .ok (.putfield 15, 3) := by decide +kernel
theorem d_Fl_init_18 : decode b_Fl_init 18 = .ok (.aload_n 0, 1) := by decide +kernel
theorem d_Fl_init_19 : decode b_Fl_init 19 = .ok (.sipush 225, 3) := by decide +kernel
theorem d_Fl_init_22 : decode b_Fl_init 22 = .ok (.newarray .int, 2) := by decide +kernel
theorem d_Fl_init_24 : decode b_Fl_init 24 = .ok (.putfield 19, 3) := by decide +kernel
theorem d_Fl_init_27 : decode b_Fl_init 27 = .ok (.aload_n 0, 1) := by decide +kernel
theorem d_Fl_init_28 : decode b_Fl_init 28 = .ok (.sipush 225, 3) := by decide +kernel
theorem d_Fl_init_31 : decode b_Fl_init 31 = .ok (.newarray .int, 2) := by decide +kernel
theorem d_Fl_init_33 : decode b_Fl_init 33 = .ok (.putfield 22, 3) := by decide +kernel
theorem d_Fl_init_36 : decode b_Fl_init 36 = .ok (.aload_n 0, 1) := by decide +kernel
theorem d_Fl_init_37 : decode b_Fl_init 37 = .ok (.iconst 0, 1) := by decide +kernel
theorem d_Fl_init_38 : decode b_Fl_init 38 = .ok (.putfield 25, 3) := by decide +kernel
theorem d_Fl_init_41 : decode b_Fl_init 41 = .ok (.aload_n 0, 1) := by decide +kernel
theorem d_Fl_init_42 : decode b_Fl_init 42 = .ok (.iconst 0, 1) := by decide +kernel
theorem d_Fl_init_43 : decode b_Fl_init 43 = .ok (.putfield 28, 3) := by decide +kernel
theorem d_Fl_init_46 : decode b_Fl_init 46 = .ok (.aload_n 0, 1) := by decide +kernel
theorem d_Fl_init_47 : decode b_Fl_init 47 = .ok (.iconst 0, 1) := by decide +kernel
theorem d_Fl_init_48 : decode b_Fl_init 48 = .ok (.putfield 31, 3) := by decide +kernel
theorem d_Fl_init_51 : decode b_Fl_init 51 = .ok (.return_, 1) := by decide +kernel
theorem d_Sh_init_0 : decode b_Sh_init 0 = .ok (.aload_n 0, 1) := by decide +kernel
theorem d_Sh_init_1 : decode b_Sh_init 1 = .ok (.invokespecial 3, 3) := by decide +kernel
theorem d_Sh_init_4 : decode b_Sh_init 4 = .ok (.aload_n 0, 1) := by decide +kernel
theorem d_Sh_init_5 : decode b_Sh_init 5 = .ok (.bipush 64, 2) := by decide +kernel
theorem d_Sh_init_7 : decode b_Sh_init 7 = .ok (.newarray .int, 2) := by decide +kernel
theorem d_Sh_init_9 : decode b_Sh_init 9 = .ok (.putfield 9, 3) := by decide +kernel
theorem d_Sh_init_12 : decode b_Sh_init 12 = .ok (.aload_n 0, 1) := by decide +kernel
theorem d_Sh_init_13 : decode b_Sh_init 13 = .ok (.iconst (-1), 1) := by decide +kernel
theorem d_Sh_init_14 : decode b_Sh_init 14 = .ok (.putfield 15, 3) := by decide +kernel
theorem d_Sh_init_17 : decode b_Sh_init 17 = .ok (.aload_n 0, 1) := by decide +kernel
theorem d_Sh_init_18 : decode b_Sh_init 18 = .ok (.iconst 0, 1) := by decide +kernel
theorem d_Sh_init_19 : decode b_Sh_init 19 = .ok (.putfield 19, 3) := by decide +kernel
theorem d_Sh_init_22 : decode b_Sh_init 22 = .ok (.return_, 1) := by decide +kernel
theorem d_So_feed_0 : decode b_So_feed 0 = .ok (.aload_n 0, 1) := by decide +kernel
theorem d_So_feed_1 : decode b_So_feed 1 = .ok (.getfield 12, 3) := by decide +kernel
theorem d_So_feed_4 : decode b_So_feed 4 = .ok (.lload_n 1, 1) := by decide +kernel
theorem d_So_feed_5 : decode b_So_feed 5 = .ok (.invokevirtual 52, 3) := by decide +kernel
theorem d_So_feed_8 : decode b_So_feed 8 = .ok (.ifCond .eq 13, 3) := by decide +kernel
theorem d_So_feed_11 : decode b_So_feed 11 = .ok (.aload_n 0, 1) := by decide +kernel
theorem d_So_feed_12 : decode b_So_feed 12 = .ok (.getfield 12, 3) := by decide +kernel
theorem d_So_feed_15 : decode b_So_feed 15 = .ok (.getfield 56, 3) := by decide +kernel
theorem d_So_feed_18 : decode b_So_feed 18 = .ok (.goto 5, 3) := by decide +kernel
theorem d_So_feed_21 : decode b_So_feed 21 = .ok (.bipush (-3), 2) := by decide +kernel
theorem d_So_feed_23 : decode b_So_feed 23 = .ok (.ireturn, 1) := by decide +kernel
theorem d_Tp_append_0 : decode b_Tp_append 0 = .ok (.aload_n 0, 1) := by decide +kernel
theorem d_Tp_append_1 : decode b_Tp_append 1 = .ok (.getfield 13, 3) := by decide +kernel
theorem d_Tp_append_4 : decode b_Tp_append 4 = .ok (.ifCond .lt 16, 3) := by decide +kernel
theorem d_Tp_append_7 : decode b_Tp_append 7 = .ok (.aload_n 0, 1) := by decide +kernel
theorem d_Tp_append_8 : decode b_Tp_append 8 = .ok (.getfield 13, 3) := by decide +kernel
theorem d_Tp_append_11 : decode b_Tp_append 11 = .ok (.bipush 8, 2) := by decide +kernel
theorem d_Tp_append_13 : decode b_Tp_append 13 = .ok (.iadd, 1) := by decide +kernel
theorem d_Tp_append_14 : decode b_Tp_append 14 = .ok (.sipush 160, 3) := by decide +kernel
theorem d_Tp_append_17 : decode b_Tp_append 17 = .ok (.if_icmp .le 5, 3) := by decide +kernel
theorem d_Tp_append_20 : decode b_Tp_append 20 = .ok (.iconst 0, 1) := by decide +kernel
theorem d_Tp_append_21 : decode b_Tp_append 21 = .ok (.ireturn, 1) := by decide +kernel
theorem d_Tp_append_22 : decode b_Tp_append 22 = .ok (.iconst 0, 1) := by decide +kernel
theorem d_Tp_append_23 : decode b_Tp_append 23 = .ok (.istore_n 3, 1) := by decide +kernel
theorem d_Tp_append_24 : decode b_Tp_append 24 = .ok (.iload_n 3, 1) := by decide +kernel
theorem d_Tp_append_25 : decode b_Tp_append 25 = .ok (.bipush 8, 2) := by decide +kernel
theorem d_Tp_append_27 : decode b_Tp_append 27 = .ok (.if_icmp .ge 31, 3) := by decide +kernel
theorem d_Tp_append_30 : decode b_Tp_append 30 = .ok (.aload_n 0, 1) := by decide +kernel
theorem d_Tp_append_31 : decode b_Tp_append 31 = .ok (.getfield 9, 3) := by decide +kernel
theorem d_Tp_append_34 : decode b_Tp_append 34 = .ok (.aload_n 0, 1) := by decide +kernel
theorem d_Tp_append_35 : decode b_Tp_append 35 = .ok (.getfield 13, 3) := by decide +kernel
theorem d_Tp_append_38 : decode b_Tp_append 38 = .ok (.iload_n 3, 1) := by decide +kernel
theorem d_Tp_append_39 : decode b_Tp_append 39 = .ok (.iadd, 1) := by decide +kernel
theorem d_Tp_append_40 : decode b_Tp_append 40 = .ok (.lload_n 1, 1) := by decide +kernel
theorem d_Tp_append_41 : decode b_Tp_append 41 = .ok (.bipush 56, 2) := by decide +kernel
theorem d_Tp_append_43 : decode b_Tp_append 43 = .ok (.bipush 8, 2) := by decide +kernel
theorem d_Tp_append_45 : decode b_Tp_append 45 = .ok (.iload_n 3, 1) := by decide +kernel
theorem d_Tp_append_46 : decode b_Tp_append 46 = .ok (.imul, 1) := by decide +kernel
theorem d_Tp_append_47 : decode b_Tp_append 47 = .ok (.isub, 1) := by decide +kernel
theorem d_Tp_append_48 : decode b_Tp_append 48 = .ok (.lushr, 1) := by decide +kernel
theorem d_Tp_append_49 : decode b_Tp_append 49 = .ok (.l2i, 1) := by decide +kernel
theorem d_Tp_append_50 : decode b_Tp_append 50 = .ok (.i2b, 1) := by decide +kernel
theorem d_Tp_append_51 : decode b_Tp_append 51 = .ok (.bastore, 1) := by decide +kernel
theorem d_Tp_append_52 : decode b_Tp_append 52 = .ok (.iinc 3 1, 3) := by decide +kernel
theorem d_Tp_append_55 : decode b_Tp_append 55 = .ok (.goto (-31), 3) := by decide +kernel
theorem d_Tp_append_58 : decode b_Tp_append 58 = .ok (.aload_n 0, 1) := by decide +kernel
theorem d_Tp_append_59 : decode b_Tp_append 59 = .ok (.dup, 1) := by decide +kernel
theorem d_Tp_append_60 : decode b_Tp_append 60 = .ok (.getfield 13, 3) := by decide +kernel
theorem d_Tp_append_63 : decode b_Tp_append 63 = .ok (.bipush 8, 2) := by decide +kernel
theorem d_Tp_append_65 : decode b_Tp_append 65 = .ok (.iadd, 1) := by decide +kernel
theorem d_Tp_append_66 : decode b_Tp_append 66 = .ok (.putfield 13, 3) := by decide +kernel
theorem d_Tp_append_69 : decode b_Tp_append 69 = .ok (.iconst 1, 1) := by decide +kernel
theorem d_Tp_append_70 : decode b_Tp_append 70 = .ok (.ireturn, 1) := by decide +kernel
theorem d_So_end_0 : decode b_So_end 0 = .ok (.aload_n 0, 1) := by decide +kernel
theorem d_So_end_1 : decode b_So_end 1 = .ok (.getfield 12, 3) := by decide +kernel
theorem d_So_end_4 : decode b_So_end 4 = .ok (.getfield 56, 3) := by decide +kernel
theorem d_So_end_7 : decode b_So_end 7 = .ok (.istore_n 2, 1) := by decide +kernel
theorem d_So_end_8 : decode b_So_end 8 = .ok (.aload_n 0, 1) := by decide +kernel
theorem d_So_end_9 : decode b_So_end 9 = .ok (.getfield 12, 3) := by decide +kernel
theorem d_So_end_12 : decode b_So_end 12 = .ok (.iload_n 1, 1) := by decide +kernel
theorem d_So_end_13 : decode b_So_end 13 = .ok (.invokevirtual 59, 3) := by decide +kernel
theorem d_So_end_16 : decode b_So_end 16 = .ok (.ifCond .eq 7, 3) := by decide +kernel
theorem d_So_end_19 : decode b_So_end 19 = .ok (.iload_n 2, 1) := by decide +kernel
theorem d_So_end_20 : decode b_So_end 20 = .ok (.goto 4, 3) := by decide +kernel
theorem d_So_end_23 : decode b_So_end 23 = .ok (.iconst (-1), 1) := by decide +kernel
theorem d_So_end_24 : decode b_So_end 24 = .ok (.ireturn, 1) := by decide +kernel
theorem d_Tp_shorten_0 : decode b_Tp_shorten 0 = .ok (.iload_n 1, 1) := by decide +kernel
theorem d_Tp_shorten_1 : decode b_Tp_shorten 1 = .ok (.ifCond .lt 11, 3) := by decide +kernel
theorem d_Tp_shorten_4 : decode b_Tp_shorten 4 = .ok (.iload_n 1, 1) := by decide +kernel
theorem d_Tp_shorten_5 : decode b_Tp_shorten 5 = .ok (.aload_n 0, 1) := by decide +kernel
theorem d_Tp_shorten_6 : decode b_Tp_shorten 6 = .ok (.getfield 13, 3) := by decide +kernel
theorem d_Tp_shorten_9 : decode b_Tp_shorten 9 = .ok (.if_icmp .le 5, 3) := by decide +kernel
theorem d_Tp_shorten_12 : decode b_Tp_shorten 12 = .ok (.iconst 0, 1) := by decide +kernel
theorem d_Tp_shorten_13 : decode b_Tp_shorten 13 = .ok (.ireturn, 1) := by decide +kernel
theorem d_Tp_shorten_14 : decode b_Tp_shorten 14 = .ok (.aload_n 0, 1) := by decide +kernel
theorem d_Tp_shorten_15 : decode b_Tp_shorten 15 = .ok (.iload_n 1, 1) := by decide +kernel
theorem d_Tp_shorten_16 : decode b_Tp_shorten 16 = .ok (.putfield 13, 3) := by decide +kernel
theorem d_Tp_shorten_19 : decode b_Tp_shorten 19 = .ok (.iconst 1, 1) := by decide +kernel
theorem d_Tp_shorten_20 : decode b_Tp_shorten 20 = .ok (.ireturn, 1) := by decide +kernel
theorem d_So_body_0 : decode b_So_body 0 = .ok (.aload_n 0, 1) := by decide +kernel
theorem d_So_body_1 : decode b_So_body 1 = .ok (.getfield 31, 3) := by decide +kernel
theorem d_So_body_4 : decode b_So_body 4 = .ok (.ifCond .lt 12, 3) := by decide +kernel
theorem d_So_body_7 : decode b_So_body 7 = .ok (.aload_n 0, 1) := by decide +kernel
theorem d_So_body_8 : decode b_So_body 8 = .ok (.getfield 31, 3) := by decide +kernel
theorem d_So_body_11 : decode b_So_body 11 = .ok (.bipush 8, 2) := by decide +kernel
theorem d_So_body_13 : decode b_So_body 13 = .ok (.if_icmp .lt 6, 3) := by decide +kernel
theorem d_So_body_16 : decode b_So_body 16 = .ok (.bipush (-3), 2) := by decide +kernel
theorem d_So_body_18 : decode b_So_body 18 = .ok (.ireturn, 1) := by decide +kernel
theorem d_So_body_19 : decode b_So_body 19 = .ok (.aload_n 0, 1) := by decide +kernel
theorem d_So_body_20 : decode b_So_body 20 = .ok (.getfield 21, 3) := by decide +kernel
theorem d_So_body_23 : decode b_So_body 23 = .ok (.invokevirtual 63, 3) := by decide +kernel
theorem d_So_body_26 : decode b_So_body 26 = .ok (.astore_n 1, 1) := by decide +kernel
theorem d_So_body_27 : decode b_So_body 27 = .ok (.aload_n 0, 1) := by decide +kernel
theorem d_So_body_28 : decode b_So_body 28 = .ok (.aload_n 0, 1) := by decide +kernel
theorem d_So_body_29 : decode b_So_body 29 = .ok (.getfield 21, 3) := by decide +kernel
theorem d_So_body_32 : decode b_So_body 32 = .ok (.getfield 67, 3) := by decide +kernel
theorem d_So_body_35 : decode b_So_body 35 = .ok (.putfield 35, 3) := by decide +kernel
theorem d_So_body_38 : decode b_So_body 38 = .ok (.aload_n 0, 1) := by decide +kernel
theorem d_So_body_39 : decode b_So_body 39 = .ok (.getfield 12, 3) := by decide +kernel
theorem d_So_body_42 : decode b_So_body 42 = .ok (.iconst 0, 1) := by decide +kernel
theorem d_So_body_43 : decode b_So_body 43 = .ok (.invokevirtual 59, 3) := by decide +kernel
theorem d_So_body_46 : decode b_So_body 46 = .ok (.pop, 1) := by decide +kernel
theorem d_So_body_47 : decode b_So_body 47 = .ok (.aload_n 1, 1) := by decide +kernel
theorem d_So_body_48 : decode b_So_body 48 = .ok (.ifnonnull 14, 3) := by decide +kernel
theorem d_So_body_51 : decode b_So_body 51 = .ok (.bipush (-10), 2) := by decide +kernel
theorem d_So_body_53 : decode b_So_body 53 = .ok (.aload_n 0, 1) := by decide +kernel
theorem d_So_body_54 : decode b_So_body 54 = .ok (.getfield 21, 3) := by decide +kernel
theorem d_So_body_57 : decode b_So_body 57 = .ok (.getfield 70, 3) := by decide +kernel
theorem d_So_body_60 : decode b_So_body 60 = .ok (.isub, 1) := by decide +kernel
theorem d_So_body_61 : decode b_So_body 61 = .ok (.ireturn, 1) := by decide +kernel
theorem d_So_body_62 : decode b_So_body 62 = .ok (.aload_n 0, 1) := by decide +kernel
theorem d_So_body_63 : decode b_So_body 63 = .ok (.getfield 27, 3) := by decide +kernel
theorem d_So_body_66 : decode b_So_body 66 = .ok (.aload_n 0, 1) := by decide +kernel
theorem d_So_body_67 : decode b_So_body 67 = .ok (.getfield 31, 3) := by decide +kernel
theorem d_So_body_70 : decode b_So_body 70 = .ok (.new 25, 3) := by decide +kernel
theorem d_So_body_73 : decode b_So_body 73 = .ok (.dup, 1) := by decide +kernel
theorem d_So_body_74 : decode b_So_body 74 = .ok (.aload_n 1, 1) := by decide +kernel
theorem d_So_body_75 : decode b_So_body 75 = .ok (.aload_n 0, 1) := by decide +kernel
theorem d_So_body_76 : decode b_So_body 76 = .ok (.getfield 21, 3) := by decide +kernel
theorem d_So_body_79 : decode b_So_body 79 = .ok (.getfield 73, 3) := by decide +kernel
theorem d_So_body_82 : decode b_So_body 82 = .ok (.invokespecial 76, 3) := by decide +kernel
theorem d_So_body_85 : decode b_So_body 85 = .ok (.aastore, 1) := by decide +kernel
theorem d_So_body_86 : decode b_So_body 86 = .ok (.aload_n 0, 1) := by decide +kernel
theorem d_So_body_87 : decode b_So_body 87 = .ok (.dup, 1) := by decide +kernel
theorem d_So_body_88 : decode b_So_body 88 = .ok (.getfield 31, 3) := by decide +kernel
theorem d_So_body_91 : decode b_So_body 91 = .ok (.iconst 1, 1) := by decide +kernel
theorem d_So_body_92 : decode b_So_body 92 = .ok (.iadd, 1) := by decide +kernel
theorem d_So_body_93 : decode b_So_body 93 = .ok (.putfield 31, 3) := by decide +kernel
theorem d_So_body_96 : decode b_So_body 96 = .ok (.aload_n 0, 1) := by decide +kernel
theorem d_So_body_97 : decode b_So_body 97 = .ok (.getfield 31, 3) := by decide +kernel
theorem d_So_body_100 : decode b_So_body 100 = .ok (.iconst 1, 1) := by decide +kernel
theorem d_So_body_101 : decode b_So_body 101 = .ok (.isub, 1) := by decide +kernel
theorem d_So_body_102 : decode b_So_body 102 = .ok (.ireturn, 1) := by decide +kernel
theorem d_Tp_byteAt_0 : decode b_Tp_byteAt 0 = .ok (.iload_n 1, 1) := by decide +kernel
theorem d_Tp_byteAt_1 : decode b_Tp_byteAt 1 = .ok (.ifCond .lt 31, 3) := by decide +kernel
theorem d_Tp_byteAt_4 : decode b_Tp_byteAt 4 = .ok (.iload_n 1, 1) := by decide +kernel
theorem d_Tp_byteAt_5 : decode b_Tp_byteAt 5 = .ok (.aload_n 0, 1) := by decide +kernel
theorem d_Tp_byteAt_6 : decode b_Tp_byteAt 6 = .ok (.getfield 13, 3) := by decide +kernel
theorem d_Tp_byteAt_9 : decode b_Tp_byteAt 9 = .ok (.if_icmp .ge 23, 3) := by decide +kernel
theorem d_Tp_byteAt_12 : decode b_Tp_byteAt 12 = .ok (.iload_n 1, 1) := by decide +kernel
theorem d_Tp_byteAt_13 : decode b_Tp_byteAt 13 = .ok (.sipush 160, 3) := by decide +kernel
theorem d_Tp_byteAt_16 : decode b_Tp_byteAt 16 = .ok (.if_icmp .ge 16, 3) := by decide +kernel
theorem d_Tp_byteAt_19 : decode b_Tp_byteAt 19 = .ok (.aload_n 0, 1) := by decide +kernel
theorem d_Tp_byteAt_20 : decode b_Tp_byteAt 20 = .ok (.getfield 9, 3) := by decide +kernel
theorem d_Tp_byteAt_23 : decode b_Tp_byteAt 23 = .ok (.iload_n 1, 1) := by decide +kernel
theorem d_Tp_byteAt_24 : decode b_Tp_byteAt 24 = .ok (.baload, 1) := by decide +kernel
theorem d_Tp_byteAt_25 : decode b_Tp_byteAt 25 = .ok (.sipush 255, 3) := by decide +kernel
theorem d_Tp_byteAt_28 : decode b_Tp_byteAt 28 = .ok (.iand, 1) := by decide +kernel
theorem d_Tp_byteAt_29 : decode b_Tp_byteAt 29 = .ok (.goto 4, 3) := by decide +kernel
theorem d_Tp_byteAt_32 : decode b_Tp_byteAt 32 = .ok (.iconst (-1), 1) := by decide +kernel
theorem d_Tp_byteAt_33 : decode b_Tp_byteAt 33 = .ok (.ireturn, 1) := by decide +kernel
theorem d_Bo_init_0 : decode b_Bo_init 0 = .ok (.aload_n 0, 1) := by decide +kernel
theorem d_Bo_init_1 : decode b_Bo_init 1 = .ok (.invokespecial 3, 3) := by decide +kernel
theorem d_Bo_init_4 : decode b_Bo_init 4 = .ok (.aload_n 0, 1) := by decide +kernel
theorem d_Bo_init_5 : decode b_Bo_init 5 = .ok (.sipush 225, 3) := by decide +kernel
theorem d_Bo_init_8 : decode b_Bo_init 8 = .ok (.newarray .int, 2) := by decide +kernel
theorem d_Bo_init_10 : decode b_Bo_init 10 = .ok (.putfield 9, 3) := by decide +kernel
theorem d_Bo_init_13 : decode b_Bo_init 13 = .ok (.aload_n 0, 1) := by decide +kernel
theorem d_Bo_init_14 : decode b_Bo_init 14 = .ok (.iconst 0, 1) := by decide +kernel
theorem d_Bo_init_15 : decode b_Bo_init 15 = .ok (.putfield 15, 3) := by decide +kernel
theorem d_Bo_init_18 : decode b_Bo_init 18 = .ok (.aload_n 0, 1) := by decide +kernel
theorem d_Bo_init_19 : decode b_Bo_init 19 = .ok (.iconst 5, 1) := by decide +kernel
theorem d_Bo_init_20 : decode b_Bo_init 20 = .ok (.newarray .int, 2) := by decide +kernel
theorem d_Bo_init_22 : decode b_Bo_init 22 = .ok (.putfield 19, 3) := by decide +kernel
theorem d_Bo_init_25 : decode b_Bo_init 25 = .ok (.aload_n 0, 1) := by decide +kernel
theorem d_Bo_init_26 : decode b_Bo_init 26 = .ok (.iconst 0, 1) := by decide +kernel
theorem d_Bo_init_27 : decode b_Bo_init 27 = .ok (.putfield 22, 3) := by decide +kernel
theorem d_Bo_init_30 : decode b_Bo_init 30 = .ok (.aload_n 0, 1) := by decide +kernel
theorem d_Bo_init_31 : decode b_Bo_init 31 = .ok (.aload_n 1, 1) := by decide +kernel
theorem d_Bo_init_32 : decode b_Bo_init 32 = .ok (.putfield 25, 3) := by decide +kernel
theorem d_Bo_init_35 : decode b_Bo_init 35 = .ok (.aload_n 0, 1) := by decide +kernel
theorem d_Bo_init_36 : decode b_Bo_init 36 = .ok (.iload_n 2, 1) := by decide +kernel
theorem d_Bo_init_37 : decode b_Bo_init 37 = .ok (.putfield 29, 3) := by decide +kernel
theorem d_Bo_init_40 : decode b_Bo_init 40 = .ok (.return_, 1) := by decide +kernel
theorem d_So_fault_0 : decode b_So_fault 0 = .ok (.aload_n 0, 1) := by decide +kernel
theorem d_So_fault_1 : decode b_So_fault 1 = .ok (.getfield 35, 3) := by decide +kernel
theorem d_So_fault_4 : decode b_So_fault 4 = .ok (.ireturn, 1) := by decide +kernel
theorem d_So_drop_0 : decode b_So_drop 0 = .ok (.aload_n 0, 1) := by decide +kernel
theorem d_So_drop_1 : decode b_So_drop 1 = .ok (.getfield 31, 3) := by decide +kernel
theorem d_So_drop_4 : decode b_So_drop 4 = .ok (.iconst 1, 1) := by decide +kernel
theorem d_So_drop_5 : decode b_So_drop 5 = .ok (.if_icmp .lt 12, 3) := by decide +kernel
theorem d_So_drop_8 : decode b_So_drop 8 = .ok (.aload_n 0, 1) := by decide +kernel
theorem d_So_drop_9 : decode b_So_drop 9 = .ok (.getfield 31, 3) := by decide +kernel
theorem d_So_drop_12 : decode b_So_drop 12 = .ok (.bipush 8, 2) := by decide +kernel
theorem d_So_drop_14 : decode b_So_drop 14 = .ok (.if_icmp .le 6, 3) := by decide +kernel
theorem d_So_drop_17 : decode b_So_drop 17 = .ok (.bipush (-4), 2) := by decide +kernel
theorem d_So_drop_19 : decode b_So_drop 19 = .ok (.ireturn, 1) := by decide +kernel
theorem d_So_drop_20 : decode b_So_drop 20 = .ok (.aload_n 0, 1) := by decide +kernel
theorem d_So_drop_21 : decode b_So_drop 21 = .ok (.dup, 1) := by decide +kernel
theorem d_So_drop_22 : decode b_So_drop 22 = .ok (.getfield 31, 3) := by decide +kernel
theorem d_So_drop_25 : decode b_So_drop 25 = .ok (.iconst 1, 1) := by decide +kernel
theorem d_So_drop_26 : decode b_So_drop 26 = .ok (.isub, 1) := by decide +kernel
theorem d_So_drop_27 : decode b_So_drop 27 = .ok (.putfield 31, 3) := by decide +kernel
theorem d_So_drop_30 : decode b_So_drop 30 = .ok (.aload_n 0, 1) := by decide +kernel
theorem d_So_drop_31 : decode b_So_drop 31 = .ok (.getfield 27, 3) := by decide +kernel
theorem d_So_drop_34 : decode b_So_drop 34 = .ok (.aload_n 0, 1) := by decide +kernel
theorem d_So_drop_35 : decode b_So_drop 35 = .ok (.getfield 31, 3) := by decide +kernel
theorem d_So_drop_38 : decode b_So_drop 38 = .ok (.aconst_null, 1) := by decide +kernel
theorem d_So_drop_39 : decode b_So_drop 39 = .ok (.aastore, 1) := by decide +kernel
theorem d_So_drop_40 : decode b_So_drop 40 = .ok (.aload_n 0, 1) := by decide +kernel
theorem d_So_drop_41 : decode b_So_drop 41 = .ok (.getfield 31, 3) := by decide +kernel
theorem d_So_drop_44 : decode b_So_drop 44 = .ok (.ireturn, 1) := by decide +kernel
theorem d_So_rule_0 : decode b_So_rule 0 = .ok (.aload_n 0, 1) := by decide +kernel
theorem d_So_rule_1 : decode b_So_rule 1 = .ok (.iload_n 1, 1) := by decide +kernel
theorem d_So_rule_2 : decode b_So_rule 2 = .ok (.invokevirtual 79, 3) := by decide +kernel
theorem d_So_rule_5 : decode b_So_rule 5 = .ok (.astore 5, 2) := by decide +kernel
theorem d_So_rule_7 : decode b_So_rule 7 = .ok (.aload 5, 2) := by decide +kernel
theorem d_So_rule_9 : decode b_So_rule 9 = .ok (.ifnull 34, 3) := by decide +kernel
theorem d_So_rule_12 : decode b_So_rule 12 = .ok (.iload_n 2, 1) := by decide +kernel
theorem d_So_rule_13 : decode b_So_rule 13 = .ok (.sipush 1000, 3) := by decide +kernel
theorem d_So_rule_16 : decode b_So_rule 16 = .ok (.invokestatic 83, 3) := by decide +kernel
theorem d_So_rule_19 : decode b_So_rule 19 = .ok (.ifCond .eq 24, 3) := by decide +kernel
theorem d_So_rule_22 : decode b_So_rule 22 = .ok (.iload_n 3, 1) := by decide +kernel
theorem d_So_rule_23 : decode b_So_rule 23 = .ok (.sipush 1000, 3) := by decide +kernel
theorem d_So_rule_26 : decode b_So_rule 26 = .ok (.invokestatic 83, 3) := by decide +kernel
theorem d_So_rule_29 : decode b_So_rule 29 = .ok (.ifCond .eq 14, 3) := by decide +kernel
theorem d_So_rule_32 : decode b_So_rule 32 = .ok (.iload 4, 2) := by decide +kernel
theorem d_So_rule_34 : decode b_So_rule 34 = .ok (.sipush 1000, 3) := by decide +kernel
theorem d_So_rule_37 : decode b_So_rule 37 = .ok (.invokestatic 83, 3) := by decide +kernel
theorem d_So_rule_40 : decode b_So_rule 40 = .ok (.ifCond .ne 6, 3) := by decide +kernel
theorem d_So_rule_43 : decode b_So_rule 43 = .ok (.ldc 87, 2) := by decide +kernel
theorem d_So_rule_45 : decode b_So_rule 45 = .ok (.ireturn, 1) := by decide +kernel
theorem d_So_rule_46 : decode b_So_rule 46 = .ok (.aload 5, 2) := by decide +kernel
theorem d_So_rule_48 : decode b_So_rule 48 = .ok (.getfield 88, 3) := by decide +kernel
theorem d_So_rule_51 : decode b_So_rule 51 = .ok (.iload_n 2, 1) := by decide +kernel
theorem d_So_rule_52 : decode b_So_rule 52 = .ok (.iload_n 3, 1) := by decide +kernel
theorem d_So_rule_53 : decode b_So_rule 53 = .ok (.iload 4, 2) := by decide +kernel
theorem d_So_rule_55 : decode b_So_rule 55 = .ok (.invokevirtual 92, 3) := by decide +kernel
theorem d_So_rule_58 : decode b_So_rule 58 = .ok (.ireturn, 1) := by decide +kernel
theorem d_So_bodyNumber_0 : decode b_So_bodyNumber 0 = .ok (.iload_n 1, 1) := by decide +kernel
theorem d_So_bodyNumber_1 : decode b_So_bodyNumber 1 = .ok (.ifCond .lt 26, 3) := by decide +kernel
theorem d_So_bodyNumber_4 : decode b_So_bodyNumber 4 = .ok (.iload_n 1, 1) := by decide +kernel
theorem d_So_bodyNumber_5 : decode b_So_bodyNumber 5 = .ok (.aload_n 0, 1) := by decide +kernel
theorem d_So_bodyNumber_6 : decode b_So_bodyNumber 6 = .ok (.getfield 31, 3) := by decide +kernel
theorem d_So_bodyNumber_9 : decode b_So_bodyNumber 9 = .ok (.if_icmp .ge 18, 3) := by decide +kernel
theorem d_So_bodyNumber_12 : decode b_So_bodyNumber 12 = .ok (.iload_n 1, 1) := by decide +kernel
theorem d_So_bodyNumber_13 : decode b_So_bodyNumber 13 = .ok (.bipush 8, 2) := by decide +kernel
theorem d_So_bodyNumber_15 : decode b_So_bodyNumber 15 = .ok (.if_icmp .ge 12, 3) := by decide +kernel
theorem d_So_bodyNumber_18 : decode b_So_bodyNumber 18 = .ok (.aload_n 0, 1) := by decide +kernel
theorem d_So_bodyNumber_19 : decode b_So_bodyNumber 19 = .ok (.getfield 27, 3) := by decide +kernel
theorem d_So_bodyNumber_22 : decode b_So_bodyNumber 22 = .ok (.iload_n 1, 1) := by decide +kernel
theorem d_So_bodyNumber_23 : decode b_So_bodyNumber 23 = .ok (.aaload, 1) := by decide +kernel
theorem d_So_bodyNumber_24 : decode b_So_bodyNumber 24 = .ok (.goto 4, 3) := by decide +kernel
theorem d_So_bodyNumber_27 : decode b_So_bodyNumber 27 = .ok (.aconst_null, 1) := by decide +kernel
theorem d_So_bodyNumber_28 : decode b_So_bodyNumber 28 = .ok (.areturn, 1) := by decide +kernel
theorem d_So_isNear_0 : decode b_So_isNear 0 = .ok (.iload_n 0, 1) := by decide +kernel
theorem d_So_isNear_1 : decode b_So_isNear 1 = .ok (.iload_n 1, 1) := by decide +kernel
theorem d_So_isNear_2 : decode b_So_isNear 2 = .ok (.ineg, 1) := by decide +kernel
theorem d_So_isNear_3 : decode b_So_isNear 3 = .ok (.iload_n 1, 1) := by decide +kernel
theorem d_So_isNear_4 : decode b_So_isNear 4 = .ok (.invokestatic 106, 3) := by decide +kernel
theorem d_So_isNear_7 : decode b_So_isNear 7 = .ok (.ireturn, 1) := by decide +kernel
theorem d_So_isBetween_0 : decode b_So_isBetween 0 = .ok (.iload_n 0, 1) := by decide +kernel
theorem d_So_isBetween_1 : decode b_So_isBetween 1 = .ok (.iload_n 1, 1) := by decide +kernel
theorem d_So_isBetween_2 : decode b_So_isBetween 2 = .ok (.if_icmp .lt 12, 3) := by decide +kernel
theorem d_So_isBetween_5 : decode b_So_isBetween 5 = .ok (.iload_n 0, 1) := by decide +kernel
theorem d_So_isBetween_6 : decode b_So_isBetween 6 = .ok (.iload_n 2, 1) := by decide +kernel
theorem d_So_isBetween_7 : decode b_So_isBetween 7 = .ok (.if_icmp .gt 7, 3) := by decide +kernel
theorem d_So_isBetween_10 : decode b_So_isBetween 10 = .ok (.iconst 1, 1) := by decide +kernel
theorem d_So_isBetween_11 : decode b_So_isBetween 11 = .ok (.goto 4, 3) := by decide +kernel
theorem d_So_isBetween_14 : decode b_So_isBetween 14 = .ok (.iconst 0, 1) := by decide +kernel
theorem d_So_isBetween_15 : decode b_So_isBetween 15 = .ok (.ireturn, 1) := by decide +kernel
theorem d_So_span_0 : decode b_So_span 0 = .ok (.aload_n 0, 1) := by decide +kernel
theorem d_So_span_1 : decode b_So_span 1 = .ok (.iload_n 1, 1) := by decide +kernel
theorem d_So_span_2 : decode b_So_span 2 = .ok (.invokevirtual 79, 3) := by decide +kernel
theorem d_So_span_5 : decode b_So_span 5 = .ok (.astore 9, 2) := by decide +kernel
theorem d_So_span_7 : decode b_So_span 7 = .ok (.aload 9, 2) := by decide +kernel
theorem d_So_span_9 : decode b_So_span 9 = .ok (.ifnull 44, 3) := by decide +kernel
theorem d_So_span_12 : decode b_So_span 12 = .ok (.iload_n 2, 1) := by decide +kernel
theorem d_So_span_13 : decode b_So_span 13 = .ok (.iload_n 3, 1) := by decide +kernel
theorem d_So_span_14 : decode b_So_span 14 = .ok (.iload 4, 2) := by decide +kernel
theorem d_So_span_16 : decode b_So_span 16 = .ok (.invokestatic 98, 3) := by decide +kernel
theorem d_So_span_19 : decode b_So_span 19 = .ok (.ifCond .eq 34, 3) := by decide +kernel
theorem d_So_span_22 : decode b_So_span 22 = .ok (.iload 5, 2) := by decide +kernel
theorem d_So_span_24 : decode b_So_span 24 = .ok (.iload 6, 2) := by decide +kernel
theorem d_So_span_26 : decode b_So_span 26 = .ok (.iload 7, 2) := by decide +kernel
theorem d_So_span_28 : decode b_So_span 28 = .ok (.invokestatic 98, 3) := by decide +kernel
theorem d_So_span_31 : decode b_So_span 31 = .ok (.ifCond .eq 22, 3) := by decide +kernel
theorem d_So_span_34 : decode b_So_span 34 = .ok (.iload 5, 2) := by decide +kernel
theorem d_So_span_36 : decode b_So_span 36 = .ok (.iload_n 2, 1) := by decide +kernel
theorem d_So_span_37 : decode b_So_span 37 = .ok (.if_icmp .lt 16, 3) := by decide +kernel
theorem d_So_span_40 : decode b_So_span 40 = .ok (.iload 6, 2) := by decide +kernel
theorem d_So_span_42 : decode b_So_span 42 = .ok (.iload_n 3, 1) := by decide +kernel
theorem d_So_span_43 : decode b_So_span 43 = .ok (.if_icmp .lt 10, 3) := by decide +kernel
theorem d_So_span_46 : decode b_So_span 46 = .ok (.iload 7, 2) := by decide +kernel
theorem d_So_span_48 : decode b_So_span 48 = .ok (.iload 4, 2) := by decide +kernel
theorem d_So_span_50 : decode b_So_span 50 = .ok (.if_icmp .ge 6, 3) := by decide +kernel
theorem d_So_span_53 : decode b_So_span 53 = .ok (.ldc 87, 2) := by decide +kernel
theorem d_So_span_55 : decode b_So_span 55 = .ok (.ireturn, 1) := by decide +kernel
theorem d_So_span_56 : decode b_So_span 56 = .ok (.aload 9, 2) := by decide +kernel
theorem d_So_span_58 : decode b_So_span 58 = .ok (.getfield 88, 3) := by decide +kernel
theorem d_So_span_61 : decode b_So_span 61 = .ok (.iload_n 2, 1) := by decide +kernel
theorem d_So_span_62 : decode b_So_span 62 = .ok (.iload_n 3, 1) := by decide +kernel
theorem d_So_span_63 : decode b_So_span 63 = .ok (.iload 4, 2) := by decide +kernel
theorem d_So_span_65 : decode b_So_span 65 = .ok (.iload 5, 2) := by decide +kernel
theorem d_So_span_67 : decode b_So_span 67 = .ok (.iload 6, 2) := by decide +kernel
theorem d_So_span_69 : decode b_So_span 69 = .ok (.iload 7, 2) := by decide +kernel
theorem d_So_span_71 : decode b_So_span 71 = .ok (.iload 8, 2) := by decide +kernel
theorem d_So_span_73 : decode b_So_span 73 = .ok (.invokevirtual 102, 3) := by decide +kernel
theorem d_So_span_76 : decode b_So_span 76 = .ok (.ireturn, 1) := by decide +kernel
theorem d_So_isPoint_0 : decode b_So_isPoint 0 = .ok (.iload_n 0, 1) := by decide +kernel
theorem d_So_isPoint_1 : decode b_So_isPoint 1 = .ok (.bipush 7, 2) := by decide +kernel
theorem d_So_isPoint_3 : decode b_So_isPoint 3 = .ok (.invokestatic 83, 3) := by decide +kernel
theorem d_So_isPoint_6 : decode b_So_isPoint 6 = .ok (.ifCond .eq 25, 3) := by decide +kernel
theorem d_So_isPoint_9 : decode b_So_isPoint 9 = .ok (.iload_n 1, 1) := by decide +kernel
theorem d_So_isPoint_10 : decode b_So_isPoint 10 = .ok (.bipush 7, 2) := by decide +kernel
theorem d_So_isPoint_12 : decode b_So_isPoint 12 = .ok (.invokestatic 83, 3) := by decide +kernel
theorem d_So_isPoint_15 : decode b_So_isPoint 15 = .ok (.ifCond .eq 16, 3) := by decide +kernel
theorem d_So_isPoint_18 : decode b_So_isPoint 18 = .ok (.iload_n 2, 1) := by decide +kernel
theorem d_So_isPoint_19 : decode b_So_isPoint 19 = .ok (.bipush 7, 2) := by decide +kernel
theorem d_So_isPoint_21 : decode b_So_isPoint 21 = .ok (.invokestatic 83, 3) := by decide +kernel
theorem d_So_isPoint_24 : decode b_So_isPoint 24 = .ok (.ifCond .eq 7, 3) := by decide +kernel
theorem d_So_isPoint_27 : decode b_So_isPoint 27 = .ok (.iconst 1, 1) := by decide +kernel
theorem d_So_isPoint_28 : decode b_So_isPoint 28 = .ok (.goto 4, 3) := by decide +kernel
theorem d_So_isPoint_31 : decode b_So_isPoint 31 = .ok (.iconst 0, 1) := by decide +kernel
theorem d_So_isPoint_32 : decode b_So_isPoint 32 = .ok (.ireturn, 1) := by decide +kernel
theorem d_So_parted_0 : decode b_So_parted 0 = .ok (.aload_n 0, 1) := by decide +kernel
theorem d_So_parted_1 : decode b_So_parted 1 = .ok (.iload_n 1, 1) := by decide +kernel
theorem d_So_parted_2 : decode b_So_parted 2 = .ok (.invokevirtual 79, 3) := by decide +kernel
theorem d_So_parted_5 : decode b_So_parted 5 = .ok (.astore_n 3, 1) := by decide +kernel
theorem d_So_parted_6 : decode b_So_parted 6 = .ok (.aload_n 3, 1) := by decide +kernel
theorem d_So_parted_7 : decode b_So_parted 7 = .ok (.ifnull 12, 3) := by decide +kernel
theorem d_So_parted_10 : decode b_So_parted 10 = .ok (.iload_n 2, 1) := by decide +kernel
theorem d_So_parted_11 : decode b_So_parted 11 = .ok (.iconst 0, 1) := by decide +kernel
theorem d_So_parted_12 : decode b_So_parted 12 = .ok (.iconst 4, 1) := by decide +kernel
theorem d_So_parted_13 : decode b_So_parted 13 = .ok (.invokestatic 106, 3) := by decide +kernel
theorem d_So_parted_16 : decode b_So_parted 16 = .ok (.ifCond .ne 7, 3) := by decide +kernel
theorem d_So_parted_19 : decode b_So_parted 19 = .ok (.iconst (-1), 1) := by decide +kernel
theorem d_So_parted_20 : decode b_So_parted 20 = .ok (.goto 8, 3) := by decide +kernel
theorem d_So_parted_23 : decode b_So_parted 23 = .ok (.aload_n 3, 1) := by decide +kernel
theorem d_So_parted_24 : decode b_So_parted 24 = .ok (.iload_n 2, 1) := by decide +kernel
theorem d_So_parted_25 : decode b_So_parted 25 = .ok (.invokevirtual 109, 3) := by decide +kernel
theorem d_So_parted_28 : decode b_So_parted 28 = .ok (.ireturn, 1) := by decide +kernel
theorem d_Bo_partedNumber_0 : decode b_Bo_partedNumber 0 = .ok (.aload_n 0, 1) := by decide +kernel
theorem d_Bo_partedNumber_1 : decode b_Bo_partedNumber 1 = .ok (.getfield 22, 3) := by decide +kernel
theorem d_Bo_partedNumber_4 : decode b_Bo_partedNumber 4 = .ok (.ifCond .ne 25, 3) := by decide +kernel
theorem d_Bo_partedNumber_7 : decode b_Bo_partedNumber 7 = .ok (.aload_n 0, 1) := by decide +kernel
theorem d_Bo_partedNumber_8 : decode b_Bo_partedNumber 8 = .ok (.bipush (-7), 2) := by decide +kernel
theorem d_Bo_partedNumber_10 : decode b_Bo_partedNumber 10 = .ok (.bipush (-7), 2) := by decide +kernel
theorem d_Bo_partedNumber_12 : decode b_Bo_partedNumber 12 = .ok (.bipush (-7), 2) := by decide +kernel
theorem d_Bo_partedNumber_14 : decode b_Bo_partedNumber 14 = .ok (.bipush 7, 2) := by decide +kernel
theorem d_Bo_partedNumber_16 : decode b_Bo_partedNumber 16 = .ok (.bipush 7, 2) := by decide +kernel
theorem d_Bo_partedNumber_18 : decode b_Bo_partedNumber 18 = .ok (.bipush 7, 2) := by decide +kernel
theorem d_Bo_partedNumber_20 : decode b_Bo_partedNumber 20 = .ok (.iconst 0, 1) := by decide +kernel
theorem d_Bo_partedNumber_21 : decode b_Bo_partedNumber 21 = .ok (.invokevirtual 65, 3) := by decide +kernel
theorem d_Bo_partedNumber_24 : decode b_Bo_partedNumber 24 = .ok (.aload_n 0, 1) := by decide +kernel
theorem d_Bo_partedNumber_25 : decode b_Bo_partedNumber 25 = .ok (.iconst 1, 1) := by decide +kernel
theorem d_Bo_partedNumber_26 : decode b_Bo_partedNumber 26 = .ok (.putfield 22, 3) := by decide +kernel
theorem d_Bo_partedNumber_29 : decode b_Bo_partedNumber 29 = .ok (.iload_n 1, 1) := by decide +kernel
theorem d_Bo_partedNumber_30 : decode b_Bo_partedNumber 30 = .ok (.ifCond .lt 21, 3) := by decide +kernel
theorem d_Bo_partedNumber_33 : decode b_Bo_partedNumber 33 = .ok (.iload_n 1, 1) := by decide +kernel
theorem d_Bo_partedNumber_34 : decode b_Bo_partedNumber 34 = .ok (.aload_n 0, 1) := by decide +kernel
theorem d_Bo_partedNumber_35 : decode b_Bo_partedNumber 35 = .ok (.getfield 19, 3) := by decide +kernel
theorem d_Bo_partedNumber_38 : decode b_Bo_partedNumber 38 = .ok (.arraylength, 1) := by decide +kernel
theorem d_Bo_partedNumber_39 : decode b_Bo_partedNumber 39 = .ok (.if_icmp .ge 12, 3) := by decide +kernel
theorem d_Bo_partedNumber_42 : decode b_Bo_partedNumber 42 = .ok (.aload_n 0, 1) := by decide +kernel
theorem d_Bo_partedNumber_43 : decode b_Bo_partedNumber 43 = .ok (.getfield 19, 3) := by decide +kernel
theorem d_Bo_partedNumber_46 : decode b_Bo_partedNumber 46 = .ok (.iload_n 1, 1) := by decide +kernel
theorem d_Bo_partedNumber_47 : decode b_Bo_partedNumber 47 = .ok (.iaload, 1) := by decide +kernel
theorem d_Bo_partedNumber_48 : decode b_Bo_partedNumber 48 = .ok (.goto 4, 3) := by decide +kernel
theorem d_Bo_partedNumber_51 : decode b_Bo_partedNumber 51 = .ok (.iconst (-1), 1) := by decide +kernel
theorem d_Bo_partedNumber_52 : decode b_Bo_partedNumber 52 = .ok (.ireturn, 1) := by decide +kernel
theorem d_Bo_partBlock_0 : decode b_Bo_partBlock 0 = .ok (.iload 7, 2) := by decide +kernel
theorem d_Bo_partBlock_2 : decode b_Bo_partBlock 2 = .ok (.iconst 4, 1) := by decide +kernel
theorem d_Bo_partBlock_3 : decode b_Bo_partBlock 3 = .ok (.if_icmp .le 4, 3) := by decide +kernel
theorem d_Bo_partBlock_6 : decode b_Bo_partBlock 6 = .ok (.return_, 1) := by decide +kernel
theorem d_Bo_partBlock_7 : decode b_Bo_partBlock 7 = .ok (.aload_n 0, 1) := by decide +kernel
theorem d_Bo_partBlock_8 : decode b_Bo_partBlock 8 = .ok (.getfield 19, 3) := by decide +kernel
theorem d_Bo_partBlock_11 : decode b_Bo_partBlock 11 = .ok (.iconst 4, 1) := by decide +kernel
theorem d_Bo_partBlock_12 : decode b_Bo_partBlock 12 = .ok (.dup2, 1) := by decide +kernel
theorem d_Bo_partBlock_13 : decode b_Bo_partBlock 13 = .ok (.iaload, 1) := by decide +kernel
theorem d_Bo_partBlock_14 : decode b_Bo_partBlock 14 = .ok (.iconst 1, 1) := by decide +kernel
theorem d_Bo_partBlock_15 : decode b_Bo_partBlock 15 = .ok (.iadd, 1) := by decide +kernel
theorem d_Bo_partBlock_16 : decode b_Bo_partBlock 16 = .ok (.iastore, 1) := by decide +kernel
theorem d_Bo_partBlock_17 : decode b_Bo_partBlock 17 = .ok (.aload_n 0, 1) := by decide +kernel
theorem d_Bo_partBlock_18 : decode b_Bo_partBlock 18 = .ok (.getfield 19, 3) := by decide +kernel
theorem d_Bo_partBlock_21 : decode b_Bo_partBlock 21 = .ok (.iconst 3, 1) := by decide +kernel
theorem d_Bo_partBlock_22 : decode b_Bo_partBlock 22 = .ok (.aload_n 0, 1) := by decide +kernel
theorem d_Bo_partBlock_23 : decode b_Bo_partBlock 23 = .ok (.getfield 19, 3) := by decide +kernel
theorem d_Bo_partBlock_26 : decode b_Bo_partBlock 26 = .ok (.iconst 3, 1) := by decide +kernel
theorem d_Bo_partBlock_27 : decode b_Bo_partBlock 27 = .ok (.iaload, 1) := by decide +kernel
theorem d_Bo_partBlock_28 : decode b_Bo_partBlock 28 = .ok (.iload 7, 2) := by decide +kernel
theorem d_Bo_partBlock_30 : decode b_Bo_partBlock 30 = .ok (.invokestatic 69, 3) := by decide +kernel
theorem d_Bo_partBlock_33 : decode b_Bo_partBlock 33 = .ok (.iastore, 1) := by decide +kernel
theorem d_Bo_partBlock_34 : decode b_Bo_partBlock 34 = .ok (.aload_n 0, 1) := by decide +kernel
theorem d_Bo_partBlock_35 : decode b_Bo_partBlock 35 = .ok (.getfield 25, 3) := by decide +kernel
theorem d_Bo_partBlock_38 : decode b_Bo_partBlock 38 = .ok (.iload_n 1, 1) := by decide +kernel
theorem d_Bo_partBlock_39 : decode b_Bo_partBlock 39 = .ok (.iload_n 2, 1) := by decide +kernel
theorem d_Bo_partBlock_40 : decode b_Bo_partBlock 40 = .ok (.iload_n 3, 1) := by decide +kernel
theorem d_Bo_partBlock_41 : decode b_Bo_partBlock 41 = .ok (.iload 4, 2) := by decide +kernel
theorem d_Bo_partBlock_43 : decode b_Bo_partBlock 43 = .ok (.iload 5, 2) := by decide +kernel
theorem d_Bo_partBlock_45 : decode b_Bo_partBlock 45 = .ok (.iload 6, 2) := by decide +kernel
theorem d_Bo_partBlock_47 : decode b_Bo_partBlock 47 = .ok (.iconst 1, 1) := by decide +kernel
theorem d_Bo_partBlock_48 : decode b_Bo_partBlock 48 = .ok (.invokevirtual 74, 3) := by decide +kernel
theorem d_Bo_partBlock_51 : decode b_Bo_partBlock 51 = .ok (.ifCond .ge 7, 3) := by decide +kernel
theorem d_Bo_partBlock_54 : decode b_Bo_partBlock 54 = .ok (.iconst 1, 1) := by decide +kernel
theorem d_Bo_partBlock_55 : decode b_Bo_partBlock 55 = .ok (.goto 4, 3) := by decide +kernel
theorem d_Bo_partBlock_58 : decode b_Bo_partBlock 58 = .ok (.iconst 0, 1) := by decide +kernel
theorem d_Bo_partBlock_59 : decode b_Bo_partBlock 59 = .ok (.istore 8, 2) := by decide +kernel
theorem d_Bo_partBlock_61 : decode b_Bo_partBlock 61 = .ok (.iload_n 1, 1) := by decide +kernel
theorem d_Bo_partBlock_62 : decode b_Bo_partBlock 62 = .ok (.iload 4, 2) := by decide +kernel
theorem d_Bo_partBlock_64 : decode b_Bo_partBlock 64 = .ok (.if_icmp .ne 19, 3) := by decide +kernel
theorem d_Bo_partBlock_67 : decode b_Bo_partBlock 67 = .ok (.iload_n 2, 1) := by decide +kernel
theorem d_Bo_partBlock_68 : decode b_Bo_partBlock 68 = .ok (.iload 5, 2) := by decide +kernel
theorem d_Bo_partBlock_70 : decode b_Bo_partBlock 70 = .ok (.if_icmp .ne 13, 3) := by decide +kernel
theorem d_Bo_partBlock_73 : decode b_Bo_partBlock 73 = .ok (.iload_n 3, 1) := by decide +kernel
theorem d_Bo_partBlock_74 : decode b_Bo_partBlock 74 = .ok (.iload 6, 2) := by decide +kernel
theorem d_Bo_partBlock_76 : decode b_Bo_partBlock 76 = .ok (.if_icmp .ne 7, 3) := by decide +kernel
theorem d_Bo_partBlock_79 : decode b_Bo_partBlock 79 = .ok (.iconst 1, 1) := by decide +kernel
theorem d_Bo_partBlock_80 : decode b_Bo_partBlock 80 = .ok (.goto 4, 3) := by decide +kernel
theorem d_Bo_partBlock_83 : decode b_Bo_partBlock 83 = .ok (.iconst 0, 1) := by decide +kernel
theorem d_Bo_partBlock_84 : decode b_Bo_partBlock 84 = .ok (.istore 9, 2) := by decide +kernel
theorem d_Bo_partBlock_86 : decode b_Bo_partBlock 86 = .ok (.iload 8, 2) := by decide +kernel
theorem d_Bo_partBlock_88 : decode b_Bo_partBlock 88 = .ok (.ifCond .ne 44, 3) := by decide +kernel
theorem d_Bo_partBlock_91 : decode b_Bo_partBlock 91 = .ok (.iload 9, 2) := by decide +kernel
theorem d_Bo_partBlock_93 : decode b_Bo_partBlock 93 = .ok (.ifCond .ne 39, 3) := by decide +kernel
theorem d_Bo_partBlock_96 : decode b_Bo_partBlock 96 = .ok (.aload_n 0, 1) := by decide +kernel
theorem d_Bo_partBlock_97 : decode b_Bo_partBlock 97 = .ok (.getfield 25, 3) := by decide +kernel
theorem d_Bo_partBlock_100 : decode b_Bo_partBlock 100 = .ok (.iload_n 1, 1) := by decide +kernel
theorem d_Bo_partBlock_101 : decode b_Bo_partBlock 101 = .ok (.iload_n 2, 1) := by decide +kernel
theorem d_Bo_partBlock_102 : decode b_Bo_partBlock 102 = .ok (.iload_n 3, 1) := by decide +kernel
theorem d_Bo_partBlock_103 : decode b_Bo_partBlock 103 = .ok (.iload 4, 2) := by decide +kernel
theorem d_Bo_partBlock_105 : decode b_Bo_partBlock 105 = .ok (.iload 5, 2) := by decide +kernel
theorem d_Bo_partBlock_107 : decode b_Bo_partBlock 107 = .ok (.iload 6, 2) := by decide +kernel
theorem d_Bo_partBlock_109 : decode b_Bo_partBlock 109 = .ok (.iconst 0, 1) := by decide +kernel
theorem d_Bo_partBlock_110 : decode b_Bo_partBlock 110 = .ok (.invokevirtual 74, 3) := by decide +kernel
theorem d_Bo_partBlock_113 : decode b_Bo_partBlock 113 = .ok (.ifCond .ge 19, 3) := by decide +kernel
theorem d_Bo_partBlock_116 : decode b_Bo_partBlock 116 = .ok (.aload_n 0, 1) := by decide +kernel
theorem d_Bo_partBlock_117 : decode b_Bo_partBlock 117 = .ok (.iload_n 1, 1) := by decide +kernel
theorem d_Bo_partBlock_118 : decode b_Bo_partBlock 118 = .ok (.iload_n 2, 1) := by decide +kernel
theorem d_Bo_partBlock_119 : decode b_Bo_partBlock 119 = .ok (.iload_n 3, 1) := by decide +kernel
theorem d_Bo_partBlock_120 : decode b_Bo_partBlock 120 = .ok (.iload 4, 2) := by decide +kernel
theorem d_Bo_partBlock_122 : decode b_Bo_partBlock 122 = .ok (.iload 5, 2) := by decide +kernel
theorem d_Bo_partBlock_124 : decode b_Bo_partBlock 124 = .ok (.iload 6, 2) := by decide +kernel
theorem d_Bo_partBlock_126 : decode b_Bo_partBlock 126 = .ok (.iload 7, 2) := by decide +kernel
theorem d_Bo_partBlock_128 : decode b_Bo_partBlock 128 = .ok (.invokevirtual 78, 3) := by decide +kernel
theorem d_Bo_partBlock_131 : decode b_Bo_partBlock 131 = .ok (.return_, 1) := by decide +kernel
theorem d_Bo_partBlock_132 : decode b_Bo_partBlock 132 = .ok (.aload_n 0, 1) := by decide +kernel
theorem d_Bo_partBlock_133 : decode b_Bo_partBlock 133 = .ok (.getfield 19, 3) := by decide +kernel
theorem d_Bo_partBlock_136 : decode b_Bo_partBlock 136 = .ok (.iconst 0, 1) := by decide +kernel
theorem d_Bo_partBlock_137 : decode b_Bo_partBlock 137 = .ok (.dup2, 1) := by decide +kernel
theorem d_Bo_partBlock_138 : decode b_Bo_partBlock 138 = .ok (.iaload, 1) := by decide +kernel
theorem d_Bo_partBlock_139 : decode b_Bo_partBlock 139 = .ok (.iconst 1, 1) := by decide +kernel
theorem d_Bo_partBlock_140 : decode b_Bo_partBlock 140 = .ok (.iadd, 1) := by decide +kernel
theorem d_Bo_partBlock_141 : decode b_Bo_partBlock 141 = .ok (.iastore, 1) := by decide +kernel
theorem d_Bo_partBlock_142 : decode b_Bo_partBlock 142 = .ok (.iload 8, 2) := by decide +kernel
theorem d_Bo_partBlock_144 : decode b_Bo_partBlock 144 = .ok (.ifCond .eq 42, 3) := by decide +kernel
theorem d_Bo_partBlock_147 : decode b_Bo_partBlock 147 = .ok (.aload_n 0, 1) := by decide +kernel
theorem d_Bo_partBlock_148 : decode b_Bo_partBlock 148 = .ok (.getfield 19, 3) := by decide +kernel
theorem d_Bo_partBlock_151 : decode b_Bo_partBlock 151 = .ok (.iconst 1, 1) := by decide +kernel
theorem d_Bo_partBlock_152 : decode b_Bo_partBlock 152 = .ok (.dup2, 1) := by decide +kernel
theorem d_Bo_partBlock_153 : decode b_Bo_partBlock 153 = .ok (.iaload, 1) := by decide +kernel
theorem d_Bo_partBlock_154 : decode b_Bo_partBlock 154 = .ok (.iconst 1, 1) := by decide +kernel
theorem d_Bo_partBlock_155 : decode b_Bo_partBlock 155 = .ok (.iadd, 1) := by decide +kernel
theorem d_Bo_partBlock_156 : decode b_Bo_partBlock 156 = .ok (.iastore, 1) := by decide +kernel
theorem d_Bo_partBlock_157 : decode b_Bo_partBlock 157 = .ok (.aload_n 0, 1) := by decide +kernel
theorem d_Bo_partBlock_158 : decode b_Bo_partBlock 158 = .ok (.getfield 19, 3) := by decide +kernel
theorem d_Bo_partBlock_161 : decode b_Bo_partBlock 161 = .ok (.iconst 2, 1) := by decide +kernel
theorem d_Bo_partBlock_162 : decode b_Bo_partBlock 162 = .ok (.dup2, 1) := by decide +kernel
theorem d_Bo_partBlock_163 : decode b_Bo_partBlock 163 = .ok (.iaload, 1) := by decide +kernel
theorem d_Bo_partBlock_164 : decode b_Bo_partBlock 164 = .ok (.iload 4, 2) := by decide +kernel
theorem d_Bo_partBlock_166 : decode b_Bo_partBlock 166 = .ok (.iload_n 1, 1) := by decide +kernel
theorem d_Bo_partBlock_167 : decode b_Bo_partBlock 167 = .ok (.isub, 1) := by decide +kernel
theorem d_Bo_partBlock_168 : decode b_Bo_partBlock 168 = .ok (.iconst 1, 1) := by decide +kernel
theorem d_Bo_partBlock_169 : decode b_Bo_partBlock 169 = .ok (.iadd, 1) := by decide +kernel
theorem d_Bo_partBlock_170 : decode b_Bo_partBlock 170 = .ok (.iload 5, 2) := by decide +kernel
theorem d_Bo_partBlock_172 : decode b_Bo_partBlock 172 = .ok (.iload_n 2, 1) := by decide +kernel
theorem d_Bo_partBlock_173 : decode b_Bo_partBlock 173 = .ok (.isub, 1) := by decide +kernel
theorem d_Bo_partBlock_174 : decode b_Bo_partBlock 174 = .ok (.iconst 1, 1) := by decide +kernel
theorem d_Bo_partBlock_175 : decode b_Bo_partBlock 175 = .ok (.iadd, 1) := by decide +kernel
theorem d_Bo_partBlock_176 : decode b_Bo_partBlock 176 = .ok (.imul, 1) := by decide +kernel
theorem d_Bo_partBlock_177 : decode b_Bo_partBlock 177 = .ok (.iload 6, 2) := by decide +kernel
theorem d_Bo_partBlock_179 : decode b_Bo_partBlock 179 = .ok (.iload_n 3, 1) := by decide +kernel
theorem d_Bo_partBlock_180 : decode b_Bo_partBlock 180 = .ok (.isub, 1) := by decide +kernel
theorem d_Bo_partBlock_181 : decode b_Bo_partBlock 181 = .ok (.iconst 1, 1) := by decide +kernel
theorem d_Bo_partBlock_182 : decode b_Bo_partBlock 182 = .ok (.iadd, 1) := by decide +kernel
theorem d_Bo_partBlock_183 : decode b_Bo_partBlock 183 = .ok (.imul, 1) := by decide +kernel
theorem d_Bo_partBlock_184 : decode b_Bo_partBlock 184 = .ok (.iadd, 1) := by decide +kernel
theorem d_Bo_partBlock_185 : decode b_Bo_partBlock 185 = .ok (.iastore, 1) := by decide +kernel
theorem d_Bo_partBlock_186 : decode b_Bo_partBlock 186 = .ok (.return_, 1) := by decide +kernel
theorem d_Bo_partInTwos_0 : decode b_Bo_partInTwos 0 = .ok (.iload_n 1, 1) := by decide +kernel
theorem d_Bo_partInTwos_1 : decode b_Bo_partInTwos 1 = .ok (.iload 4, 2) := by decide +kernel
theorem d_Bo_partInTwos_3 : decode b_Bo_partInTwos 3 = .ok (.iload_n 1, 1) := by decide +kernel
theorem d_Bo_partInTwos_4 : decode b_Bo_partInTwos 4 = .ok (.isub, 1) := by decide +kernel
theorem d_Bo_partInTwos_5 : decode b_Bo_partInTwos 5 = .ok (.iconst 2, 1) := by decide +kernel
theorem d_Bo_partInTwos_6 : decode b_Bo_partInTwos 6 = .ok (.idiv, 1) := by decide +kernel
theorem d_Bo_partInTwos_7 : decode b_Bo_partInTwos 7 = .ok (.iadd, 1) := by decide +kernel
theorem d_Bo_partInTwos_8 : decode b_Bo_partInTwos 8 = .ok (.istore 8, 2) := by decide +kernel
theorem d_Bo_partInTwos_10 : decode b_Bo_partInTwos 10 = .ok (.iload_n 2, 1) := by decide +kernel
theorem d_Bo_partInTwos_11 : decode b_Bo_partInTwos 11 = .ok (.iload 5, 2) := by decide +kernel
theorem d_Bo_partInTwos_13 : decode b_Bo_partInTwos 13 = .ok (.iload_n 2, 1) := by decide +kernel
theorem d_Bo_partInTwos_14 : decode b_Bo_partInTwos 14 = .ok (.isub, 1) := by decide +kernel
theorem d_Bo_partInTwos_15 : decode b_Bo_partInTwos 15 = .ok (.iconst 2, 1) := by decide +kernel
theorem d_Bo_partInTwos_16 : decode b_Bo_partInTwos 16 = .ok (.idiv, 1) := by decide +kernel
theorem d_Bo_partInTwos_17 : decode b_Bo_partInTwos 17 = .ok (.iadd, 1) := by decide +kernel
theorem d_Bo_partInTwos_18 : decode b_Bo_partInTwos 18 = .ok (.istore 9, 2) := by decide +kernel
theorem d_Bo_partInTwos_20 : decode b_Bo_partInTwos 20 = .ok (.iload_n 3, 1) := by decide +kernel
theorem d_Bo_partInTwos_21 : decode b_Bo_partInTwos 21 = .ok (.iload 6, 2) := by decide +kernel
theorem d_Bo_partInTwos_23 : decode b_Bo_partInTwos 23 = .ok (.iload_n 3, 1) := by decide +kernel
theorem d_Bo_partInTwos_24 : decode b_Bo_partInTwos 24 = .ok (.isub, 1) := by decide +kernel
theorem d_Bo_partInTwos_25 : decode b_Bo_partInTwos 25 = .ok (.iconst 2, 1) := by decide +kernel
theorem d_Bo_partInTwos_26 : decode b_Bo_partInTwos 26 = .ok (.idiv, 1) := by decide +kernel
theorem d_Bo_partInTwos_27 : decode b_Bo_partInTwos 27 = .ok (.iadd, 1) := by decide +kernel
theorem d_Bo_partInTwos_28 : decode b_Bo_partInTwos 28 = .ok (.istore 10, 2) := by decide +kernel
theorem d_Bo_partInTwos_30 : decode b_Bo_partInTwos 30 = .ok (.iconst 0, 1) := by decide +kernel
theorem d_Bo_partInTwos_31 : decode b_Bo_partInTwos 31 = .ok (.istore 11, 2) := by decide +kernel
theorem d_Bo_partInTwos_33 : decode b_Bo_partInTwos 33 = .ok (.iload 11, 2) := by decide +kernel
theorem d_Bo_partInTwos_35 : decode b_Bo_partInTwos 35 = .ok (.bipush 8, 2) := by decide +kernel
theorem d_Bo_partInTwos_37 : decode b_Bo_partInTwos 37 = .ok (.if_icmp .ge 149, 3) := by decide +kernel
theorem d_Bo_partInTwos_40 : decode b_Bo_partInTwos 40 = .ok (.iload 11, 2) := by decide +kernel
theorem d_Bo_partInTwos_42 : decode b_Bo_partInTwos 42 = .ok (.iconst 1, 1) := by decide +kernel
theorem d_Bo_partInTwos_43 : decode b_Bo_partInTwos 43 = .ok (.iand, 1) := by decide +kernel
theorem d_Bo_partInTwos_44 : decode b_Bo_partInTwos 44 = .ok (.ifCond .ne 7, 3) := by decide +kernel
theorem d_Bo_partInTwos_47 : decode b_Bo_partInTwos 47 = .ok (.iload_n 1, 1) := by decide +kernel
theorem d_Bo_partInTwos_48 : decode b_Bo_partInTwos 48 = .ok (.goto 7, 3) := by decide +kernel
theorem d_Bo_partInTwos_51 : decode b_Bo_partInTwos 51 = .ok (.iload 8, 2) := by decide +kernel
theorem d_Bo_partInTwos_53 : decode b_Bo_partInTwos 53 = .ok (.iconst 1, 1) := by decide +kernel
theorem d_Bo_partInTwos_54 : decode b_Bo_partInTwos 54 = .ok (.iadd, 1) := by decide +kernel
theorem d_Bo_partInTwos_55 : decode b_Bo_partInTwos 55 = .ok (.istore 12, 2) := by decide +kernel
theorem d_Bo_partInTwos_57 : decode b_Bo_partInTwos 57 = .ok (.iload 11, 2) := by decide +kernel
theorem d_Bo_partInTwos_59 : decode b_Bo_partInTwos 59 = .ok (.iconst 2, 1) := by decide +kernel
theorem d_Bo_partInTwos_60 : decode b_Bo_partInTwos 60 = .ok (.iand, 1) := by decide +kernel
theorem d_Bo_partInTwos_61 : decode b_Bo_partInTwos 61 = .ok (.ifCond .ne 7, 3) := by decide +kernel
theorem d_Bo_partInTwos_64 : decode b_Bo_partInTwos 64 = .ok (.iload_n 2, 1) := by decide +kernel
theorem d_Bo_partInTwos_65 : decode b_Bo_partInTwos 65 = .ok (.goto 7, 3) := by decide +kernel
theorem d_Bo_partInTwos_68 : decode b_Bo_partInTwos 68 = .ok (.iload 9, 2) := by decide +kernel
theorem d_Bo_partInTwos_70 : decode b_Bo_partInTwos 70 = .ok (.iconst 1, 1) := by decide +kernel
theorem d_Bo_partInTwos_71 : decode b_Bo_partInTwos 71 = .ok (.iadd, 1) := by decide +kernel
theorem d_Bo_partInTwos_72 : decode b_Bo_partInTwos 72 = .ok (.istore 13, 2) := by decide +kernel
theorem d_Bo_partInTwos_74 : decode b_Bo_partInTwos 74 = .ok (.iload 11, 2) := by decide +kernel
theorem d_Bo_partInTwos_76 : decode b_Bo_partInTwos 76 = .ok (.iconst 4, 1) := by decide +kernel
theorem d_Bo_partInTwos_77 : decode b_Bo_partInTwos 77 = .ok (.iand, 1) := by decide +kernel
theorem d_Bo_partInTwos_78 : decode b_Bo_partInTwos 78 = .ok (.ifCond .ne 7, 3) := by decide +kernel
theorem d_Bo_partInTwos_81 : decode b_Bo_partInTwos 81 = .ok (.iload_n 3, 1) := by decide +kernel
theorem d_Bo_partInTwos_82 : decode b_Bo_partInTwos 82 = .ok (.goto 7, 3) := by decide +kernel
theorem d_Bo_partInTwos_85 : decode b_Bo_partInTwos 85 = .ok (.iload 10, 2) := by decide +kernel
theorem d_Bo_partInTwos_87 : decode b_Bo_partInTwos 87 = .ok (.iconst 1, 1) := by decide +kernel
theorem d_Bo_partInTwos_88 : decode b_Bo_partInTwos 88 = .ok (.iadd, 1) := by decide +kernel
theorem d_Bo_partInTwos_89 : decode b_Bo_partInTwos 89 = .ok (.istore 14, 2) := by decide +kernel
theorem d_Bo_partInTwos_91 : decode b_Bo_partInTwos 91 = .ok (.iload 12, 2) := by decide +kernel
theorem d_Bo_partInTwos_93 : decode b_Bo_partInTwos 93 = .ok (.iload 4, 2) := by decide +kernel
theorem d_Bo_partInTwos_95 : decode b_Bo_partInTwos 95 = .ok (.if_icmp .gt 85, 3) := by decide +kernel
theorem d_Bo_partInTwos_98 : decode b_Bo_partInTwos 98 = .ok (.iload 13, 2) := by decide +kernel
theorem d_Bo_partInTwos_100 : decode b_Bo_partInTwos 100 = .ok (.iload 5, 2) := by decide +kernel
theorem d_Bo_partInTwos_102 : decode b_Bo_partInTwos 102 = .ok (.if_icmp .gt 78, 3) := by decide +kernel
theorem d_Bo_partInTwos_105 : decode b_Bo_partInTwos 105 = .ok (.iload 14, 2) := by decide +kernel
theorem d_Bo_partInTwos_107 : decode b_Bo_partInTwos 107 = .ok (.iload 6, 2) := by decide +kernel
theorem d_Bo_partInTwos_109 : decode b_Bo_partInTwos 109 = .ok (.if_icmp .gt 71, 3) := by decide +kernel
theorem d_Bo_partInTwos_112 : decode b_Bo_partInTwos 112 = .ok (.iload 11, 2) := by decide +kernel
theorem d_Bo_partInTwos_114 : decode b_Bo_partInTwos 114 = .ok (.iconst 1, 1) := by decide +kernel
theorem d_Bo_partInTwos_115 : decode b_Bo_partInTwos 115 = .ok (.iand, 1) := by decide +kernel
theorem d_Bo_partInTwos_116 : decode b_Bo_partInTwos 116 = .ok (.ifCond .ne 8, 3) := by decide +kernel
theorem d_Bo_partInTwos_119 : decode b_Bo_partInTwos 119 = .ok (.iload 8, 2) := by decide +kernel
theorem d_Bo_partInTwos_121 : decode b_Bo_partInTwos 121 = .ok (.goto 5, 3) := by decide +kernel
theorem d_Bo_partInTwos_124 : decode b_Bo_partInTwos 124 = .ok (.iload 4, 2) := by decide +kernel
theorem d_Bo_partInTwos_126 : decode b_Bo_partInTwos 126 = .ok (.istore 15, 2) := by decide +kernel
theorem d_Bo_partInTwos_128 : decode b_Bo_partInTwos 128 = .ok (.iload 11, 2) := by decide +kernel
theorem d_Bo_partInTwos_130 : decode b_Bo_partInTwos 130 = .ok (.iconst 2, 1) := by decide +kernel
theorem d_Bo_partInTwos_131 : decode b_Bo_partInTwos 131 = .ok (.iand, 1) := by decide +kernel
theorem d_Bo_partInTwos_132 : decode b_Bo_partInTwos 132 = .ok (.ifCond .ne 8, 3) := by decide +kernel
theorem d_Bo_partInTwos_135 : decode b_Bo_partInTwos 135 = .ok (.iload 9, 2) := by decide +kernel
theorem d_Bo_partInTwos_137 : decode b_Bo_partInTwos 137 = .ok (.goto 5, 3) := by decide +kernel
theorem d_Bo_partInTwos_140 : decode b_Bo_partInTwos 140 = .ok (.iload 5, 2) := by decide +kernel
theorem d_Bo_partInTwos_142 : decode b_Bo_partInTwos 142 = .ok (.istore 16, 2) := by decide +kernel
theorem d_Bo_partInTwos_144 : decode b_Bo_partInTwos 144 = .ok (.iload 11, 2) := by decide +kernel
theorem d_Bo_partInTwos_146 : decode b_Bo_partInTwos 146 = .ok (.iconst 4, 1) := by decide +kernel
theorem d_Bo_partInTwos_147 : decode b_Bo_partInTwos 147 = .ok (.iand, 1) := by decide +kernel
theorem d_Bo_partInTwos_148 : decode b_Bo_partInTwos 148 = .ok (.ifCond .ne 8, 3) := by decide +kernel
theorem d_Bo_partInTwos_151 : decode b_Bo_partInTwos 151 = .ok (.iload 10, 2) := by decide +kernel
theorem d_Bo_partInTwos_153 : decode b_Bo_partInTwos 153 = .ok (.goto 5, 3) := by decide +kernel
theorem d_Bo_partInTwos_156 : decode b_Bo_partInTwos 156 = .ok (.iload 6, 2) := by decide +kernel
theorem d_Bo_partInTwos_158 : decode b_Bo_partInTwos 158 = .ok (.istore 17, 2) := by decide +kernel
theorem d_Bo_partInTwos_160 : decode b_Bo_partInTwos 160 = .ok (.aload_n 0, 1) := by decide +kernel
theorem d_Bo_partInTwos_161 : decode b_Bo_partInTwos 161 = .ok (.iload 12, 2) := by decide +kernel
theorem d_Bo_partInTwos_163 : decode b_Bo_partInTwos 163 = .ok (.iload 13, 2) := by decide +kernel
theorem d_Bo_partInTwos_165 : decode b_Bo_partInTwos 165 = .ok (.iload 14, 2) := by decide +kernel
theorem d_Bo_partInTwos_167 : decode b_Bo_partInTwos 167 = .ok (.iload 15, 2) := by decide +kernel
theorem d_Bo_partInTwos_169 : decode b_Bo_partInTwos 169 = .ok (.iload 16, 2) := by decide +kernel
theorem d_Bo_partInTwos_171 : decode b_Bo_partInTwos 171 = .ok (.iload 17, 2) := by decide +kernel
theorem d_Bo_partInTwos_173 : decode b_Bo_partInTwos 173 = .ok (.iload 7, 2) := by decide +kernel
theorem d_Bo_partInTwos_175 : decode b_Bo_partInTwos 175 = .ok (.iconst 1, 1) := by decide +kernel
theorem d_Bo_partInTwos_176 : decode b_Bo_partInTwos 176 = .ok (.iadd, 1) := by decide +kernel
theorem d_Bo_partInTwos_177 : decode b_Bo_partInTwos 177 = .ok (.invokevirtual 65, 3) := by decide +kernel
theorem d_Bo_partInTwos_180 : decode b_Bo_partInTwos 180 = .ok (.iinc 11 1, 3) := by decide +kernel
theorem d_Bo_partInTwos_183 : decode b_Bo_partInTwos 183 = .ok (.goto (-150), 3) := by decide +kernel
theorem d_Bo_partInTwos_186 : decode b_Bo_partInTwos 186 = .ok (.return_, 1) := by decide +kernel
theorem d_So_volume_0 : decode b_So_volume 0 = .ok (.aload_n 0, 1) := by decide +kernel
theorem d_So_volume_1 : decode b_So_volume 1 = .ok (.iload_n 1, 1) := by decide +kernel
theorem d_So_volume_2 : decode b_So_volume 2 = .ok (.invokevirtual 113, 3) := by decide +kernel
theorem d_So_volume_5 : decode b_So_volume 5 = .ok (.astore_n 2, 1) := by decide +kernel
theorem d_So_volume_6 : decode b_So_volume 6 = .ok (.aload_n 2, 1) := by decide +kernel
theorem d_So_volume_7 : decode b_So_volume 7 = .ok (.ifnonnull 7, 3) := by decide +kernel
theorem d_So_volume_10 : decode b_So_volume 10 = .ok (.iconst (-1), 1) := by decide +kernel
theorem d_So_volume_11 : decode b_So_volume 11 = .ok (.goto 7, 3) := by decide +kernel
theorem d_So_volume_14 : decode b_So_volume 14 = .ok (.aload_n 2, 1) := by decide +kernel
theorem d_So_volume_15 : decode b_So_volume 15 = .ok (.invokevirtual 116, 3) := by decide +kernel
theorem d_So_volume_18 : decode b_So_volume 18 = .ok (.ireturn, 1) := by decide +kernel
theorem d_So_paintedBody_0 : decode b_So_paintedBody 0 = .ok (.aload_n 0, 1) := by decide +kernel
theorem d_So_paintedBody_1 : decode b_So_paintedBody 1 = .ok (.iload_n 1, 1) := by decide +kernel
theorem d_So_paintedBody_2 : decode b_So_paintedBody 2 = .ok (.invokevirtual 79, 3) := by decide +kernel
theorem d_So_paintedBody_5 : decode b_So_paintedBody 5 = .ok (.astore_n 2, 1) := by decide +kernel
theorem d_So_paintedBody_6 : decode b_So_paintedBody 6 = .ok (.aload_n 2, 1) := by decide +kernel
theorem d_So_paintedBody_7 : decode b_So_paintedBody 7 = .ok (.ifnull 7, 3) := by decide +kernel
theorem d_So_paintedBody_10 : decode b_So_paintedBody 10 = .ok (.aload_n 2, 1) := by decide +kernel
theorem d_So_paintedBody_11 : decode b_So_paintedBody 11 = .ok (.invokevirtual 213, 3) := by decide +kernel
theorem d_So_paintedBody_14 : decode b_So_paintedBody 14 = .ok (.aload_n 2, 1) := by decide +kernel
theorem d_So_paintedBody_15 : decode b_So_paintedBody 15 = .ok (.areturn, 1) := by decide +kernel
theorem d_Bo_paint_0 : decode b_Bo_paint 0 = .ok (.iconst 0, 1) := by decide +kernel
theorem d_Bo_paint_1 : decode b_Bo_paint 1 = .ok (.istore_n 1, 1) := by decide +kernel
theorem d_Bo_paint_2 : decode b_Bo_paint 2 = .ok (.iload_n 1, 1) := by decide +kernel
theorem d_Bo_paint_3 : decode b_Bo_paint 3 = .ok (.sipush 225, 3) := by decide +kernel
theorem d_Bo_paint_6 : decode b_Bo_paint 6 = .ok (.if_icmp .ge 74, 3) := by decide +kernel
theorem d_Bo_paint_9 : decode b_Bo_paint 9 = .ok (.aload_n 0, 1) := by decide +kernel
theorem d_Bo_paint_10 : decode b_Bo_paint 10 = .ok (.getfield 15, 3) := by decide +kernel
theorem d_Bo_paint_13 : decode b_Bo_paint 13 = .ok (.ifCond .ne 67, 3) := by decide +kernel
theorem d_Bo_paint_16 : decode b_Bo_paint 16 = .ok (.iconst 0, 1) := by decide +kernel
theorem d_Bo_paint_17 : decode b_Bo_paint 17 = .ok (.istore_n 2, 1) := by decide +kernel
theorem d_Bo_paint_18 : decode b_Bo_paint 18 = .ok (.bipush (-7), 2) := by decide +kernel
theorem d_Bo_paint_20 : decode b_Bo_paint 20 = .ok (.istore_n 3, 1) := by decide +kernel
theorem d_Bo_paint_21 : decode b_Bo_paint 21 = .ok (.iload_n 3, 1) := by decide +kernel
theorem d_Bo_paint_22 : decode b_Bo_paint 22 = .ok (.bipush 7, 2) := by decide +kernel
theorem d_Bo_paint_24 : decode b_Bo_paint 24 = .ok (.if_icmp .gt 43, 3) := by decide +kernel
theorem d_Bo_paint_27 : decode b_Bo_paint 27 = .ok (.aload_n 0, 1) := by decide +kernel
theorem d_Bo_paint_28 : decode b_Bo_paint 28 = .ok (.getfield 25, 3) := by decide +kernel
theorem d_Bo_paint_31 : decode b_Bo_paint 31 = .ok (.iload_n 3, 1) := by decide +kernel
theorem d_Bo_paint_32 : decode b_Bo_paint 32 = .ok (.iload_n 1, 1) := by decide +kernel
theorem d_Bo_paint_33 : decode b_Bo_paint 33 = .ok (.bipush 15, 2) := by decide +kernel
theorem d_Bo_paint_35 : decode b_Bo_paint 35 = .ok (.irem, 1) := by decide +kernel
theorem d_Bo_paint_36 : decode b_Bo_paint 36 = .ok (.bipush (-7), 2) := by decide +kernel
theorem d_Bo_paint_38 : decode b_Bo_paint 38 = .ok (.iadd, 1) := by decide +kernel
theorem d_Bo_paint_39 : decode b_Bo_paint 39 = .ok (.iload_n 1, 1) := by decide +kernel
theorem d_Bo_paint_40 : decode b_Bo_paint 40 = .ok (.bipush 15, 2) := by decide +kernel
theorem d_Bo_paint_42 : decode b_Bo_paint 42 = .ok (.idiv, 1) := by decide +kernel
theorem d_Bo_paint_43 : decode b_Bo_paint 43 = .ok (.bipush (-7), 2) := by decide +kernel
theorem d_Bo_paint_45 : decode b_Bo_paint 45 = .ok (.iadd, 1) := by decide +kernel
theorem d_Bo_paint_46 : decode b_Bo_paint 46 = .ok (.invokevirtual 37, 3) := by decide +kernel
theorem d_Bo_paint_49 : decode b_Bo_paint 49 = .ok (.ifCond .ge 12, 3) := by decide +kernel
theorem d_Bo_paint_52 : decode b_Bo_paint 52 = .ok (.iload_n 2, 1) := by decide +kernel
theorem d_Bo_paint_53 : decode b_Bo_paint 53 = .ok (.iconst 1, 1) := by decide +kernel
theorem d_Bo_paint_54 : decode b_Bo_paint 54 = .ok (.iload_n 3, 1) := by decide +kernel
theorem d_Bo_paint_55 : decode b_Bo_paint 55 = .ok (.bipush 8, 2) := by decide +kernel
theorem d_Bo_paint_57 : decode b_Bo_paint 57 = .ok (.iadd, 1) := by decide +kernel
theorem d_Bo_paint_58 : decode b_Bo_paint 58 = .ok (.ishl, 1) := by decide +kernel
theorem d_Bo_paint_59 : decode b_Bo_paint 59 = .ok (.ior, 1) := by decide +kernel
theorem d_Bo_paint_60 : decode b_Bo_paint 60 = .ok (.istore_n 2, 1) := by decide +kernel
theorem d_Bo_paint_61 : decode b_Bo_paint 61 = .ok (.iinc 3 1, 3) := by decide +kernel
theorem d_Bo_paint_64 : decode b_Bo_paint 64 = .ok (.goto (-43), 3) := by decide +kernel
theorem d_Bo_paint_67 : decode b_Bo_paint 67 = .ok (.aload_n 0, 1) := by decide +kernel
theorem d_Bo_paint_68 : decode b_Bo_paint 68 = .ok (.getfield 9, 3) := by decide +kernel
theorem d_Bo_paint_71 : decode b_Bo_paint 71 = .ok (.iload_n 1, 1) := by decide +kernel
theorem d_Bo_paint_72 : decode b_Bo_paint 72 = .ok (.iload_n 2, 1) := by decide +kernel
theorem d_Bo_paint_73 : decode b_Bo_paint 73 = .ok (.iastore, 1) := by decide +kernel
theorem d_Bo_paint_74 : decode b_Bo_paint 74 = .ok (.iinc 1 1, 3) := by decide +kernel
theorem d_Bo_paint_77 : decode b_Bo_paint 77 = .ok (.goto (-75), 3) := by decide +kernel
theorem d_Bo_paint_80 : decode b_Bo_paint 80 = .ok (.aload_n 0, 1) := by decide +kernel
theorem d_Bo_paint_81 : decode b_Bo_paint 81 = .ok (.iconst 1, 1) := by decide +kernel
theorem d_Bo_paint_82 : decode b_Bo_paint 82 = .ok (.putfield 15, 3) := by decide +kernel
theorem d_Bo_paint_85 : decode b_Bo_paint 85 = .ok (.return_, 1) := by decide +kernel
theorem d_Bo_size_0 : decode b_Bo_size 0 = .ok (.iconst 0, 1) := by decide +kernel
theorem d_Bo_size_1 : decode b_Bo_size 1 = .ok (.istore_n 1, 1) := by decide +kernel
theorem d_Bo_size_2 : decode b_Bo_size 2 = .ok (.bipush (-7), 2) := by decide +kernel
theorem d_Bo_size_4 : decode b_Bo_size 4 = .ok (.istore_n 2, 1) := by decide +kernel
theorem d_Bo_size_5 : decode b_Bo_size 5 = .ok (.iload_n 2, 1) := by decide +kernel
theorem d_Bo_size_6 : decode b_Bo_size 6 = .ok (.bipush 7, 2) := by decide +kernel
theorem d_Bo_size_8 : decode b_Bo_size 8 = .ok (.if_icmp .gt 17, 3) := by decide +kernel
theorem d_Bo_size_11 : decode b_Bo_size 11 = .ok (.iload_n 1, 1) := by decide +kernel
theorem d_Bo_size_12 : decode b_Bo_size 12 = .ok (.aload_n 0, 1) := by decide +kernel
theorem d_Bo_size_13 : decode b_Bo_size 13 = .ok (.iload_n 2, 1) := by decide +kernel
theorem d_Bo_size_14 : decode b_Bo_size 14 = .ok (.invokevirtual 47, 3) := by decide +kernel
theorem d_Bo_size_17 : decode b_Bo_size 17 = .ok (.iadd, 1) := by decide +kernel
theorem d_Bo_size_18 : decode b_Bo_size 18 = .ok (.istore_n 1, 1) := by decide +kernel
theorem d_Bo_size_19 : decode b_Bo_size 19 = .ok (.iinc 2 1, 3) := by decide +kernel
theorem d_Bo_size_22 : decode b_Bo_size 22 = .ok (.goto (-17), 3) := by decide +kernel
theorem d_Bo_size_25 : decode b_Bo_size 25 = .ok (.iload_n 1, 1) := by decide +kernel
theorem d_Bo_size_26 : decode b_Bo_size 26 = .ok (.ireturn, 1) := by decide +kernel
theorem d_Bo_sliceSize_0 : decode b_Bo_sliceSize 0 = .ok (.iconst 0, 1) := by decide +kernel
theorem d_Bo_sliceSize_1 : decode b_Bo_sliceSize 1 = .ok (.istore_n 2, 1) := by decide +kernel
theorem d_Bo_sliceSize_2 : decode b_Bo_sliceSize 2 = .ok (.bipush (-7), 2) := by decide +kernel
theorem d_Bo_sliceSize_4 : decode b_Bo_sliceSize 4 = .ok (.istore_n 3, 1) := by decide +kernel
theorem d_Bo_sliceSize_5 : decode b_Bo_sliceSize 5 = .ok (.iload_n 3, 1) := by decide +kernel
theorem d_Bo_sliceSize_6 : decode b_Bo_sliceSize 6 = .ok (.bipush 7, 2) := by decide +kernel
theorem d_Bo_sliceSize_8 : decode b_Bo_sliceSize 8 = .ok (.if_icmp .gt 21, 3) := by decide +kernel
theorem d_Bo_sliceSize_11 : decode b_Bo_sliceSize 11 = .ok (.iload_n 2, 1) := by decide +kernel
theorem d_Bo_sliceSize_12 : decode b_Bo_sliceSize 12 = .ok (.aload_n 0, 1) := by decide +kernel
theorem d_Bo_sliceSize_13 : decode b_Bo_sliceSize 13 = .ok (.iload_n 3, 1) := by decide +kernel
theorem d_Bo_sliceSize_14 : decode b_Bo_sliceSize 14 = .ok (.iload_n 1, 1) := by decide +kernel
theorem d_Bo_sliceSize_15 : decode b_Bo_sliceSize 15 = .ok (.invokevirtual 51, 3) := by decide +kernel
theorem d_Bo_sliceSize_18 : decode b_Bo_sliceSize 18 = .ok (.invokestatic 54, 3) := by decide +kernel
theorem d_Bo_sliceSize_21 : decode b_Bo_sliceSize 21 = .ok (.iadd, 1) := by decide +kernel
theorem d_Bo_sliceSize_22 : decode b_Bo_sliceSize 22 = .ok (.istore_n 2, 1) := by decide +kernel
theorem d_Bo_sliceSize_23 : decode b_Bo_sliceSize 23 = .ok (.iinc 3 1, 3) := by decide +kernel
theorem d_Bo_sliceSize_26 : decode b_Bo_sliceSize 26 = .ok (.goto (-21), 3) := by decide +kernel
theorem d_Bo_sliceSize_29 : decode b_Bo_sliceSize 29 = .ok (.iload_n 2, 1) := by decide +kernel
theorem d_Bo_sliceSize_30 : decode b_Bo_sliceSize 30 = .ok (.ireturn, 1) := by decide +kernel
theorem d_Bo_rowAt_0 : decode b_Bo_rowAt 0 = .ok (.iload_n 1, 1) := by decide +kernel
theorem d_Bo_rowAt_1 : decode b_Bo_rowAt 1 = .ok (.iload_n 2, 1) := by decide +kernel
theorem d_Bo_rowAt_2 : decode b_Bo_rowAt 2 = .ok (.invokestatic 43, 3) := by decide +kernel
theorem d_Bo_rowAt_5 : decode b_Bo_rowAt 5 = .ok (.istore_n 3, 1) := by decide +kernel
theorem d_Bo_rowAt_6 : decode b_Bo_rowAt 6 = .ok (.iload_n 3, 1) := by decide +kernel
theorem d_Bo_rowAt_7 : decode b_Bo_rowAt 7 = .ok (.ifCond .lt 10, 3) := by decide +kernel
theorem d_Bo_rowAt_10 : decode b_Bo_rowAt 10 = .ok (.iload_n 3, 1) := by decide +kernel
theorem d_Bo_rowAt_11 : decode b_Bo_rowAt 11 = .ok (.sipush 225, 3) := by decide +kernel
theorem d_Bo_rowAt_14 : decode b_Bo_rowAt 14 = .ok (.if_icmp .lt 7, 3) := by decide +kernel
theorem d_Bo_rowAt_17 : decode b_Bo_rowAt 17 = .ok (.iconst 0, 1) := by decide +kernel
theorem d_Bo_rowAt_18 : decode b_Bo_rowAt 18 = .ok (.goto 9, 3) := by decide +kernel
theorem d_Bo_rowAt_21 : decode b_Bo_rowAt 21 = .ok (.aload_n 0, 1) := by decide +kernel
theorem d_Bo_rowAt_22 : decode b_Bo_rowAt 22 = .ok (.getfield 9, 3) := by decide +kernel
theorem d_Bo_rowAt_25 : decode b_Bo_rowAt 25 = .ok (.iload_n 3, 1) := by decide +kernel
theorem d_Bo_rowAt_26 : decode b_Bo_rowAt 26 = .ok (.iaload, 1) := by decide +kernel
theorem d_Bo_rowAt_27 : decode b_Bo_rowAt 27 = .ok (.ireturn, 1) := by decide +kernel
theorem d_So_rowPlace_0 : decode b_So_rowPlace 0 = .ok (.iload_n 0, 1) := by decide +kernel
theorem d_So_rowPlace_1 : decode b_So_rowPlace 1 = .ok (.bipush (-7), 2) := by decide +kernel
theorem d_So_rowPlace_3 : decode b_So_rowPlace 3 = .ok (.if_icmp .lt 25, 3) := by decide +kernel
theorem d_So_rowPlace_6 : decode b_So_rowPlace 6 = .ok (.iload_n 0, 1) := by decide +kernel
theorem d_So_rowPlace_7 : decode b_So_rowPlace 7 = .ok (.bipush 7, 2) := by decide +kernel
theorem d_So_rowPlace_9 : decode b_So_rowPlace 9 = .ok (.if_icmp .gt 19, 3) := by decide +kernel
theorem d_So_rowPlace_12 : decode b_So_rowPlace 12 = .ok (.iload_n 1, 1) := by decide +kernel
theorem d_So_rowPlace_13 : decode b_So_rowPlace 13 = .ok (.bipush (-7), 2) := by decide +kernel
theorem d_So_rowPlace_15 : decode b_So_rowPlace 15 = .ok (.if_icmp .lt 13, 3) := by decide +kernel
theorem d_So_rowPlace_18 : decode b_So_rowPlace 18 = .ok (.iload_n 1, 1) := by decide +kernel
theorem d_So_rowPlace_19 : decode b_So_rowPlace 19 = .ok (.bipush 7, 2) := by decide +kernel
theorem d_So_rowPlace_21 : decode b_So_rowPlace 21 = .ok (.if_icmp .gt 7, 3) := by decide +kernel
theorem d_So_rowPlace_24 : decode b_So_rowPlace 24 = .ok (.iconst 1, 1) := by decide +kernel
theorem d_So_rowPlace_25 : decode b_So_rowPlace 25 = .ok (.goto 4, 3) := by decide +kernel
theorem d_So_rowPlace_28 : decode b_So_rowPlace 28 = .ok (.iconst 0, 1) := by decide +kernel
theorem d_So_rowPlace_29 : decode b_So_rowPlace 29 = .ok (.istore_n 2, 1) := by decide +kernel
theorem d_So_rowPlace_30 : decode b_So_rowPlace 30 = .ok (.iload_n 2, 1) := by decide +kernel
theorem d_So_rowPlace_31 : decode b_So_rowPlace 31 = .ok (.ifCond .eq 18, 3) := by decide +kernel
theorem d_So_rowPlace_34 : decode b_So_rowPlace 34 = .ok (.iload_n 1, 1) := by decide +kernel
theorem d_So_rowPlace_35 : decode b_So_rowPlace 35 = .ok (.bipush (-7), 2) := by decide +kernel
theorem d_So_rowPlace_37 : decode b_So_rowPlace 37 = .ok (.isub, 1) := by decide +kernel
theorem d_So_rowPlace_38 : decode b_So_rowPlace 38 = .ok (.bipush 15, 2) := by decide +kernel
theorem d_So_rowPlace_40 : decode b_So_rowPlace 40 = .ok (.imul, 1) := by decide +kernel
theorem d_So_rowPlace_41 : decode b_So_rowPlace 41 = .ok (.iload_n 0, 1) := by decide +kernel
theorem d_So_rowPlace_42 : decode b_So_rowPlace 42 = .ok (.bipush (-7), 2) := by decide +kernel
theorem d_So_rowPlace_44 : decode b_So_rowPlace 44 = .ok (.isub, 1) := by decide +kernel
theorem d_So_rowPlace_45 : decode b_So_rowPlace 45 = .ok (.iadd, 1) := by decide +kernel
theorem d_So_rowPlace_46 : decode b_So_rowPlace 46 = .ok (.goto 4, 3) := by decide +kernel
theorem d_So_rowPlace_49 : decode b_So_rowPlace 49 = .ok (.iconst (-1), 1) := by decide +kernel
theorem d_So_rowPlace_50 : decode b_So_rowPlace 50 = .ok (.ireturn, 1) := by decide +kernel
theorem d_So_point_0 : decode b_So_point 0 = .ok (.aload_n 0, 1) := by decide +kernel
theorem d_So_point_1 : decode b_So_point 1 = .ok (.iload_n 1, 1) := by decide +kernel
theorem d_So_point_2 : decode b_So_point 2 = .ok (.invokevirtual 113, 3) := by decide +kernel
theorem d_So_point_5 : decode b_So_point 5 = .ok (.astore 4, 2) := by decide +kernel
theorem d_So_point_7 : decode b_So_point 7 = .ok (.aload 4, 2) := by decide +kernel
theorem d_So_point_9 : decode b_So_point 9 = .ok (.ifnull 16, 3) := by decide +kernel
theorem d_So_point_12 : decode b_So_point 12 = .ok (.iload_n 2, 1) := by decide +kernel
theorem d_So_point_13 : decode b_So_point 13 = .ok (.ifCond .lt 12, 3) := by decide +kernel
theorem d_So_point_16 : decode b_So_point 16 = .ok (.iload_n 3, 1) := by decide +kernel
theorem d_So_point_17 : decode b_So_point 17 = .ok (.iconst 0, 1) := by decide +kernel
theorem d_So_point_18 : decode b_So_point 18 = .ok (.iconst 2, 1) := by decide +kernel
theorem d_So_point_19 : decode b_So_point 19 = .ok (.invokestatic 106, 3) := by decide +kernel
theorem d_So_point_22 : decode b_So_point 22 = .ok (.ifCond .ne 8, 3) := by decide +kernel
theorem d_So_point_25 : decode b_So_point 25 = .ok (.bipush (-100), 2) := by decide +kernel
theorem d_So_point_27 : decode b_So_point 27 = .ok (.goto 10, 3) := by decide +kernel
theorem d_So_point_30 : decode b_So_point 30 = .ok (.aload 4, 2) := by decide +kernel
theorem d_So_point_32 : decode b_So_point 32 = .ok (.iload_n 2, 1) := by decide +kernel
theorem d_So_point_33 : decode b_So_point 33 = .ok (.iload_n 3, 1) := by decide +kernel
theorem d_So_point_34 : decode b_So_point 34 = .ok (.invokevirtual 120, 3) := by decide +kernel
theorem d_So_point_37 : decode b_So_point 37 = .ok (.ireturn, 1) := by decide +kernel
theorem d_Bo_coordinate_0 : decode b_Bo_coordinate 0 = .ok (.iload_n 1, 1) := by decide +kernel
theorem d_Bo_coordinate_1 : decode b_Bo_coordinate 1 = .ok (.istore_n 3, 1) := by decide +kernel
theorem d_Bo_coordinate_2 : decode b_Bo_coordinate 2 = .ok (.bipush (-7), 2) := by decide +kernel
theorem d_Bo_coordinate_4 : decode b_Bo_coordinate 4 = .ok (.istore 4, 2) := by decide +kernel
theorem d_Bo_coordinate_6 : decode b_Bo_coordinate 6 = .ok (.iload 4, 2) := by decide +kernel
theorem d_Bo_coordinate_8 : decode b_Bo_coordinate 8 = .ok (.bipush 7, 2) := by decide +kernel
theorem d_Bo_coordinate_10 : decode b_Bo_coordinate 10 = .ok (.if_icmp .gt 80, 3) := by decide +kernel
theorem d_Bo_coordinate_13 : decode b_Bo_coordinate 13 = .ok (.bipush (-7), 2) := by decide +kernel
theorem d_Bo_coordinate_15 : decode b_Bo_coordinate 15 = .ok (.istore 5, 2) := by decide +kernel
theorem d_Bo_coordinate_17 : decode b_Bo_coordinate 17 = .ok (.iload 5, 2) := by decide +kernel
theorem d_Bo_coordinate_19 : decode b_Bo_coordinate 19 = .ok (.bipush 7, 2) := by decide +kernel
theorem d_Bo_coordinate_21 : decode b_Bo_coordinate 21 = .ok (.if_icmp .gt 63, 3) := by decide +kernel
theorem d_Bo_coordinate_24 : decode b_Bo_coordinate 24 = .ok (.aload_n 0, 1) := by decide +kernel
theorem d_Bo_coordinate_25 : decode b_Bo_coordinate 25 = .ok (.iload 5, 2) := by decide +kernel
theorem d_Bo_coordinate_27 : decode b_Bo_coordinate 27 = .ok (.iload 4, 2) := by decide +kernel
theorem d_Bo_coordinate_29 : decode b_Bo_coordinate 29 = .ok (.invokevirtual 51, 3) := by decide +kernel
theorem d_Bo_coordinate_32 : decode b_Bo_coordinate 32 = .ok (.istore 6, 2) := by decide +kernel
theorem d_Bo_coordinate_34 : decode b_Bo_coordinate 34 = .ok (.iload 6, 2) := by decide +kernel
theorem d_Bo_coordinate_36 : decode b_Bo_coordinate 36 = .ok (.invokestatic 54, 3) := by decide +kernel
theorem d_Bo_coordinate_39 : decode b_Bo_coordinate 39 = .ok (.istore 7, 2) := by decide +kernel
theorem d_Bo_coordinate_41 : decode b_Bo_coordinate 41 = .ok (.iload_n 3, 1) := by decide +kernel
theorem d_Bo_coordinate_42 : decode b_Bo_coordinate 42 = .ok (.iload 7, 2) := by decide +kernel
theorem d_Bo_coordinate_44 : decode b_Bo_coordinate 44 = .ok (.if_icmp .ge 29, 3) := by decide +kernel
theorem d_Bo_coordinate_47 : decode b_Bo_coordinate 47 = .ok (.iload_n 2, 1) := by decide +kernel
theorem d_Bo_coordinate_48 : decode b_Bo_coordinate 48 = .ok (.ifCond .ne 12, 3) := by decide +kernel
theorem d_Bo_coordinate_51 : decode b_Bo_coordinate 51 = .ok (.iload 6, 2) := by decide +kernel
theorem d_Bo_coordinate_53 : decode b_Bo_coordinate 53 = .ok (.iload_n 3, 1) := by decide +kernel
theorem d_Bo_coordinate_54 : decode b_Bo_coordinate 54 = .ok (.invokestatic 59, 3) := by decide +kernel
theorem d_Bo_coordinate_57 : decode b_Bo_coordinate 57 = .ok (.goto 15, 3) := by decide +kernel
theorem d_Bo_coordinate_60 : decode b_Bo_coordinate 60 = .ok (.iload_n 2, 1) := by decide +kernel
theorem d_Bo_coordinate_61 : decode b_Bo_coordinate 61 = .ok (.iconst 1, 1) := by decide +kernel
theorem d_Bo_coordinate_62 : decode b_Bo_coordinate 62 = .ok (.if_icmp .ne 8, 3) := by decide +kernel
theorem d_Bo_coordinate_65 : decode b_Bo_coordinate 65 = .ok (.iload 5, 2) := by decide +kernel
theorem d_Bo_coordinate_67 : decode b_Bo_coordinate 67 = .ok (.goto 5, 3) := by decide +kernel
theorem d_Bo_coordinate_70 : decode b_Bo_coordinate 70 = .ok (.iload 4, 2) := by decide +kernel
theorem d_Bo_coordinate_72 : decode b_Bo_coordinate 72 = .ok (.ireturn, 1) := by decide +kernel
theorem d_Bo_coordinate_73 : decode b_Bo_coordinate 73 = .ok (.iload_n 3, 1) := by decide +kernel
theorem d_Bo_coordinate_74 : decode b_Bo_coordinate 74 = .ok (.iload 7, 2) := by decide +kernel
theorem d_Bo_coordinate_76 : decode b_Bo_coordinate 76 = .ok (.isub, 1) := by decide +kernel
theorem d_Bo_coordinate_77 : decode b_Bo_coordinate 77 = .ok (.istore_n 3, 1) := by decide +kernel
theorem d_Bo_coordinate_78 : decode b_Bo_coordinate 78 = .ok (.iinc 5 1, 3) := by decide +kernel
theorem d_Bo_coordinate_81 : decode b_Bo_coordinate 81 = .ok (.goto (-64), 3) := by decide +kernel
theorem d_Bo_coordinate_84 : decode b_Bo_coordinate 84 = .ok (.iinc 4 1, 3) := by decide +kernel
theorem d_Bo_coordinate_87 : decode b_Bo_coordinate 87 = .ok (.goto (-81), 3) := by decide +kernel
theorem d_Bo_coordinate_90 : decode b_Bo_coordinate 90 = .ok (.bipush (-100), 2) := by decide +kernel
theorem d_Bo_coordinate_92 : decode b_Bo_coordinate 92 = .ok (.ireturn, 1) := by decide +kernel
theorem d_Bo_xOfPoint_0 : decode b_Bo_xOfPoint 0 = .ok (.iload_n 0, 1) := by decide +kernel
theorem d_Bo_xOfPoint_1 : decode b_Bo_xOfPoint 1 = .ok (.istore_n 2, 1) := by decide +kernel
theorem d_Bo_xOfPoint_2 : decode b_Bo_xOfPoint 2 = .ok (.iconst 0, 1) := by decide +kernel
theorem d_Bo_xOfPoint_3 : decode b_Bo_xOfPoint 3 = .ok (.istore_n 3, 1) := by decide +kernel
theorem d_Bo_xOfPoint_4 : decode b_Bo_xOfPoint 4 = .ok (.iload_n 3, 1) := by decide +kernel
theorem d_Bo_xOfPoint_5 : decode b_Bo_xOfPoint 5 = .ok (.iload_n 1, 1) := by decide +kernel
theorem d_Bo_xOfPoint_6 : decode b_Bo_xOfPoint 6 = .ok (.if_icmp .ge 21, 3) := by decide +kernel
theorem d_Bo_xOfPoint_9 : decode b_Bo_xOfPoint 9 = .ok (.iload_n 3, 1) := by decide +kernel
theorem d_Bo_xOfPoint_10 : decode b_Bo_xOfPoint 10 = .ok (.bipush 15, 2) := by decide +kernel
theorem d_Bo_xOfPoint_12 : decode b_Bo_xOfPoint 12 = .ok (.if_icmp .ge 15, 3) := by decide +kernel
theorem d_Bo_xOfPoint_15 : decode b_Bo_xOfPoint 15 = .ok (.iload_n 2, 1) := by decide +kernel
theorem d_Bo_xOfPoint_16 : decode b_Bo_xOfPoint 16 = .ok (.iload_n 2, 1) := by decide +kernel
theorem d_Bo_xOfPoint_17 : decode b_Bo_xOfPoint 17 = .ok (.iconst 1, 1) := by decide +kernel
theorem d_Bo_xOfPoint_18 : decode b_Bo_xOfPoint 18 = .ok (.isub, 1) := by decide +kernel
theorem d_Bo_xOfPoint_19 : decode b_Bo_xOfPoint 19 = .ok (.iand, 1) := by decide +kernel
theorem d_Bo_xOfPoint_20 : decode b_Bo_xOfPoint 20 = .ok (.istore_n 2, 1) := by decide +kernel
theorem d_Bo_xOfPoint_21 : decode b_Bo_xOfPoint 21 = .ok (.iinc 3 1, 3) := by decide +kernel
theorem d_Bo_xOfPoint_24 : decode b_Bo_xOfPoint 24 = .ok (.goto (-20), 3) := by decide +kernel
theorem d_Bo_xOfPoint_27 : decode b_Bo_xOfPoint 27 = .ok (.iload_n 2, 1) := by decide +kernel
theorem d_Bo_xOfPoint_28 : decode b_Bo_xOfPoint 28 = .ok (.invokestatic 62, 3) := by decide +kernel
theorem d_Bo_xOfPoint_31 : decode b_Bo_xOfPoint 31 = .ok (.bipush 8, 2) := by decide +kernel
theorem d_Bo_xOfPoint_33 : decode b_Bo_xOfPoint 33 = .ok (.isub, 1) := by decide +kernel
theorem d_Bo_xOfPoint_34 : decode b_Bo_xOfPoint 34 = .ok (.ireturn, 1) := by decide +kernel
theorem d_So_skin_0 : decode b_So_skin 0 = .ok (.aload_n 0, 1) := by decide +kernel
theorem d_So_skin_1 : decode b_So_skin 1 = .ok (.iload_n 1, 1) := by decide +kernel
theorem d_So_skin_2 : decode b_So_skin 2 = .ok (.invokevirtual 113, 3) := by decide +kernel
theorem d_So_skin_5 : decode b_So_skin 5 = .ok (.astore_n 3, 1) := by decide +kernel
theorem d_So_skin_6 : decode b_So_skin 6 = .ok (.aload_n 3, 1) := by decide +kernel
theorem d_So_skin_7 : decode b_So_skin 7 = .ok (.ifnonnull 5, 3) := by decide +kernel
theorem d_So_skin_10 : decode b_So_skin 10 = .ok (.iconst (-1), 1) := by decide +kernel
theorem d_So_skin_11 : decode b_So_skin 11 = .ok (.ireturn, 1) := by decide +kernel
theorem d_So_skin_12 : decode b_So_skin 12 = .ok (.iload_n 2, 1) := by decide +kernel
theorem d_So_skin_13 : decode b_So_skin 13 = .ok (.tableswitch 53 0 3 #[31, 36, 42, 47], 31) := by decide +kernel
theorem d_So_skin_44 : decode b_So_skin 44 = .ok (.aload_n 3, 1) := by decide +kernel
theorem d_So_skin_45 : decode b_So_skin 45 = .ok (.invokevirtual 124, 3) := by decide +kernel
theorem d_So_skin_48 : decode b_So_skin 48 = .ok (.ireturn, 1) := by decide +kernel
theorem d_So_skin_49 : decode b_So_skin 49 = .ok (.aload_n 3, 1) := by decide +kernel
theorem d_So_skin_50 : decode b_So_skin 50 = .ok (.iconst 0, 1) := by decide +kernel
theorem d_So_skin_51 : decode b_So_skin 51 = .ok (.invokevirtual 127, 3) := by decide +kernel
theorem d_So_skin_54 : decode b_So_skin 54 = .ok (.ireturn, 1) := by decide +kernel
theorem d_So_skin_55 : decode b_So_skin 55 = .ok (.aload_n 3, 1) := by decide +kernel
theorem d_So_skin_56 : decode b_So_skin 56 = .ok (.invokevirtual 131, 3) := by decide +kernel
theorem d_So_skin_59 : decode b_So_skin 59 = .ok (.ireturn, 1) := by decide +kernel
theorem d_So_skin_60 : decode b_So_skin 60 = .ok (.aload_n 3, 1) := by decide +kernel
theorem d_So_skin_61 : decode b_So_skin 61 = .ok (.iconst 1, 1) := by decide +kernel
theorem d_So_skin_62 : decode b_So_skin 62 = .ok (.invokevirtual 127, 3) := by decide +kernel
theorem d_So_skin_65 : decode b_So_skin 65 = .ok (.ireturn, 1) := by decide +kernel
theorem d_So_skin_66 : decode b_So_skin 66 = .ok (.iconst (-1), 1) := by decide +kernel
theorem d_So_skin_67 : decode b_So_skin 67 = .ok (.ireturn, 1) := by decide +kernel
theorem d_Bo_squares_0 : decode b_Bo_squares 0 = .ok (.iconst 0, 1) := by decide +kernel
theorem d_Bo_squares_1 : decode b_Bo_squares 1 = .ok (.istore_n 1, 1) := by decide +kernel
theorem d_Bo_squares_2 : decode b_Bo_squares 2 = .ok (.bipush (-7), 2) := by decide +kernel
theorem d_Bo_squares_4 : decode b_Bo_squares 4 = .ok (.istore_n 2, 1) := by decide +kernel
theorem d_Bo_squares_5 : decode b_Bo_squares 5 = .ok (.iload_n 2, 1) := by decide +kernel
theorem d_Bo_squares_6 : decode b_Bo_squares 6 = .ok (.bipush 7, 2) := by decide +kernel
theorem d_Bo_squares_8 : decode b_Bo_squares 8 = .ok (.if_icmp .gt 76, 3) := by decide +kernel
theorem d_Bo_squares_11 : decode b_Bo_squares 11 = .ok (.iload_n 1, 1) := by decide +kernel
theorem d_Bo_squares_12 : decode b_Bo_squares 12 = .ok (.aload_n 0, 1) := by decide +kernel
theorem d_Bo_squares_13 : decode b_Bo_squares 13 = .ok (.iload_n 2, 1) := by decide +kernel
theorem d_Bo_squares_14 : decode b_Bo_squares 14 = .ok (.invokevirtual 81, 3) := by decide +kernel
theorem d_Bo_squares_17 : decode b_Bo_squares 17 = .ok (.iadd, 1) := by decide +kernel
theorem d_Bo_squares_18 : decode b_Bo_squares 18 = .ok (.istore_n 1, 1) := by decide +kernel
theorem d_Bo_squares_19 : decode b_Bo_squares 19 = .ok (.bipush (-7), 2) := by decide +kernel
theorem d_Bo_squares_21 : decode b_Bo_squares 21 = .ok (.istore_n 3, 1) := by decide +kernel
theorem d_Bo_squares_22 : decode b_Bo_squares 22 = .ok (.iload_n 3, 1) := by decide +kernel
theorem d_Bo_squares_23 : decode b_Bo_squares 23 = .ok (.bipush 7, 2) := by decide +kernel
theorem d_Bo_squares_25 : decode b_Bo_squares 25 = .ok (.if_icmp .gt 53, 3) := by decide +kernel
theorem d_Bo_squares_28 : decode b_Bo_squares 28 = .ok (.aload_n 0, 1) := by decide +kernel
theorem d_Bo_squares_29 : decode b_Bo_squares 29 = .ok (.iload_n 3, 1) := by decide +kernel
theorem d_Bo_squares_30 : decode b_Bo_squares 30 = .ok (.iload_n 2, 1) := by decide +kernel
theorem d_Bo_squares_31 : decode b_Bo_squares 31 = .ok (.invokevirtual 51, 3) := by decide +kernel
theorem d_Bo_squares_34 : decode b_Bo_squares 34 = .ok (.istore 4, 2) := by decide +kernel
theorem d_Bo_squares_36 : decode b_Bo_squares 36 = .ok (.iload_n 1, 1) := by decide +kernel
theorem d_Bo_squares_37 : decode b_Bo_squares 37 = .ok (.iload 4, 2) := by decide +kernel
theorem d_Bo_squares_39 : decode b_Bo_squares 39 = .ok (.aload_n 0, 1) := by decide +kernel
theorem d_Bo_squares_40 : decode b_Bo_squares 40 = .ok (.iload_n 3, 1) := by decide +kernel
theorem d_Bo_squares_41 : decode b_Bo_squares 41 = .ok (.iload_n 2, 1) := by decide +kernel
theorem d_Bo_squares_42 : decode b_Bo_squares 42 = .ok (.iconst 1, 1) := by decide +kernel
theorem d_Bo_squares_43 : decode b_Bo_squares 43 = .ok (.isub, 1) := by decide +kernel
theorem d_Bo_squares_44 : decode b_Bo_squares 44 = .ok (.invokevirtual 51, 3) := by decide +kernel
theorem d_Bo_squares_47 : decode b_Bo_squares 47 = .ok (.iconst (-1), 1) := by decide +kernel
theorem d_Bo_squares_48 : decode b_Bo_squares 48 = .ok (.ixor, 1) := by decide +kernel
theorem d_Bo_squares_49 : decode b_Bo_squares 49 = .ok (.iand, 1) := by decide +kernel
theorem d_Bo_squares_50 : decode b_Bo_squares 50 = .ok (.invokestatic 54, 3) := by decide +kernel
theorem d_Bo_squares_53 : decode b_Bo_squares 53 = .ok (.iload 4, 2) := by decide +kernel
theorem d_Bo_squares_55 : decode b_Bo_squares 55 = .ok (.aload_n 0, 1) := by decide +kernel
theorem d_Bo_squares_56 : decode b_Bo_squares 56 = .ok (.iload_n 3, 1) := by decide +kernel
theorem d_Bo_squares_57 : decode b_Bo_squares 57 = .ok (.iload_n 2, 1) := by decide +kernel
theorem d_Bo_squares_58 : decode b_Bo_squares 58 = .ok (.iconst 1, 1) := by decide +kernel
theorem d_Bo_squares_59 : decode b_Bo_squares 59 = .ok (.iadd, 1) := by decide +kernel
theorem d_Bo_squares_60 : decode b_Bo_squares 60 = .ok (.invokevirtual 51, 3) := by decide +kernel
theorem d_Bo_squares_63 : decode b_Bo_squares 63 = .ok (.iconst (-1), 1) := by decide +kernel
theorem d_Bo_squares_64 : decode b_Bo_squares 64 = .ok (.ixor, 1) := by decide +kernel
theorem d_Bo_squares_65 : decode b_Bo_squares 65 = .ok (.iand, 1) := by decide +kernel
theorem d_Bo_squares_66 : decode b_Bo_squares 66 = .ok (.invokestatic 54, 3) := by decide +kernel
theorem d_Bo_squares_69 : decode b_Bo_squares 69 = .ok (.iadd, 1) := by decide +kernel
theorem d_Bo_squares_70 : decode b_Bo_squares 70 = .ok (.iadd, 1) := by decide +kernel
theorem d_Bo_squares_71 : decode b_Bo_squares 71 = .ok (.istore_n 1, 1) := by decide +kernel
theorem d_Bo_squares_72 : decode b_Bo_squares 72 = .ok (.iinc 3 1, 3) := by decide +kernel
theorem d_Bo_squares_75 : decode b_Bo_squares 75 = .ok (.goto (-53), 3) := by decide +kernel
theorem d_Bo_squares_78 : decode b_Bo_squares 78 = .ok (.iinc 2 1, 3) := by decide +kernel
theorem d_Bo_squares_81 : decode b_Bo_squares 81 = .ok (.goto (-76), 3) := by decide +kernel
theorem d_Bo_squares_84 : decode b_Bo_squares 84 = .ok (.iload_n 1, 1) := by decide +kernel
theorem d_Bo_squares_85 : decode b_Bo_squares 85 = .ok (.ireturn, 1) := by decide +kernel
theorem d_Bo_outline_0 : decode b_Bo_outline 0 = .ok (.iconst 0, 1) := by decide +kernel
theorem d_Bo_outline_1 : decode b_Bo_outline 1 = .ok (.istore_n 2, 1) := by decide +kernel
theorem d_Bo_outline_2 : decode b_Bo_outline 2 = .ok (.bipush (-7), 2) := by decide +kernel
theorem d_Bo_outline_4 : decode b_Bo_outline 4 = .ok (.istore_n 3, 1) := by decide +kernel
theorem d_Bo_outline_5 : decode b_Bo_outline 5 = .ok (.iload_n 3, 1) := by decide +kernel
theorem d_Bo_outline_6 : decode b_Bo_outline 6 = .ok (.bipush 7, 2) := by decide +kernel
theorem d_Bo_outline_8 : decode b_Bo_outline 8 = .ok (.if_icmp .gt 81, 3) := by decide +kernel
theorem d_Bo_outline_11 : decode b_Bo_outline 11 = .ok (.aload_n 0, 1) := by decide +kernel
theorem d_Bo_outline_12 : decode b_Bo_outline 12 = .ok (.iload_n 3, 1) := by decide +kernel
theorem d_Bo_outline_13 : decode b_Bo_outline 13 = .ok (.iload_n 1, 1) := by decide +kernel
theorem d_Bo_outline_14 : decode b_Bo_outline 14 = .ok (.invokevirtual 51, 3) := by decide +kernel
theorem d_Bo_outline_17 : decode b_Bo_outline 17 = .ok (.istore 4, 2) := by decide +kernel
theorem d_Bo_outline_19 : decode b_Bo_outline 19 = .ok (.iload_n 2, 1) := by decide +kernel
theorem d_Bo_outline_20 : decode b_Bo_outline 20 = .ok (.iload 4, 2) := by decide +kernel
theorem d_Bo_outline_22 : decode b_Bo_outline 22 = .ok (.iload 4, 2) := by decide +kernel
theorem d_Bo_outline_24 : decode b_Bo_outline 24 = .ok (.iconst 1, 1) := by decide +kernel
theorem d_Bo_outline_25 : decode b_Bo_outline 25 = .ok (.ishl, 1) := by decide +kernel
theorem d_Bo_outline_26 : decode b_Bo_outline 26 = .ok (.iconst (-1), 1) := by decide +kernel
theorem d_Bo_outline_27 : decode b_Bo_outline 27 = .ok (.ixor, 1) := by decide +kernel
theorem d_Bo_outline_28 : decode b_Bo_outline 28 = .ok (.iand, 1) := by decide +kernel
theorem d_Bo_outline_29 : decode b_Bo_outline 29 = .ok (.invokestatic 54, 3) := by decide +kernel
theorem d_Bo_outline_32 : decode b_Bo_outline 32 = .ok (.iload 4, 2) := by decide +kernel
theorem d_Bo_outline_34 : decode b_Bo_outline 34 = .ok (.iload 4, 2) := by decide +kernel
theorem d_Bo_outline_36 : decode b_Bo_outline 36 = .ok (.iconst 1, 1) := by decide +kernel
theorem d_Bo_outline_37 : decode b_Bo_outline 37 = .ok (.ishr, 1) := by decide +kernel
theorem d_Bo_outline_38 : decode b_Bo_outline 38 = .ok (.iconst (-1), 1) := by decide +kernel
theorem d_Bo_outline_39 : decode b_Bo_outline 39 = .ok (.ixor, 1) := by decide +kernel
theorem d_Bo_outline_40 : decode b_Bo_outline 40 = .ok (.iand, 1) := by decide +kernel
theorem d_Bo_outline_41 : decode b_Bo_outline 41 = .ok (.invokestatic 54, 3) := by decide +kernel
theorem d_Bo_outline_44 : decode b_Bo_outline 44 = .ok (.iadd, 1) := by decide +kernel
theorem d_Bo_outline_45 : decode b_Bo_outline 45 = .ok (.iadd, 1) := by decide +kernel
theorem d_Bo_outline_46 : decode b_Bo_outline 46 = .ok (.istore_n 2, 1) := by decide +kernel
theorem d_Bo_outline_47 : decode b_Bo_outline 47 = .ok (.iload_n 2, 1) := by decide +kernel
theorem d_Bo_outline_48 : decode b_Bo_outline 48 = .ok (.iload 4, 2) := by decide +kernel
theorem d_Bo_outline_50 : decode b_Bo_outline 50 = .ok (.aload_n 0, 1) := by decide +kernel
theorem d_Bo_outline_51 : decode b_Bo_outline 51 = .ok (.iload_n 3, 1) := by decide +kernel
theorem d_Bo_outline_52 : decode b_Bo_outline 52 = .ok (.iconst 1, 1) := by decide +kernel
theorem d_Bo_outline_53 : decode b_Bo_outline 53 = .ok (.isub, 1) := by decide +kernel
theorem d_Bo_outline_54 : decode b_Bo_outline 54 = .ok (.iload_n 1, 1) := by decide +kernel
theorem d_Bo_outline_55 : decode b_Bo_outline 55 = .ok (.invokevirtual 51, 3) := by decide +kernel
theorem d_Bo_outline_58 : decode b_Bo_outline 58 = .ok (.iconst (-1), 1) := by decide +kernel
theorem d_Bo_outline_59 : decode b_Bo_outline 59 = .ok (.ixor, 1) := by decide +kernel
theorem d_Bo_outline_60 : decode b_Bo_outline 60 = .ok (.iand, 1) := by decide +kernel
theorem d_Bo_outline_61 : decode b_Bo_outline 61 = .ok (.invokestatic 54, 3) := by decide +kernel
theorem d_Bo_outline_64 : decode b_Bo_outline 64 = .ok (.iload 4, 2) := by decide +kernel
theorem d_Bo_outline_66 : decode b_Bo_outline 66 = .ok (.aload_n 0, 1) := by decide +kernel
theorem d_Bo_outline_67 : decode b_Bo_outline 67 = .ok (.iload_n 3, 1) := by decide +kernel
theorem d_Bo_outline_68 : decode b_Bo_outline 68 = .ok (.iconst 1, 1) := by decide +kernel
theorem d_Bo_outline_69 : decode b_Bo_outline 69 = .ok (.iadd, 1) := by decide +kernel
theorem d_Bo_outline_70 : decode b_Bo_outline 70 = .ok (.iload_n 1, 1) := by decide +kernel
theorem d_Bo_outline_71 : decode b_Bo_outline 71 = .ok (.invokevirtual 51, 3) := by decide +kernel
theorem d_Bo_outline_74 : decode b_Bo_outline 74 = .ok (.iconst (-1), 1) := by decide +kernel
theorem d_Bo_outline_75 : decode b_Bo_outline 75 = .ok (.ixor, 1) := by decide +kernel
theorem d_Bo_outline_76 : decode b_Bo_outline 76 = .ok (.iand, 1) := by decide +kernel
theorem d_Bo_outline_77 : decode b_Bo_outline 77 = .ok (.invokestatic 54, 3) := by decide +kernel
theorem d_Bo_outline_80 : decode b_Bo_outline 80 = .ok (.iadd, 1) := by decide +kernel
theorem d_Bo_outline_81 : decode b_Bo_outline 81 = .ok (.iadd, 1) := by decide +kernel
theorem d_Bo_outline_82 : decode b_Bo_outline 82 = .ok (.istore_n 2, 1) := by decide +kernel
theorem d_Bo_outline_83 : decode b_Bo_outline 83 = .ok (.iinc 3 1, 3) := by decide +kernel
theorem d_Bo_outline_86 : decode b_Bo_outline 86 = .ok (.goto (-81), 3) := by decide +kernel
theorem d_Bo_outline_89 : decode b_Bo_outline 89 = .ok (.iload_n 2, 1) := by decide +kernel
theorem d_Bo_outline_90 : decode b_Bo_outline 90 = .ok (.ireturn, 1) := by decide +kernel
theorem d_Bo_edges_0 : decode b_Bo_edges 0 = .ok (.iconst 0, 1) := by decide +kernel
theorem d_Bo_edges_1 : decode b_Bo_edges 1 = .ok (.istore_n 2, 1) := by decide +kernel
theorem d_Bo_edges_2 : decode b_Bo_edges 2 = .ok (.bipush (-8), 2) := by decide +kernel
theorem d_Bo_edges_4 : decode b_Bo_edges 4 = .ok (.istore_n 3, 1) := by decide +kernel
theorem d_Bo_edges_5 : decode b_Bo_edges 5 = .ok (.iload_n 3, 1) := by decide +kernel
theorem d_Bo_edges_6 : decode b_Bo_edges 6 = .ok (.bipush 7, 2) := by decide +kernel
theorem d_Bo_edges_8 : decode b_Bo_edges 8 = .ok (.if_icmp .gt 119, 3) := by decide +kernel
theorem d_Bo_edges_11 : decode b_Bo_edges 11 = .ok (.bipush (-8), 2) := by decide +kernel
theorem d_Bo_edges_13 : decode b_Bo_edges 13 = .ok (.istore 4, 2) := by decide +kernel
theorem d_Bo_edges_15 : decode b_Bo_edges 15 = .ok (.iload 4, 2) := by decide +kernel
theorem d_Bo_edges_17 : decode b_Bo_edges 17 = .ok (.bipush 7, 2) := by decide +kernel
theorem d_Bo_edges_19 : decode b_Bo_edges 19 = .ok (.if_icmp .gt 102, 3) := by decide +kernel
theorem d_Bo_edges_22 : decode b_Bo_edges 22 = .ok (.aload_n 0, 1) := by decide +kernel
theorem d_Bo_edges_23 : decode b_Bo_edges 23 = .ok (.iload 4, 2) := by decide +kernel
theorem d_Bo_edges_25 : decode b_Bo_edges 25 = .ok (.iload_n 3, 1) := by decide +kernel
theorem d_Bo_edges_26 : decode b_Bo_edges 26 = .ok (.invokevirtual 51, 3) := by decide +kernel
theorem d_Bo_edges_29 : decode b_Bo_edges 29 = .ok (.istore 5, 2) := by decide +kernel
theorem d_Bo_edges_31 : decode b_Bo_edges 31 = .ok (.aload_n 0, 1) := by decide +kernel
theorem d_Bo_edges_32 : decode b_Bo_edges 32 = .ok (.iload 4, 2) := by decide +kernel
theorem d_Bo_edges_34 : decode b_Bo_edges 34 = .ok (.iconst 1, 1) := by decide +kernel
theorem d_Bo_edges_35 : decode b_Bo_edges 35 = .ok (.iadd, 1) := by decide +kernel
theorem d_Bo_edges_36 : decode b_Bo_edges 36 = .ok (.iload_n 3, 1) := by decide +kernel
theorem d_Bo_edges_37 : decode b_Bo_edges 37 = .ok (.invokevirtual 51, 3) := by decide +kernel
theorem d_Bo_edges_40 : decode b_Bo_edges 40 = .ok (.istore 6, 2) := by decide +kernel
theorem d_Bo_edges_42 : decode b_Bo_edges 42 = .ok (.aload_n 0, 1) := by decide +kernel
theorem d_Bo_edges_43 : decode b_Bo_edges 43 = .ok (.iload 4, 2) := by decide +kernel
theorem d_Bo_edges_45 : decode b_Bo_edges 45 = .ok (.iload_n 3, 1) := by decide +kernel
theorem d_Bo_edges_46 : decode b_Bo_edges 46 = .ok (.iconst 1, 1) := by decide +kernel
theorem d_Bo_edges_47 : decode b_Bo_edges 47 = .ok (.iadd, 1) := by decide +kernel
theorem d_Bo_edges_48 : decode b_Bo_edges 48 = .ok (.invokevirtual 51, 3) := by decide +kernel
theorem d_Bo_edges_51 : decode b_Bo_edges 51 = .ok (.istore 7, 2) := by decide +kernel
theorem d_Bo_edges_53 : decode b_Bo_edges 53 = .ok (.iload_n 2, 1) := by decide +kernel
theorem d_Bo_edges_54 : decode b_Bo_edges 54 = .ok (.iload 5, 2) := by decide +kernel
theorem d_Bo_edges_56 : decode b_Bo_edges 56 = .ok (.iload 6, 2) := by decide +kernel
theorem d_Bo_edges_58 : decode b_Bo_edges 58 = .ok (.aload_n 0, 1) := by decide +kernel
theorem d_Bo_edges_59 : decode b_Bo_edges 59 = .ok (.iload 4, 2) := by decide +kernel
theorem d_Bo_edges_61 : decode b_Bo_edges 61 = .ok (.iconst 1, 1) := by decide +kernel
theorem d_Bo_edges_62 : decode b_Bo_edges 62 = .ok (.iadd, 1) := by decide +kernel
theorem d_Bo_edges_63 : decode b_Bo_edges 63 = .ok (.iload_n 3, 1) := by decide +kernel
theorem d_Bo_edges_64 : decode b_Bo_edges 64 = .ok (.iconst 1, 1) := by decide +kernel
theorem d_Bo_edges_65 : decode b_Bo_edges 65 = .ok (.iadd, 1) := by decide +kernel
theorem d_Bo_edges_66 : decode b_Bo_edges 66 = .ok (.invokevirtual 51, 3) := by decide +kernel
theorem d_Bo_edges_69 : decode b_Bo_edges 69 = .ok (.iload 7, 2) := by decide +kernel
theorem d_Bo_edges_71 : decode b_Bo_edges 71 = .ok (.iload_n 1, 1) := by decide +kernel
theorem d_Bo_edges_72 : decode b_Bo_edges 72 = .ok (.invokestatic 84, 3) := by decide +kernel
theorem d_Bo_edges_75 : decode b_Bo_edges 75 = .ok (.iadd, 1) := by decide +kernel
theorem d_Bo_edges_76 : decode b_Bo_edges 76 = .ok (.istore_n 2, 1) := by decide +kernel
theorem d_Bo_edges_77 : decode b_Bo_edges 77 = .ok (.iload_n 2, 1) := by decide +kernel
theorem d_Bo_edges_78 : decode b_Bo_edges 78 = .ok (.iload 5, 2) := by decide +kernel
theorem d_Bo_edges_80 : decode b_Bo_edges 80 = .ok (.iload 5, 2) := by decide +kernel
theorem d_Bo_edges_82 : decode b_Bo_edges 82 = .ok (.iconst 1, 1) := by decide +kernel
theorem d_Bo_edges_83 : decode b_Bo_edges 83 = .ok (.ishr, 1) := by decide +kernel
theorem d_Bo_edges_84 : decode b_Bo_edges 84 = .ok (.iload 7, 2) := by decide +kernel
theorem d_Bo_edges_86 : decode b_Bo_edges 86 = .ok (.iconst 1, 1) := by decide +kernel
theorem d_Bo_edges_87 : decode b_Bo_edges 87 = .ok (.ishr, 1) := by decide +kernel
theorem d_Bo_edges_88 : decode b_Bo_edges 88 = .ok (.iload 7, 2) := by decide +kernel
theorem d_Bo_edges_90 : decode b_Bo_edges 90 = .ok (.iload_n 1, 1) := by decide +kernel
theorem d_Bo_edges_91 : decode b_Bo_edges 91 = .ok (.invokestatic 84, 3) := by decide +kernel
theorem d_Bo_edges_94 : decode b_Bo_edges 94 = .ok (.iadd, 1) := by decide +kernel
theorem d_Bo_edges_95 : decode b_Bo_edges 95 = .ok (.istore_n 2, 1) := by decide +kernel
theorem d_Bo_edges_96 : decode b_Bo_edges 96 = .ok (.iload_n 2, 1) := by decide +kernel
theorem d_Bo_edges_97 : decode b_Bo_edges 97 = .ok (.iload 5, 2) := by decide +kernel
theorem d_Bo_edges_99 : decode b_Bo_edges 99 = .ok (.iload 5, 2) := by decide +kernel
theorem d_Bo_edges_101 : decode b_Bo_edges 101 = .ok (.iconst 1, 1) := by decide +kernel
theorem d_Bo_edges_102 : decode b_Bo_edges 102 = .ok (.ishr, 1) := by decide +kernel
theorem d_Bo_edges_103 : decode b_Bo_edges 103 = .ok (.iload 6, 2) := by decide +kernel
theorem d_Bo_edges_105 : decode b_Bo_edges 105 = .ok (.iconst 1, 1) := by decide +kernel
theorem d_Bo_edges_106 : decode b_Bo_edges 106 = .ok (.ishr, 1) := by decide +kernel
theorem d_Bo_edges_107 : decode b_Bo_edges 107 = .ok (.iload 6, 2) := by decide +kernel
theorem d_Bo_edges_109 : decode b_Bo_edges 109 = .ok (.iload_n 1, 1) := by decide +kernel
theorem d_Bo_edges_110 : decode b_Bo_edges 110 = .ok (.invokestatic 84, 3) := by decide +kernel
theorem d_Bo_edges_113 : decode b_Bo_edges 113 = .ok (.iadd, 1) := by decide +kernel
theorem d_Bo_edges_114 : decode b_Bo_edges 114 = .ok (.istore_n 2, 1) := by decide +kernel
theorem d_Bo_edges_115 : decode b_Bo_edges 115 = .ok (.iinc 4 1, 3) := by decide +kernel
theorem d_Bo_edges_118 : decode b_Bo_edges 118 = .ok (.goto (-103), 3) := by decide +kernel
theorem d_Bo_edges_121 : decode b_Bo_edges 121 = .ok (.iinc 3 1, 3) := by decide +kernel
theorem d_Bo_edges_124 : decode b_Bo_edges 124 = .ok (.goto (-119), 3) := by decide +kernel
theorem d_Bo_edges_127 : decode b_Bo_edges 127 = .ok (.iload_n 2, 1) := by decide +kernel
theorem d_Bo_edges_128 : decode b_Bo_edges 128 = .ok (.ireturn, 1) := by decide +kernel
theorem d_Bo_edgesRound_0 : decode b_Bo_edgesRound 0 = .ok (.iload 4, 2) := by decide +kernel
theorem d_Bo_edgesRound_2 : decode b_Bo_edgesRound 2 = .ok (.ifCond .eq 17, 3) := by decide +kernel
theorem d_Bo_edgesRound_5 : decode b_Bo_edgesRound 5 = .ok (.iload_n 0, 1) := by decide +kernel
theorem d_Bo_edgesRound_6 : decode b_Bo_edgesRound 6 = .ok (.iload_n 1, 1) := by decide +kernel
theorem d_Bo_edgesRound_7 : decode b_Bo_edgesRound 7 = .ok (.ixor, 1) := by decide +kernel
theorem d_Bo_edgesRound_8 : decode b_Bo_edgesRound 8 = .ok (.iload_n 1, 1) := by decide +kernel
theorem d_Bo_edgesRound_9 : decode b_Bo_edgesRound 9 = .ok (.iload_n 2, 1) := by decide +kernel
theorem d_Bo_edgesRound_10 : decode b_Bo_edgesRound 10 = .ok (.ixor, 1) := by decide +kernel
theorem d_Bo_edgesRound_11 : decode b_Bo_edgesRound 11 = .ok (.iand, 1) := by decide +kernel
theorem d_Bo_edgesRound_12 : decode b_Bo_edgesRound 12 = .ok (.iload_n 2, 1) := by decide +kernel
theorem d_Bo_edgesRound_13 : decode b_Bo_edgesRound 13 = .ok (.iload_n 3, 1) := by decide +kernel
theorem d_Bo_edgesRound_14 : decode b_Bo_edgesRound 14 = .ok (.ixor, 1) := by decide +kernel
theorem d_Bo_edgesRound_15 : decode b_Bo_edgesRound 15 = .ok (.iand, 1) := by decide +kernel
theorem d_Bo_edgesRound_16 : decode b_Bo_edgesRound 16 = .ok (.goto 20, 3) := by decide +kernel
theorem d_Bo_edgesRound_19 : decode b_Bo_edgesRound 19 = .ok (.iload_n 0, 1) := by decide +kernel
theorem d_Bo_edgesRound_20 : decode b_Bo_edgesRound 20 = .ok (.iload_n 1, 1) := by decide +kernel
theorem d_Bo_edgesRound_21 : decode b_Bo_edgesRound 21 = .ok (.ior, 1) := by decide +kernel
theorem d_Bo_edgesRound_22 : decode b_Bo_edgesRound 22 = .ok (.iload_n 2, 1) := by decide +kernel
theorem d_Bo_edgesRound_23 : decode b_Bo_edgesRound 23 = .ok (.ior, 1) := by decide +kernel
theorem d_Bo_edgesRound_24 : decode b_Bo_edgesRound 24 = .ok (.iload_n 3, 1) := by decide +kernel
theorem d_Bo_edgesRound_25 : decode b_Bo_edgesRound 25 = .ok (.ior, 1) := by decide +kernel
theorem d_Bo_edgesRound_26 : decode b_Bo_edgesRound 26 = .ok (.iload_n 0, 1) := by decide +kernel
theorem d_Bo_edgesRound_27 : decode b_Bo_edgesRound 27 = .ok (.iload_n 1, 1) := by decide +kernel
theorem d_Bo_edgesRound_28 : decode b_Bo_edgesRound 28 = .ok (.iand, 1) := by decide +kernel
theorem d_Bo_edgesRound_29 : decode b_Bo_edgesRound 29 = .ok (.iload_n 2, 1) := by decide +kernel
theorem d_Bo_edgesRound_30 : decode b_Bo_edgesRound 30 = .ok (.iand, 1) := by decide +kernel
theorem d_Bo_edgesRound_31 : decode b_Bo_edgesRound 31 = .ok (.iload_n 3, 1) := by decide +kernel
theorem d_Bo_edgesRound_32 : decode b_Bo_edgesRound 32 = .ok (.iand, 1) := by decide +kernel
theorem d_Bo_edgesRound_33 : decode b_Bo_edgesRound 33 = .ok (.iconst (-1), 1) := by decide +kernel
theorem d_Bo_edgesRound_34 : decode b_Bo_edgesRound 34 = .ok (.ixor, 1) := by decide +kernel
theorem d_Bo_edgesRound_35 : decode b_Bo_edgesRound 35 = .ok (.iand, 1) := by decide +kernel
theorem d_Bo_edgesRound_36 : decode b_Bo_edgesRound 36 = .ok (.istore 5, 2) := by decide +kernel
theorem d_Bo_edgesRound_38 : decode b_Bo_edgesRound 38 = .ok (.iload 5, 2) := by decide +kernel
theorem d_Bo_edgesRound_40 : decode b_Bo_edgesRound 40 = .ok (.invokestatic 54, 3) := by decide +kernel
theorem d_Bo_edgesRound_43 : decode b_Bo_edgesRound 43 = .ok (.ireturn, 1) := by decide +kernel
theorem d_Bo_corners_0 : decode b_Bo_corners 0 = .ok (.iconst 0, 1) := by decide +kernel
theorem d_Bo_corners_1 : decode b_Bo_corners 1 = .ok (.istore_n 1, 1) := by decide +kernel
theorem d_Bo_corners_2 : decode b_Bo_corners 2 = .ok (.bipush (-8), 2) := by decide +kernel
theorem d_Bo_corners_4 : decode b_Bo_corners 4 = .ok (.istore_n 2, 1) := by decide +kernel
theorem d_Bo_corners_5 : decode b_Bo_corners 5 = .ok (.iload_n 2, 1) := by decide +kernel
theorem d_Bo_corners_6 : decode b_Bo_corners 6 = .ok (.bipush 7, 2) := by decide +kernel
theorem d_Bo_corners_8 : decode b_Bo_corners 8 = .ok (.if_icmp .gt 113, 3) := by decide +kernel
theorem d_Bo_corners_11 : decode b_Bo_corners 11 = .ok (.bipush (-8), 2) := by decide +kernel
theorem d_Bo_corners_13 : decode b_Bo_corners 13 = .ok (.istore_n 3, 1) := by decide +kernel
theorem d_Bo_corners_14 : decode b_Bo_corners 14 = .ok (.iload_n 3, 1) := by decide +kernel
theorem d_Bo_corners_15 : decode b_Bo_corners 15 = .ok (.bipush 7, 2) := by decide +kernel
theorem d_Bo_corners_17 : decode b_Bo_corners 17 = .ok (.if_icmp .gt 98, 3) := by decide +kernel
theorem d_Bo_corners_20 : decode b_Bo_corners 20 = .ok (.aload_n 0, 1) := by decide +kernel
theorem d_Bo_corners_21 : decode b_Bo_corners 21 = .ok (.iload_n 3, 1) := by decide +kernel
theorem d_Bo_corners_22 : decode b_Bo_corners 22 = .ok (.iload_n 2, 1) := by decide +kernel
theorem d_Bo_corners_23 : decode b_Bo_corners 23 = .ok (.invokevirtual 51, 3) := by decide +kernel
theorem d_Bo_corners_26 : decode b_Bo_corners 26 = .ok (.istore 4, 2) := by decide +kernel
theorem d_Bo_corners_28 : decode b_Bo_corners 28 = .ok (.aload_n 0, 1) := by decide +kernel
theorem d_Bo_corners_29 : decode b_Bo_corners 29 = .ok (.iload_n 3, 1) := by decide +kernel
theorem d_Bo_corners_30 : decode b_Bo_corners 30 = .ok (.iconst 1, 1) := by decide +kernel
theorem d_Bo_corners_31 : decode b_Bo_corners 31 = .ok (.iadd, 1) := by decide +kernel
theorem d_Bo_corners_32 : decode b_Bo_corners 32 = .ok (.iload_n 2, 1) := by decide +kernel
theorem d_Bo_corners_33 : decode b_Bo_corners 33 = .ok (.invokevirtual 51, 3) := by decide +kernel
theorem d_Bo_corners_36 : decode b_Bo_corners 36 = .ok (.istore 5, 2) := by decide +kernel
theorem d_Bo_corners_38 : decode b_Bo_corners 38 = .ok (.aload_n 0, 1) := by decide +kernel
theorem d_Bo_corners_39 : decode b_Bo_corners 39 = .ok (.iload_n 3, 1) := by decide +kernel
theorem d_Bo_corners_40 : decode b_Bo_corners 40 = .ok (.iload_n 2, 1) := by decide +kernel
theorem d_Bo_corners_41 : decode b_Bo_corners 41 = .ok (.iconst 1, 1) := by decide +kernel
theorem d_Bo_corners_42 : decode b_Bo_corners 42 = .ok (.iadd, 1) := by decide +kernel
theorem d_Bo_corners_43 : decode b_Bo_corners 43 = .ok (.invokevirtual 51, 3) := by decide +kernel
theorem d_Bo_corners_46 : decode b_Bo_corners 46 = .ok (.istore 6, 2) := by decide +kernel
theorem d_Bo_corners_48 : decode b_Bo_corners 48 = .ok (.aload_n 0, 1) := by decide +kernel
theorem d_Bo_corners_49 : decode b_Bo_corners 49 = .ok (.iload_n 3, 1) := by decide +kernel
theorem d_Bo_corners_50 : decode b_Bo_corners 50 = .ok (.iconst 1, 1) := by decide +kernel
theorem d_Bo_corners_51 : decode b_Bo_corners 51 = .ok (.iadd, 1) := by decide +kernel
theorem d_Bo_corners_52 : decode b_Bo_corners 52 = .ok (.iload_n 2, 1) := by decide +kernel
theorem d_Bo_corners_53 : decode b_Bo_corners 53 = .ok (.iconst 1, 1) := by decide +kernel
theorem d_Bo_corners_54 : decode b_Bo_corners 54 = .ok (.iadd, 1) := by decide +kernel
theorem d_Bo_corners_55 : decode b_Bo_corners 55 = .ok (.invokevirtual 51, 3) := by decide +kernel
theorem d_Bo_corners_58 : decode b_Bo_corners 58 = .ok (.istore 7, 2) := by decide +kernel
theorem d_Bo_corners_60 : decode b_Bo_corners 60 = .ok (.iload 4, 2) := by decide +kernel
theorem d_Bo_corners_62 : decode b_Bo_corners 62 = .ok (.iload 5, 2) := by decide +kernel
theorem d_Bo_corners_64 : decode b_Bo_corners 64 = .ok (.ior, 1) := by decide +kernel
theorem d_Bo_corners_65 : decode b_Bo_corners 65 = .ok (.iload 6, 2) := by decide +kernel
theorem d_Bo_corners_67 : decode b_Bo_corners 67 = .ok (.ior, 1) := by decide +kernel
theorem d_Bo_corners_68 : decode b_Bo_corners 68 = .ok (.iload 7, 2) := by decide +kernel
theorem d_Bo_corners_70 : decode b_Bo_corners 70 = .ok (.ior, 1) := by decide +kernel
theorem d_Bo_corners_71 : decode b_Bo_corners 71 = .ok (.istore 8, 2) := by decide +kernel
theorem d_Bo_corners_73 : decode b_Bo_corners 73 = .ok (.iload 4, 2) := by decide +kernel
theorem d_Bo_corners_75 : decode b_Bo_corners 75 = .ok (.iload 5, 2) := by decide +kernel
theorem d_Bo_corners_77 : decode b_Bo_corners 77 = .ok (.iand, 1) := by decide +kernel
theorem d_Bo_corners_78 : decode b_Bo_corners 78 = .ok (.iload 6, 2) := by decide +kernel
theorem d_Bo_corners_80 : decode b_Bo_corners 80 = .ok (.iand, 1) := by decide +kernel
theorem d_Bo_corners_81 : decode b_Bo_corners 81 = .ok (.iload 7, 2) := by decide +kernel
theorem d_Bo_corners_83 : decode b_Bo_corners 83 = .ok (.iand, 1) := by decide +kernel
theorem d_Bo_corners_84 : decode b_Bo_corners 84 = .ok (.istore 9, 2) := by decide +kernel
theorem d_Bo_corners_86 : decode b_Bo_corners 86 = .ok (.iload_n 1, 1) := by decide +kernel
theorem d_Bo_corners_87 : decode b_Bo_corners 87 = .ok (.iload 8, 2) := by decide +kernel
theorem d_Bo_corners_89 : decode b_Bo_corners 89 = .ok (.iload 8, 2) := by decide +kernel
theorem d_Bo_corners_91 : decode b_Bo_corners 91 = .ok (.iconst 1, 1) := by decide +kernel
theorem d_Bo_corners_92 : decode b_Bo_corners 92 = .ok (.ishr, 1) := by decide +kernel
theorem d_Bo_corners_93 : decode b_Bo_corners 93 = .ok (.ior, 1) := by decide +kernel
theorem d_Bo_corners_94 : decode b_Bo_corners 94 = .ok (.iload 9, 2) := by decide +kernel
theorem d_Bo_corners_96 : decode b_Bo_corners 96 = .ok (.iload 9, 2) := by decide +kernel
theorem d_Bo_corners_98 : decode b_Bo_corners 98 = .ok (.iconst 1, 1) := by decide +kernel
theorem d_Bo_corners_99 : decode b_Bo_corners 99 = .ok (.ishr, 1) := by decide +kernel
theorem d_Bo_corners_100 : decode b_Bo_corners 100 = .ok (.iand, 1) := by decide +kernel
theorem d_Bo_corners_101 : decode b_Bo_corners 101 = .ok (.iconst (-1), 1) := by decide +kernel
theorem d_Bo_corners_102 : decode b_Bo_corners 102 = .ok (.ixor, 1) := by decide +kernel
theorem d_Bo_corners_103 : decode b_Bo_corners 103 = .ok (.iand, 1) := by decide +kernel
theorem d_Bo_corners_104 : decode b_Bo_corners 104 = .ok (.invokestatic 54, 3) := by decide +kernel
theorem d_Bo_corners_107 : decode b_Bo_corners 107 = .ok (.iadd, 1) := by decide +kernel
theorem d_Bo_corners_108 : decode b_Bo_corners 108 = .ok (.istore_n 1, 1) := by decide +kernel
theorem d_Bo_corners_109 : decode b_Bo_corners 109 = .ok (.iinc 3 1, 3) := by decide +kernel
theorem d_Bo_corners_112 : decode b_Bo_corners 112 = .ok (.goto (-98), 3) := by decide +kernel
theorem d_Bo_corners_115 : decode b_Bo_corners 115 = .ok (.iinc 2 1, 3) := by decide +kernel
theorem d_Bo_corners_118 : decode b_Bo_corners 118 = .ok (.goto (-113), 3) := by decide +kernel
theorem d_Bo_corners_121 : decode b_Bo_corners 121 = .ok (.iload_n 1, 1) := by decide +kernel
theorem d_Bo_corners_122 : decode b_Bo_corners 122 = .ok (.ireturn, 1) := by decide +kernel
theorem d_So_parts_0 : decode b_So_parts 0 = .ok (.aload_n 0, 1) := by decide +kernel
theorem d_So_parts_1 : decode b_So_parts 1 = .ok (.iload_n 1, 1) := by decide +kernel
theorem d_So_parts_2 : decode b_So_parts 2 = .ok (.invokevirtual 113, 3) := by decide +kernel
theorem d_So_parts_5 : decode b_So_parts 5 = .ok (.astore_n 3, 1) := by decide +kernel
theorem d_So_parts_6 : decode b_So_parts 6 = .ok (.aload_n 3, 1) := by decide +kernel
theorem d_So_parts_7 : decode b_So_parts 7 = .ok (.ifnull 12, 3) := by decide +kernel
theorem d_So_parts_10 : decode b_So_parts 10 = .ok (.iload_n 2, 1) := by decide +kernel
theorem d_So_parts_11 : decode b_So_parts 11 = .ok (.iconst 0, 1) := by decide +kernel
theorem d_So_parts_12 : decode b_So_parts 12 = .ok (.iconst 3, 1) := by decide +kernel
theorem d_So_parts_13 : decode b_So_parts 13 = .ok (.invokestatic 106, 3) := by decide +kernel
theorem d_So_parts_16 : decode b_So_parts 16 = .ok (.ifCond .ne 5, 3) := by decide +kernel
theorem d_So_parts_19 : decode b_So_parts 19 = .ok (.iconst (-1), 1) := by decide +kernel
theorem d_So_parts_20 : decode b_So_parts 20 = .ok (.ireturn, 1) := by decide +kernel
theorem d_So_parts_21 : decode b_So_parts 21 = .ok (.iload_n 2, 1) := by decide +kernel
theorem d_So_parts_22 : decode b_So_parts 22 = .ok (.ifCond .eq 8, 3) := by decide +kernel
theorem d_So_parts_25 : decode b_So_parts 25 = .ok (.iload_n 2, 1) := by decide +kernel
theorem d_So_parts_26 : decode b_So_parts 26 = .ok (.iconst 2, 1) := by decide +kernel
theorem d_So_parts_27 : decode b_So_parts 27 = .ok (.if_icmp .ne 33, 3) := by decide +kernel
theorem d_So_parts_30 : decode b_So_parts 30 = .ok (.aload_n 0, 1) := by decide +kernel
theorem d_So_parts_31 : decode b_So_parts 31 = .ok (.getfield 41, 3) := by decide +kernel
theorem d_So_parts_34 : decode b_So_parts 34 = .ok (.aload_n 3, 1) := by decide +kernel
theorem d_So_parts_35 : decode b_So_parts 35 = .ok (.invokevirtual 134, 3) := by decide +kernel
theorem d_So_parts_38 : decode b_So_parts 38 = .ok (.iload_n 2, 1) := by decide +kernel
theorem d_So_parts_39 : decode b_So_parts 39 = .ok (.ifCond .ne 13, 3) := by decide +kernel
theorem d_So_parts_42 : decode b_So_parts 42 = .ok (.aload_n 0, 1) := by decide +kernel
theorem d_So_parts_43 : decode b_So_parts 43 = .ok (.getfield 41, 3) := by decide +kernel
theorem d_So_parts_46 : decode b_So_parts 46 = .ok (.invokevirtual 138, 3) := by decide +kernel
theorem d_So_parts_49 : decode b_So_parts 49 = .ok (.goto 10, 3) := by decide +kernel
theorem d_So_parts_52 : decode b_So_parts 52 = .ok (.aload_n 0, 1) := by decide +kernel
theorem d_So_parts_53 : decode b_So_parts 53 = .ok (.getfield 41, 3) := by decide +kernel
theorem d_So_parts_56 : decode b_So_parts 56 = .ok (.invokevirtual 141, 3) := by decide +kernel
theorem d_So_parts_59 : decode b_So_parts 59 = .ok (.ireturn, 1) := by decide +kernel
theorem d_So_parts_60 : decode b_So_parts 60 = .ok (.aload_n 0, 1) := by decide +kernel
theorem d_So_parts_61 : decode b_So_parts 61 = .ok (.getfield 41, 3) := by decide +kernel
theorem d_So_parts_64 : decode b_So_parts 64 = .ok (.aload_n 3, 1) := by decide +kernel
theorem d_So_parts_65 : decode b_So_parts 65 = .ok (.invokevirtual 144, 3) := by decide +kernel
theorem d_So_parts_68 : decode b_So_parts 68 = .ok (.iload_n 2, 1) := by decide +kernel
theorem d_So_parts_69 : decode b_So_parts 69 = .ok (.iconst 1, 1) := by decide +kernel
theorem d_So_parts_70 : decode b_So_parts 70 = .ok (.if_icmp .ne 13, 3) := by decide +kernel
theorem d_So_parts_73 : decode b_So_parts 73 = .ok (.aload_n 0, 1) := by decide +kernel
theorem d_So_parts_74 : decode b_So_parts 74 = .ok (.getfield 41, 3) := by decide +kernel
theorem d_So_parts_77 : decode b_So_parts 77 = .ok (.invokevirtual 147, 3) := by decide +kernel
theorem d_So_parts_80 : decode b_So_parts 80 = .ok (.goto 10, 3) := by decide +kernel
theorem d_So_parts_83 : decode b_So_parts 83 = .ok (.aload_n 0, 1) := by decide +kernel
theorem d_So_parts_84 : decode b_So_parts 84 = .ok (.getfield 41, 3) := by decide +kernel
theorem d_So_parts_87 : decode b_So_parts 87 = .ok (.invokevirtual 150, 3) := by decide +kernel
theorem d_So_parts_90 : decode b_So_parts 90 = .ok (.ireturn, 1) := by decide +kernel
theorem d_Fl_loadWithin_0 : decode b_Fl_loadWithin 0 = .ok (.aload_n 0, 1) := by decide +kernel
theorem d_Fl_loadWithin_1 : decode b_Fl_loadWithin 1 = .ok (.iconst 0, 1) := by decide +kernel
theorem d_Fl_loadWithin_2 : decode b_Fl_loadWithin 2 = .ok (.putfield 15, 3) := by decide +kernel
theorem d_Fl_loadWithin_5 : decode b_Fl_loadWithin 5 = .ok (.iconst 0, 1) := by decide +kernel
theorem d_Fl_loadWithin_6 : decode b_Fl_loadWithin 6 = .ok (.istore_n 2, 1) := by decide +kernel
theorem d_Fl_loadWithin_7 : decode b_Fl_loadWithin 7 = .ok (.iload_n 2, 1) := by decide +kernel
theorem d_Fl_loadWithin_8 : decode b_Fl_loadWithin 8 = .ok (.sipush 225, 3) := by decide +kernel
theorem d_Fl_loadWithin_11 : decode b_Fl_loadWithin 11 = .ok (.if_icmp .ge 27, 3) := by decide +kernel
theorem d_Fl_loadWithin_14 : decode b_Fl_loadWithin 14 = .ok (.aload_n 0, 1) := by decide +kernel
theorem d_Fl_loadWithin_15 : decode b_Fl_loadWithin 15 = .ok (.getfield 9, 3) := by decide +kernel
theorem d_Fl_loadWithin_18 : decode b_Fl_loadWithin 18 = .ok (.iload_n 2, 1) := by decide +kernel
theorem d_Fl_loadWithin_19 : decode b_Fl_loadWithin 19 = .ok (.aload_n 1, 1) := by decide +kernel
theorem d_Fl_loadWithin_20 : decode b_Fl_loadWithin 20 = .ok (.iload_n 2, 1) := by decide +kernel
theorem d_Fl_loadWithin_21 : decode b_Fl_loadWithin 21 = .ok (.invokestatic 35, 3) := by decide +kernel
theorem d_Fl_loadWithin_24 : decode b_Fl_loadWithin 24 = .ok (.iload_n 2, 1) := by decide +kernel
theorem d_Fl_loadWithin_25 : decode b_Fl_loadWithin 25 = .ok (.invokestatic 39, 3) := by decide +kernel
theorem d_Fl_loadWithin_28 : decode b_Fl_loadWithin 28 = .ok (.invokevirtual 42, 3) := by decide +kernel
theorem d_Fl_loadWithin_31 : decode b_Fl_loadWithin 31 = .ok (.iastore, 1) := by decide +kernel
theorem d_Fl_loadWithin_32 : decode b_Fl_loadWithin 32 = .ok (.iinc 2 1, 3) := by decide +kernel
theorem d_Fl_loadWithin_35 : decode b_Fl_loadWithin 35 = .ok (.goto (-28), 3) := by decide +kernel
theorem d_Fl_loadWithin_38 : decode b_Fl_loadWithin 38 = .ok (.return_, 1) := by decide +kernel
theorem d_Fl_yOf_0 : decode b_Fl_yOf 0 = .ok (.iload_n 0, 1) := by decide +kernel
theorem d_Fl_yOf_1 : decode b_Fl_yOf 1 = .ok (.bipush 15, 2) := by decide +kernel
theorem d_Fl_yOf_3 : decode b_Fl_yOf 3 = .ok (.irem, 1) := by decide +kernel
theorem d_Fl_yOf_4 : decode b_Fl_yOf 4 = .ok (.bipush (-7), 2) := by decide +kernel
theorem d_Fl_yOf_6 : decode b_Fl_yOf 6 = .ok (.iadd, 1) := by decide +kernel
theorem d_Fl_yOf_7 : decode b_Fl_yOf 7 = .ok (.ireturn, 1) := by decide +kernel
theorem d_Fl_zOf_0 : decode b_Fl_zOf 0 = .ok (.iload_n 0, 1) := by decide +kernel
theorem d_Fl_zOf_1 : decode b_Fl_zOf 1 = .ok (.bipush 15, 2) := by decide +kernel
theorem d_Fl_zOf_3 : decode b_Fl_zOf 3 = .ok (.idiv, 1) := by decide +kernel
theorem d_Fl_zOf_4 : decode b_Fl_zOf 4 = .ok (.bipush (-7), 2) := by decide +kernel
theorem d_Fl_zOf_6 : decode b_Fl_zOf 6 = .ok (.iadd, 1) := by decide +kernel
theorem d_Fl_zOf_7 : decode b_Fl_zOf 7 = .ok (.ireturn, 1) := by decide +kernel
theorem d_Fl_countPieces_0 : decode b_Fl_countPieces 0 = .ok (.iconst 0, 1) := by decide +kernel
theorem d_Fl_countPieces_1 : decode b_Fl_countPieces 1 = .ok (.istore_n 1, 1) := by decide +kernel
theorem d_Fl_countPieces_2 : decode b_Fl_countPieces 2 = .ok (.iload_n 1, 1) := by decide +kernel
theorem d_Fl_countPieces_3 : decode b_Fl_countPieces 3 = .ok (.sipush 3375, 3) := by decide +kernel
theorem d_Fl_countPieces_6 : decode b_Fl_countPieces 6 = .ok (.if_icmp .ge 16, 3) := by decide +kernel
theorem d_Fl_countPieces_9 : decode b_Fl_countPieces 9 = .ok (.aload_n 0, 1) := by decide +kernel
theorem d_Fl_countPieces_10 : decode b_Fl_countPieces 10 = .ok (.invokevirtual 49, 3) := by decide +kernel
theorem d_Fl_countPieces_13 : decode b_Fl_countPieces 13 = .ok (.ifCond .eq 9, 3) := by decide +kernel
theorem d_Fl_countPieces_16 : decode b_Fl_countPieces 16 = .ok (.iinc 1 1, 3) := by decide +kernel
theorem d_Fl_countPieces_19 : decode b_Fl_countPieces 19 = .ok (.goto (-17), 3) := by decide +kernel
theorem d_Fl_countPieces_22 : decode b_Fl_countPieces 22 = .ok (.iload_n 1, 1) := by decide +kernel
theorem d_Fl_countPieces_23 : decode b_Fl_countPieces 23 = .ok (.ireturn, 1) := by decide +kernel
theorem d_Fl_takePiece_0 : decode b_Fl_takePiece 0 = .ok (.aload_n 0, 1) := by decide +kernel
theorem d_Fl_takePiece_1 : decode b_Fl_takePiece 1 = .ok (.getfield 15, 3) := by decide +kernel
theorem d_Fl_takePiece_4 : decode b_Fl_takePiece 4 = .ok (.sipush 225, 3) := by decide +kernel
theorem d_Fl_takePiece_7 : decode b_Fl_takePiece 7 = .ok (.if_icmp .ge 28, 3) := by decide +kernel
theorem d_Fl_takePiece_10 : decode b_Fl_takePiece 10 = .ok (.aload_n 0, 1) := by decide +kernel
theorem d_Fl_takePiece_11 : decode b_Fl_takePiece 11 = .ok (.getfield 9, 3) := by decide +kernel
theorem d_Fl_takePiece_14 : decode b_Fl_takePiece 14 = .ok (.aload_n 0, 1) := by decide +kernel
theorem d_Fl_takePiece_15 : decode b_Fl_takePiece 15 = .ok (.getfield 15, 3) := by decide +kernel
theorem d_Fl_takePiece_18 : decode b_Fl_takePiece 18 = .ok (.iaload, 1) := by decide +kernel
theorem d_Fl_takePiece_19 : decode b_Fl_takePiece 19 = .ok (.ifCond .ne 16, 3) := by decide +kernel
theorem d_Fl_takePiece_22 : decode b_Fl_takePiece 22 = .ok (.aload_n 0, 1) := by decide +kernel
theorem d_Fl_takePiece_23 : decode b_Fl_takePiece 23 = .ok (.dup, 1) := by decide +kernel
theorem d_Fl_takePiece_24 : decode b_Fl_takePiece 24 = .ok (.getfield 15, 3) := by decide +kernel
theorem d_Fl_takePiece_27 : decode b_Fl_takePiece 27 = .ok (.iconst 1, 1) := by decide +kernel
theorem d_Fl_takePiece_28 : decode b_Fl_takePiece 28 = .ok (.iadd, 1) := by decide +kernel
theorem d_Fl_takePiece_29 : decode b_Fl_takePiece 29 = .ok (.putfield 15, 3) := by decide +kernel
theorem d_Fl_takePiece_32 : decode b_Fl_takePiece 32 = .ok (.goto (-32), 3) := by decide +kernel
theorem d_Fl_takePiece_35 : decode b_Fl_takePiece 35 = .ok (.aload_n 0, 1) := by decide +kernel
theorem d_Fl_takePiece_36 : decode b_Fl_takePiece 36 = .ok (.getfield 15, 3) := by decide +kernel
theorem d_Fl_takePiece_39 : decode b_Fl_takePiece 39 = .ok (.sipush 225, 3) := by decide +kernel
theorem d_Fl_takePiece_42 : decode b_Fl_takePiece 42 = .ok (.if_icmp .lt 5, 3) := by decide +kernel
theorem d_Fl_takePiece_45 : decode b_Fl_takePiece 45 = .ok (.iconst 0, 1) := by decide +kernel
theorem d_Fl_takePiece_46 : decode b_Fl_takePiece 46 = .ok (.ireturn, 1) := by decide +kernel
theorem d_Fl_takePiece_47 : decode b_Fl_takePiece 47 = .ok (.aload_n 0, 1) := by decide +kernel
theorem d_Fl_takePiece_48 : decode b_Fl_takePiece 48 = .ok (.iconst 0, 1) := by decide +kernel
theorem d_Fl_takePiece_49 : decode b_Fl_takePiece 49 = .ok (.putfield 25, 3) := by decide +kernel
theorem d_Fl_takePiece_52 : decode b_Fl_takePiece 52 = .ok (.aload_n 0, 1) := by decide +kernel
theorem d_Fl_takePiece_53 : decode b_Fl_takePiece 53 = .ok (.iconst 0, 1) := by decide +kernel
theorem d_Fl_takePiece_54 : decode b_Fl_takePiece 54 = .ok (.putfield 28, 3) := by decide +kernel
theorem d_Fl_takePiece_57 : decode b_Fl_takePiece 57 = .ok (.aload_n 0, 1) := by decide +kernel
theorem d_Fl_takePiece_58 : decode b_Fl_takePiece 58 = .ok (.iconst 0, 1) := by decide +kernel
theorem d_Fl_takePiece_59 : decode b_Fl_takePiece 59 = .ok (.putfield 31, 3) := by decide +kernel
theorem d_Fl_takePiece_62 : decode b_Fl_takePiece 62 = .ok (.aload_n 0, 1) := by decide +kernel
theorem d_Fl_takePiece_63 : decode b_Fl_takePiece 63 = .ok (.aload_n 0, 1) := by decide +kernel
theorem d_Fl_takePiece_64 : decode b_Fl_takePiece 64 = .ok (.getfield 15, 3) := by decide +kernel
theorem d_Fl_takePiece_67 : decode b_Fl_takePiece 67 = .ok (.invokestatic 35, 3) := by decide +kernel
theorem d_Fl_takePiece_70 : decode b_Fl_takePiece 70 = .ok (.aload_n 0, 1) := by decide +kernel
theorem d_Fl_takePiece_71 : decode b_Fl_takePiece 71 = .ok (.getfield 15, 3) := by decide +kernel
theorem d_Fl_takePiece_74 : decode b_Fl_takePiece 74 = .ok (.invokestatic 39, 3) := by decide +kernel
theorem d_Fl_takePiece_77 : decode b_Fl_takePiece 77 = .ok (.aload_n 0, 1) := by decide +kernel
theorem d_Fl_takePiece_78 : decode b_Fl_takePiece 78 = .ok (.getfield 9, 3) := by decide +kernel
theorem d_Fl_takePiece_81 : decode b_Fl_takePiece 81 = .ok (.aload_n 0, 1) := by decide +kernel
theorem d_Fl_takePiece_82 : decode b_Fl_takePiece 82 = .ok (.getfield 15, 3) := by decide +kernel
theorem d_Fl_takePiece_85 : decode b_Fl_takePiece 85 = .ok (.iaload, 1) := by decide +kernel
theorem d_Fl_takePiece_86 : decode b_Fl_takePiece 86 = .ok (.aload_n 0, 1) := by decide +kernel
theorem d_Fl_takePiece_87 : decode b_Fl_takePiece 87 = .ok (.getfield 9, 3) := by decide +kernel
theorem d_Fl_takePiece_90 : decode b_Fl_takePiece 90 = .ok (.aload_n 0, 1) := by decide +kernel
theorem d_Fl_takePiece_91 : decode b_Fl_takePiece 91 = .ok (.getfield 15, 3) := by decide +kernel
theorem d_Fl_takePiece_94 : decode b_Fl_takePiece 94 = .ok (.iaload, 1) := by decide +kernel
theorem d_Fl_takePiece_95 : decode b_Fl_takePiece 95 = .ok (.ineg, 1) := by decide +kernel
theorem d_Fl_takePiece_96 : decode b_Fl_takePiece 96 = .ok (.iand, 1) := by decide +kernel
theorem d_Fl_takePiece_97 : decode b_Fl_takePiece 97 = .ok (.invokevirtual 65, 3) := by decide +kernel
theorem d_Fl_takePiece_100 : decode b_Fl_takePiece 100 = .ok (.iconst 0, 1) := by decide +kernel
theorem d_Fl_takePiece_101 : decode b_Fl_takePiece 101 = .ok (.istore_n 1, 1) := by decide +kernel
theorem d_Fl_takePiece_102 : decode b_Fl_takePiece 102 = .ok (.iload_n 1, 1) := by decide +kernel
theorem d_Fl_takePiece_103 : decode b_Fl_takePiece 103 = .ok (.sipush 3375, 3) := by decide +kernel
theorem d_Fl_takePiece_106 : decode b_Fl_takePiece 106 = .ok (.if_icmp .ge 49, 3) := by decide +kernel
theorem d_Fl_takePiece_109 : decode b_Fl_takePiece 109 = .ok (.aload_n 0, 1) := by decide +kernel
theorem d_Fl_takePiece_110 : decode b_Fl_takePiece 110 = .ok (.getfield 25, 3) := by decide +kernel
theorem d_Fl_takePiece_113 : decode b_Fl_takePiece 113 = .ok (.ifCond .le 42, 3) := by decide +kernel
theorem d_Fl_takePiece_116 : decode b_Fl_takePiece 116 = .ok (.aload_n 0, 1) := by decide +kernel
theorem d_Fl_takePiece_117 : decode b_Fl_takePiece 117 = .ok (.getfield 25, 3) := by decide +kernel
theorem d_Fl_takePiece_120 : decode b_Fl_takePiece 120 = .ok (.sipush 225, 3) := by decide +kernel
theorem d_Fl_takePiece_123 : decode b_Fl_takePiece 123 = .ok (.if_icmp .gt 32, 3) := by decide +kernel
theorem d_Fl_takePiece_126 : decode b_Fl_takePiece 126 = .ok (.aload_n 0, 1) := by decide +kernel
theorem d_Fl_takePiece_127 : decode b_Fl_takePiece 127 = .ok (.dup, 1) := by decide +kernel
theorem d_Fl_takePiece_128 : decode b_Fl_takePiece 128 = .ok (.getfield 25, 3) := by decide +kernel
theorem d_Fl_takePiece_131 : decode b_Fl_takePiece 131 = .ok (.iconst 1, 1) := by decide +kernel
theorem d_Fl_takePiece_132 : decode b_Fl_takePiece 132 = .ok (.isub, 1) := by decide +kernel
theorem d_Fl_takePiece_133 : decode b_Fl_takePiece 133 = .ok (.putfield 25, 3) := by decide +kernel
theorem d_Fl_takePiece_136 : decode b_Fl_takePiece 136 = .ok (.aload_n 0, 1) := by decide +kernel
theorem d_Fl_takePiece_137 : decode b_Fl_takePiece 137 = .ok (.aload_n 0, 1) := by decide +kernel
theorem d_Fl_takePiece_138 : decode b_Fl_takePiece 138 = .ok (.getfield 22, 3) := by decide +kernel
theorem d_Fl_takePiece_141 : decode b_Fl_takePiece 141 = .ok (.aload_n 0, 1) := by decide +kernel
theorem d_Fl_takePiece_142 : decode b_Fl_takePiece 142 = .ok (.getfield 25, 3) := by decide +kernel
theorem d_Fl_takePiece_145 : decode b_Fl_takePiece 145 = .ok (.iaload, 1) := by decide +kernel
theorem d_Fl_takePiece_146 : decode b_Fl_takePiece 146 = .ok (.invokevirtual 69, 3) := by decide +kernel
theorem d_Fl_takePiece_149 : decode b_Fl_takePiece 149 = .ok (.iinc 1 1, 3) := by decide +kernel
theorem d_Fl_takePiece_152 : decode b_Fl_takePiece 152 = .ok (.goto (-50), 3) := by decide +kernel
theorem d_Fl_takePiece_155 : decode b_Fl_takePiece 155 = .ok (.iconst 1, 1) := by decide +kernel
theorem d_Fl_takePiece_156 : decode b_Fl_takePiece 156 = .ok (.ireturn, 1) := by decide +kernel
theorem d_Fl_take_0 : decode b_Fl_take 0 = .ok (.iload_n 1, 1) := by decide +kernel
theorem d_Fl_take_1 : decode b_Fl_take 1 = .ok (.iload_n 2, 1) := by decide +kernel
theorem d_Fl_take_2 : decode b_Fl_take 2 = .ok (.invokestatic 62, 3) := by decide +kernel
theorem d_Fl_take_5 : decode b_Fl_take 5 = .ok (.istore 4, 2) := by decide +kernel
theorem d_Fl_take_7 : decode b_Fl_take 7 = .ok (.iload 4, 2) := by decide +kernel
theorem d_Fl_take_9 : decode b_Fl_take 9 = .ok (.ifCond .lt 23, 3) := by decide +kernel
theorem d_Fl_take_12 : decode b_Fl_take 12 = .ok (.iload 4, 2) := by decide +kernel
theorem d_Fl_take_14 : decode b_Fl_take 14 = .ok (.sipush 225, 3) := by decide +kernel
theorem d_Fl_take_17 : decode b_Fl_take 17 = .ok (.if_icmp .ge 15, 3) := by decide +kernel
theorem d_Fl_take_20 : decode b_Fl_take 20 = .ok (.aload_n 0, 1) := by decide +kernel
theorem d_Fl_take_21 : decode b_Fl_take 21 = .ok (.getfield 9, 3) := by decide +kernel
theorem d_Fl_take_24 : decode b_Fl_take 24 = .ok (.iload 4, 2) := by decide +kernel
theorem d_Fl_take_26 : decode b_Fl_take 26 = .ok (.iaload, 1) := by decide +kernel
theorem d_Fl_take_27 : decode b_Fl_take 27 = .ok (.iload_n 3, 1) := by decide +kernel
theorem d_Fl_take_28 : decode b_Fl_take 28 = .ok (.iand, 1) := by decide +kernel
theorem d_Fl_take_29 : decode b_Fl_take 29 = .ok (.ifCond .ne 4, 3) := by decide +kernel
theorem d_Fl_take_32 : decode b_Fl_take 32 = .ok (.return_, 1) := by decide +kernel
theorem d_Fl_take_33 : decode b_Fl_take 33 = .ok (.aload_n 0, 1) := by decide +kernel
theorem d_Fl_take_34 : decode b_Fl_take 34 = .ok (.getfield 19, 3) := by decide +kernel
theorem d_Fl_take_37 : decode b_Fl_take 37 = .ok (.iload 4, 2) := by decide +kernel
theorem d_Fl_take_39 : decode b_Fl_take 39 = .ok (.iaload, 1) := by decide +kernel
theorem d_Fl_take_40 : decode b_Fl_take 40 = .ok (.ifCond .ne 41, 3) := by decide +kernel
theorem d_Fl_take_43 : decode b_Fl_take 43 = .ok (.aload_n 0, 1) := by decide +kernel
theorem d_Fl_take_44 : decode b_Fl_take 44 = .ok (.getfield 25, 3) := by decide +kernel
theorem d_Fl_take_47 : decode b_Fl_take 47 = .ok (.ifCond .lt 34, 3) := by decide +kernel
theorem d_Fl_take_50 : decode b_Fl_take 50 = .ok (.aload_n 0, 1) := by decide +kernel
theorem d_Fl_take_51 : decode b_Fl_take 51 = .ok (.getfield 25, 3) := by decide +kernel
theorem d_Fl_take_54 : decode b_Fl_take 54 = .ok (.sipush 225, 3) := by decide +kernel
theorem d_Fl_take_57 : decode b_Fl_take 57 = .ok (.if_icmp .ge 24, 3) := by decide +kernel
theorem d_Fl_take_60 : decode b_Fl_take 60 = .ok (.aload_n 0, 1) := by decide +kernel
theorem d_Fl_take_61 : decode b_Fl_take 61 = .ok (.getfield 22, 3) := by decide +kernel
theorem d_Fl_take_64 : decode b_Fl_take 64 = .ok (.aload_n 0, 1) := by decide +kernel
theorem d_Fl_take_65 : decode b_Fl_take 65 = .ok (.getfield 25, 3) := by decide +kernel
theorem d_Fl_take_68 : decode b_Fl_take 68 = .ok (.iload 4, 2) := by decide +kernel
theorem d_Fl_take_70 : decode b_Fl_take 70 = .ok (.iastore, 1) := by decide +kernel
theorem d_Fl_take_71 : decode b_Fl_take 71 = .ok (.aload_n 0, 1) := by decide +kernel
theorem d_Fl_take_72 : decode b_Fl_take 72 = .ok (.dup, 1) := by decide +kernel
theorem d_Fl_take_73 : decode b_Fl_take 73 = .ok (.getfield 25, 3) := by decide +kernel
theorem d_Fl_take_76 : decode b_Fl_take 76 = .ok (.iconst 1, 1) := by decide +kernel
theorem d_Fl_take_77 : decode b_Fl_take 77 = .ok (.iadd, 1) := by decide +kernel
theorem d_Fl_take_78 : decode b_Fl_take 78 = .ok (.putfield 25, 3) := by decide +kernel
theorem d_Fl_take_81 : decode b_Fl_take 81 = .ok (.aload_n 0, 1) := by decide +kernel
theorem d_Fl_take_82 : decode b_Fl_take 82 = .ok (.getfield 19, 3) := by decide +kernel
theorem d_Fl_take_85 : decode b_Fl_take 85 = .ok (.iload 4, 2) := by decide +kernel
theorem d_Fl_take_87 : decode b_Fl_take 87 = .ok (.dup2, 1) := by decide +kernel
theorem d_Fl_take_88 : decode b_Fl_take 88 = .ok (.iaload, 1) := by decide +kernel
theorem d_Fl_take_89 : decode b_Fl_take 89 = .ok (.aload_n 0, 1) := by decide +kernel
theorem d_Fl_take_90 : decode b_Fl_take 90 = .ok (.getfield 9, 3) := by decide +kernel
theorem d_Fl_take_93 : decode b_Fl_take 93 = .ok (.iload 4, 2) := by decide +kernel
theorem d_Fl_take_95 : decode b_Fl_take 95 = .ok (.iaload, 1) := by decide +kernel
theorem d_Fl_take_96 : decode b_Fl_take 96 = .ok (.iload_n 3, 1) := by decide +kernel
theorem d_Fl_take_97 : decode b_Fl_take 97 = .ok (.iand, 1) := by decide +kernel
theorem d_Fl_take_98 : decode b_Fl_take 98 = .ok (.ior, 1) := by decide +kernel
theorem d_Fl_take_99 : decode b_Fl_take 99 = .ok (.iastore, 1) := by decide +kernel
theorem d_Fl_take_100 : decode b_Fl_take 100 = .ok (.aload_n 0, 1) := by decide +kernel
theorem d_Fl_take_101 : decode b_Fl_take 101 = .ok (.getfield 9, 3) := by decide +kernel
theorem d_Fl_take_104 : decode b_Fl_take 104 = .ok (.iload 4, 2) := by decide +kernel
theorem d_Fl_take_106 : decode b_Fl_take 106 = .ok (.dup2, 1) := by decide +kernel
theorem d_Fl_take_107 : decode b_Fl_take 107 = .ok (.iaload, 1) := by decide +kernel
theorem d_Fl_take_108 : decode b_Fl_take 108 = .ok (.iload_n 3, 1) := by decide +kernel
theorem d_Fl_take_109 : decode b_Fl_take 109 = .ok (.iconst (-1), 1) := by decide +kernel
theorem d_Fl_take_110 : decode b_Fl_take 110 = .ok (.ixor, 1) := by decide +kernel
theorem d_Fl_take_111 : decode b_Fl_take 111 = .ok (.iand, 1) := by decide +kernel
theorem d_Fl_take_112 : decode b_Fl_take 112 = .ok (.iastore, 1) := by decide +kernel
theorem d_Fl_take_113 : decode b_Fl_take 113 = .ok (.return_, 1) := by decide +kernel
theorem d_Fl_spread_0 : decode b_Fl_spread 0 = .ok (.iload_n 1, 1) := by decide +kernel
theorem d_Fl_spread_1 : decode b_Fl_spread 1 = .ok (.ifCond .lt 10, 3) := by decide +kernel
theorem d_Fl_spread_4 : decode b_Fl_spread 4 = .ok (.iload_n 1, 1) := by decide +kernel
theorem d_Fl_spread_5 : decode b_Fl_spread 5 = .ok (.sipush 225, 3) := by decide +kernel
theorem d_Fl_spread_8 : decode b_Fl_spread 8 = .ok (.if_icmp .lt 4, 3) := by decide +kernel
theorem d_Fl_spread_11 : decode b_Fl_spread 11 = .ok (.return_, 1) := by decide +kernel
theorem d_Fl_spread_12 : decode b_Fl_spread 12 = .ok (.aload_n 0, 1) := by decide +kernel
theorem d_Fl_spread_13 : decode b_Fl_spread 13 = .ok (.getfield 19, 3) := by decide +kernel
theorem d_Fl_spread_16 : decode b_Fl_spread 16 = .ok (.iload_n 1, 1) := by decide +kernel
theorem d_Fl_spread_17 : decode b_Fl_spread 17 = .ok (.iaload, 1) := by decide +kernel
theorem d_Fl_spread_18 : decode b_Fl_spread 18 = .ok (.aload_n 0, 1) := by decide +kernel
theorem d_Fl_spread_19 : decode b_Fl_spread 19 = .ok (.getfield 9, 3) := by decide +kernel
theorem d_Fl_spread_22 : decode b_Fl_spread 22 = .ok (.iload_n 1, 1) := by decide +kernel
theorem d_Fl_spread_23 : decode b_Fl_spread 23 = .ok (.iaload, 1) := by decide +kernel
theorem d_Fl_spread_24 : decode b_Fl_spread 24 = .ok (.invokestatic 73, 3) := by decide +kernel
theorem d_Fl_spread_27 : decode b_Fl_spread 27 = .ok (.istore_n 2, 1) := by decide +kernel
theorem d_Fl_spread_28 : decode b_Fl_spread 28 = .ok (.aload_n 0, 1) := by decide +kernel
theorem d_Fl_spread_29 : decode b_Fl_spread 29 = .ok (.getfield 9, 3) := by decide +kernel
theorem d_Fl_spread_32 : decode b_Fl_spread 32 = .ok (.iload_n 1, 1) := by decide +kernel
theorem d_Fl_spread_33 : decode b_Fl_spread 33 = .ok (.dup2, 1) := by decide +kernel
theorem d_Fl_spread_34 : decode b_Fl_spread 34 = .ok (.iaload, 1) := by decide +kernel
theorem d_Fl_spread_35 : decode b_Fl_spread 35 = .ok (.iload_n 2, 1) := by decide +kernel
theorem d_Fl_spread_36 : decode b_Fl_spread 36 = .ok (.iconst (-1), 1) := by decide +kernel
theorem d_Fl_spread_37 : decode b_Fl_spread 37 = .ok (.ixor, 1) := by decide +kernel
theorem d_Fl_spread_38 : decode b_Fl_spread 38 = .ok (.iand, 1) := by decide +kernel
theorem d_Fl_spread_39 : decode b_Fl_spread 39 = .ok (.iastore, 1) := by decide +kernel
theorem d_Fl_spread_40 : decode b_Fl_spread 40 = .ok (.aload_n 0, 1) := by decide +kernel
theorem d_Fl_spread_41 : decode b_Fl_spread 41 = .ok (.getfield 19, 3) := by decide +kernel
theorem d_Fl_spread_44 : decode b_Fl_spread 44 = .ok (.iload_n 1, 1) := by decide +kernel
theorem d_Fl_spread_45 : decode b_Fl_spread 45 = .ok (.iconst 0, 1) := by decide +kernel
theorem d_Fl_spread_46 : decode b_Fl_spread 46 = .ok (.iastore, 1) := by decide +kernel
theorem d_Fl_spread_47 : decode b_Fl_spread 47 = .ok (.iload_n 1, 1) := by decide +kernel
theorem d_Fl_spread_48 : decode b_Fl_spread 48 = .ok (.invokestatic 35, 3) := by decide +kernel
theorem d_Fl_spread_51 : decode b_Fl_spread 51 = .ok (.istore_n 3, 1) := by decide +kernel
theorem d_Fl_spread_52 : decode b_Fl_spread 52 = .ok (.iload_n 1, 1) := by decide +kernel
theorem d_Fl_spread_53 : decode b_Fl_spread 53 = .ok (.invokestatic 39, 3) := by decide +kernel
theorem d_Fl_spread_56 : decode b_Fl_spread 56 = .ok (.istore 4, 2) := by decide +kernel
theorem d_Fl_spread_58 : decode b_Fl_spread 58 = .ok (.aload_n 0, 1) := by decide +kernel
theorem d_Fl_spread_59 : decode b_Fl_spread 59 = .ok (.dup, 1) := by decide +kernel
theorem d_Fl_spread_60 : decode b_Fl_spread 60 = .ok (.getfield 28, 3) := by decide +kernel
theorem d_Fl_spread_63 : decode b_Fl_spread 63 = .ok (.iload_n 2, 1) := by decide +kernel
theorem d_Fl_spread_64 : decode b_Fl_spread 64 = .ok (.invokestatic 76, 3) := by decide +kernel
theorem d_Fl_spread_67 : decode b_Fl_spread 67 = .ok (.iadd, 1) := by decide +kernel
theorem d_Fl_spread_68 : decode b_Fl_spread 68 = .ok (.putfield 28, 3) := by decide +kernel
theorem d_Fl_spread_71 : decode b_Fl_spread 71 = .ok (.aload_n 0, 1) := by decide +kernel
theorem d_Fl_spread_72 : decode b_Fl_spread 72 = .ok (.aload_n 0, 1) := by decide +kernel
theorem d_Fl_spread_73 : decode b_Fl_spread 73 = .ok (.getfield 31, 3) := by decide +kernel
theorem d_Fl_spread_76 : decode b_Fl_spread 76 = .ok (.ifCond .ne 25, 3) := by decide +kernel
theorem d_Fl_spread_79 : decode b_Fl_spread 79 = .ok (.iload_n 3, 1) := by decide +kernel
theorem d_Fl_spread_80 : decode b_Fl_spread 80 = .ok (.invokestatic 81, 3) := by decide +kernel
theorem d_Fl_spread_83 : decode b_Fl_spread 83 = .ok (.ifCond .ne 18, 3) := by decide +kernel
theorem d_Fl_spread_86 : decode b_Fl_spread 86 = .ok (.iload 4, 2) := by decide +kernel
theorem d_Fl_spread_88 : decode b_Fl_spread 88 = .ok (.invokestatic 81, 3) := by decide +kernel
theorem d_Fl_spread_91 : decode b_Fl_spread 91 = .ok (.ifCond .ne 10, 3) := by decide +kernel
theorem d_Fl_spread_94 : decode b_Fl_spread 94 = .ok (.iload_n 2, 1) := by decide +kernel
theorem d_Fl_spread_95 : decode b_Fl_spread 95 = .ok (.ldc 85, 2) := by decide +kernel
theorem d_Fl_spread_97 : decode b_Fl_spread 97 = .ok (.iand, 1) := by decide +kernel
theorem d_Fl_spread_98 : decode b_Fl_spread 98 = .ok (.ifCond .eq 7, 3) := by decide +kernel
theorem d_Fl_spread_101 : decode b_Fl_spread 101 = .ok (.iconst 1, 1) := by decide +kernel
theorem d_Fl_spread_102 : decode b_Fl_spread 102 = .ok (.goto 4, 3) := by decide +kernel
theorem d_Fl_spread_105 : decode b_Fl_spread 105 = .ok (.iconst 0, 1) := by decide +kernel
theorem d_Fl_spread_106 : decode b_Fl_spread 106 = .ok (.putfield 31, 3) := by decide +kernel
theorem d_Fl_spread_109 : decode b_Fl_spread 109 = .ok (.aload_n 0, 1) := by decide +kernel
theorem d_Fl_spread_110 : decode b_Fl_spread 110 = .ok (.iload_n 3, 1) := by decide +kernel
theorem d_Fl_spread_111 : decode b_Fl_spread 111 = .ok (.iconst 1, 1) := by decide +kernel
theorem d_Fl_spread_112 : decode b_Fl_spread 112 = .ok (.isub, 1) := by decide +kernel
theorem d_Fl_spread_113 : decode b_Fl_spread 113 = .ok (.iload 4, 2) := by decide +kernel
theorem d_Fl_spread_115 : decode b_Fl_spread 115 = .ok (.iload_n 2, 1) := by decide +kernel
theorem d_Fl_spread_116 : decode b_Fl_spread 116 = .ok (.invokevirtual 65, 3) := by decide +kernel
theorem d_Fl_spread_119 : decode b_Fl_spread 119 = .ok (.aload_n 0, 1) := by decide +kernel
theorem d_Fl_spread_120 : decode b_Fl_spread 120 = .ok (.iload_n 3, 1) := by decide +kernel
theorem d_Fl_spread_121 : decode b_Fl_spread 121 = .ok (.iconst 1, 1) := by decide +kernel
theorem d_Fl_spread_122 : decode b_Fl_spread 122 = .ok (.iadd, 1) := by decide +kernel
theorem d_Fl_spread_123 : decode b_Fl_spread 123 = .ok (.iload 4, 2) := by decide +kernel
theorem d_Fl_spread_125 : decode b_Fl_spread 125 = .ok (.iload_n 2, 1) := by decide +kernel
theorem d_Fl_spread_126 : decode b_Fl_spread 126 = .ok (.invokevirtual 65, 3) := by decide +kernel
theorem d_Fl_spread_129 : decode b_Fl_spread 129 = .ok (.aload_n 0, 1) := by decide +kernel
theorem d_Fl_spread_130 : decode b_Fl_spread 130 = .ok (.iload_n 3, 1) := by decide +kernel
theorem d_Fl_spread_131 : decode b_Fl_spread 131 = .ok (.iload 4, 2) := by decide +kernel
theorem d_Fl_spread_133 : decode b_Fl_spread 133 = .ok (.iconst 1, 1) := by decide +kernel
theorem d_Fl_spread_134 : decode b_Fl_spread 134 = .ok (.isub, 1) := by decide +kernel
theorem d_Fl_spread_135 : decode b_Fl_spread 135 = .ok (.iload_n 2, 1) := by decide +kernel
theorem d_Fl_spread_136 : decode b_Fl_spread 136 = .ok (.invokevirtual 65, 3) := by decide +kernel
theorem d_Fl_spread_139 : decode b_Fl_spread 139 = .ok (.aload_n 0, 1) := by decide +kernel
theorem d_Fl_spread_140 : decode b_Fl_spread 140 = .ok (.iload_n 3, 1) := by decide +kernel
theorem d_Fl_spread_141 : decode b_Fl_spread 141 = .ok (.iload 4, 2) := by decide +kernel
theorem d_Fl_spread_143 : decode b_Fl_spread 143 = .ok (.iconst 1, 1) := by decide +kernel
theorem d_Fl_spread_144 : decode b_Fl_spread 144 = .ok (.iadd, 1) := by decide +kernel
theorem d_Fl_spread_145 : decode b_Fl_spread 145 = .ok (.iload_n 2, 1) := by decide +kernel
theorem d_Fl_spread_146 : decode b_Fl_spread 146 = .ok (.invokevirtual 65, 3) := by decide +kernel
theorem d_Fl_spread_149 : decode b_Fl_spread 149 = .ok (.return_, 1) := by decide +kernel
theorem d_Fl_grown_0 : decode b_Fl_grown 0 = .ok (.iload_n 0, 1) := by decide +kernel
theorem d_Fl_grown_1 : decode b_Fl_grown 1 = .ok (.istore_n 2, 1) := by decide +kernel
theorem d_Fl_grown_2 : decode b_Fl_grown 2 = .ok (.iconst 1, 1) := by decide +kernel
theorem d_Fl_grown_3 : decode b_Fl_grown 3 = .ok (.istore_n 3, 1) := by decide +kernel
theorem d_Fl_grown_4 : decode b_Fl_grown 4 = .ok (.iload_n 3, 1) := by decide +kernel
theorem d_Fl_grown_5 : decode b_Fl_grown 5 = .ok (.bipush 15, 2) := by decide +kernel
theorem d_Fl_grown_7 : decode b_Fl_grown 7 = .ok (.if_icmp .ge 21, 3) := by decide +kernel
theorem d_Fl_grown_10 : decode b_Fl_grown 10 = .ok (.iload_n 2, 1) := by decide +kernel
theorem d_Fl_grown_11 : decode b_Fl_grown 11 = .ok (.iload_n 2, 1) := by decide +kernel
theorem d_Fl_grown_12 : decode b_Fl_grown 12 = .ok (.iconst 1, 1) := by decide +kernel
theorem d_Fl_grown_13 : decode b_Fl_grown 13 = .ok (.ishl, 1) := by decide +kernel
theorem d_Fl_grown_14 : decode b_Fl_grown 14 = .ok (.iload_n 2, 1) := by decide +kernel
theorem d_Fl_grown_15 : decode b_Fl_grown 15 = .ok (.iconst 1, 1) := by decide +kernel
theorem d_Fl_grown_16 : decode b_Fl_grown 16 = .ok (.ishr, 1) := by decide +kernel
theorem d_Fl_grown_17 : decode b_Fl_grown 17 = .ok (.ior, 1) := by decide +kernel
theorem d_Fl_grown_18 : decode b_Fl_grown 18 = .ok (.iload_n 1, 1) := by decide +kernel
theorem d_Fl_grown_19 : decode b_Fl_grown 19 = .ok (.iand, 1) := by decide +kernel
theorem d_Fl_grown_20 : decode b_Fl_grown 20 = .ok (.ior, 1) := by decide +kernel
theorem d_Fl_grown_21 : decode b_Fl_grown 21 = .ok (.istore_n 2, 1) := by decide +kernel
theorem d_Fl_grown_22 : decode b_Fl_grown 22 = .ok (.iinc 3 1, 3) := by decide +kernel
theorem d_Fl_grown_25 : decode b_Fl_grown 25 = .ok (.goto (-21), 3) := by decide +kernel
theorem d_Fl_grown_28 : decode b_Fl_grown 28 = .ok (.iload_n 2, 1) := by decide +kernel
theorem d_Fl_grown_29 : decode b_Fl_grown 29 = .ok (.ireturn, 1) := by decide +kernel
theorem d_Fl_isAtEnd_0 : decode b_Fl_isAtEnd 0 = .ok (.iload_n 0, 1) := by decide +kernel
theorem d_Fl_isAtEnd_1 : decode b_Fl_isAtEnd 1 = .ok (.bipush (-7), 2) := by decide +kernel
theorem d_Fl_isAtEnd_3 : decode b_Fl_isAtEnd 3 = .ok (.if_icmp .eq 9, 3) := by decide +kernel
theorem d_Fl_isAtEnd_6 : decode b_Fl_isAtEnd 6 = .ok (.iload_n 0, 1) := by decide +kernel
theorem d_Fl_isAtEnd_7 : decode b_Fl_isAtEnd 7 = .ok (.bipush 7, 2) := by decide +kernel
theorem d_Fl_isAtEnd_9 : decode b_Fl_isAtEnd 9 = .ok (.if_icmp .ne 7, 3) := by decide +kernel
theorem d_Fl_isAtEnd_12 : decode b_Fl_isAtEnd 12 = .ok (.iconst 1, 1) := by decide +kernel
theorem d_Fl_isAtEnd_13 : decode b_Fl_isAtEnd 13 = .ok (.goto 4, 3) := by decide +kernel
theorem d_Fl_isAtEnd_16 : decode b_Fl_isAtEnd 16 = .ok (.iconst 0, 1) := by decide +kernel
theorem d_Fl_isAtEnd_17 : decode b_Fl_isAtEnd 17 = .ok (.ireturn, 1) := by decide +kernel
theorem d_Fl_greatestPiece_0 : decode b_Fl_greatestPiece 0 = .ok (.iconst 0, 1) := by decide +kernel
theorem d_Fl_greatestPiece_1 : decode b_Fl_greatestPiece 1 = .ok (.istore_n 1, 1) := by decide +kernel
theorem d_Fl_greatestPiece_2 : decode b_Fl_greatestPiece 2 = .ok (.iconst 0, 1) := by decide +kernel
theorem d_Fl_greatestPiece_3 : decode b_Fl_greatestPiece 3 = .ok (.istore_n 2, 1) := by decide +kernel
theorem d_Fl_greatestPiece_4 : decode b_Fl_greatestPiece 4 = .ok (.iload_n 2, 1) := by decide +kernel
theorem d_Fl_greatestPiece_5 : decode b_Fl_greatestPiece 5 = .ok (.sipush 3375, 3) := by decide +kernel
theorem d_Fl_greatestPiece_8 : decode b_Fl_greatestPiece 8 = .ok (.if_icmp .ge 25, 3) := by decide +kernel
theorem d_Fl_greatestPiece_11 : decode b_Fl_greatestPiece 11 = .ok (.aload_n 0, 1) := by decide +kernel
theorem d_Fl_greatestPiece_12 : decode b_Fl_greatestPiece 12 = .ok (.invokevirtual 49, 3) := by decide +kernel
theorem d_Fl_greatestPiece_15 : decode b_Fl_greatestPiece 15 = .ok (.ifCond .eq 18, 3) := by decide +kernel
theorem d_Fl_greatestPiece_18 : decode b_Fl_greatestPiece 18 = .ok (.iload_n 1, 1) := by decide +kernel
theorem d_Fl_greatestPiece_19 : decode b_Fl_greatestPiece 19 = .ok (.aload_n 0, 1) := by decide +kernel
theorem d_Fl_greatestPiece_20 : decode b_Fl_greatestPiece 20 = .ok (.getfield 28, 3) := by decide +kernel
theorem d_Fl_greatestPiece_23 : decode b_Fl_greatestPiece 23 = .ok (.invokestatic 53, 3) := by decide +kernel
theorem d_Fl_greatestPiece_26 : decode b_Fl_greatestPiece 26 = .ok (.istore_n 1, 1) := by decide +kernel
theorem d_Fl_greatestPiece_27 : decode b_Fl_greatestPiece 27 = .ok (.iinc 2 1, 3) := by decide +kernel
theorem d_Fl_greatestPiece_30 : decode b_Fl_greatestPiece 30 = .ok (.goto (-26), 3) := by decide +kernel
theorem d_Fl_greatestPiece_33 : decode b_Fl_greatestPiece 33 = .ok (.iload_n 1, 1) := by decide +kernel
theorem d_Fl_greatestPiece_34 : decode b_Fl_greatestPiece 34 = .ok (.ireturn, 1) := by decide +kernel
theorem d_Fl_loadWithout_0 : decode b_Fl_loadWithout 0 = .ok (.aload_n 0, 1) := by decide +kernel
theorem d_Fl_loadWithout_1 : decode b_Fl_loadWithout 1 = .ok (.iconst 0, 1) := by decide +kernel
theorem d_Fl_loadWithout_2 : decode b_Fl_loadWithout 2 = .ok (.putfield 15, 3) := by decide +kernel
theorem d_Fl_loadWithout_5 : decode b_Fl_loadWithout 5 = .ok (.iconst 0, 1) := by decide +kernel
theorem d_Fl_loadWithout_6 : decode b_Fl_loadWithout 6 = .ok (.istore_n 2, 1) := by decide +kernel
theorem d_Fl_loadWithout_7 : decode b_Fl_loadWithout 7 = .ok (.iload_n 2, 1) := by decide +kernel
theorem d_Fl_loadWithout_8 : decode b_Fl_loadWithout 8 = .ok (.sipush 225, 3) := by decide +kernel
theorem d_Fl_loadWithout_11 : decode b_Fl_loadWithout 11 = .ok (.if_icmp .ge 32, 3) := by decide +kernel
theorem d_Fl_loadWithout_14 : decode b_Fl_loadWithout 14 = .ok (.aload_n 0, 1) := by decide +kernel
theorem d_Fl_loadWithout_15 : decode b_Fl_loadWithout 15 = .ok (.getfield 9, 3) := by decide +kernel
theorem d_Fl_loadWithout_18 : decode b_Fl_loadWithout 18 = .ok (.iload_n 2, 1) := by decide +kernel
theorem d_Fl_loadWithout_19 : decode b_Fl_loadWithout 19 = .ok (.ldc 48, 2) := by decide +kernel
theorem d_Fl_loadWithout_21 : decode b_Fl_loadWithout 21 = .ok (.aload_n 1, 1) := by decide +kernel
theorem d_Fl_loadWithout_22 : decode b_Fl_loadWithout 22 = .ok (.iload_n 2, 1) := by decide +kernel
theorem d_Fl_loadWithout_23 : decode b_Fl_loadWithout 23 = .ok (.invokestatic 35, 3) := by decide +kernel
theorem d_Fl_loadWithout_26 : decode b_Fl_loadWithout 26 = .ok (.iload_n 2, 1) := by decide +kernel
theorem d_Fl_loadWithout_27 : decode b_Fl_loadWithout 27 = .ok (.invokestatic 39, 3) := by decide +kernel
theorem d_Fl_loadWithout_30 : decode b_Fl_loadWithout 30 = .ok (.invokevirtual 42, 3) := by decide +kernel
theorem d_Fl_loadWithout_33 : decode b_Fl_loadWithout 33 = .ok (.iconst (-1), 1) := by decide +kernel
theorem d_Fl_loadWithout_34 : decode b_Fl_loadWithout 34 = .ok (.ixor, 1) := by decide +kernel
theorem d_Fl_loadWithout_35 : decode b_Fl_loadWithout 35 = .ok (.iand, 1) := by decide +kernel
theorem d_Fl_loadWithout_36 : decode b_Fl_loadWithout 36 = .ok (.iastore, 1) := by decide +kernel
theorem d_Fl_loadWithout_37 : decode b_Fl_loadWithout 37 = .ok (.iinc 2 1, 3) := by decide +kernel
theorem d_Fl_loadWithout_40 : decode b_Fl_loadWithout 40 = .ok (.goto (-33), 3) := by decide +kernel
theorem d_Fl_loadWithout_43 : decode b_Fl_loadWithout 43 = .ok (.return_, 1) := by decide +kernel
theorem d_Fl_countShutPieces_0 : decode b_Fl_countShutPieces 0 = .ok (.iconst 0, 1) := by decide +kernel
theorem d_Fl_countShutPieces_1 : decode b_Fl_countShutPieces 1 = .ok (.istore_n 1, 1) := by decide +kernel
theorem d_Fl_countShutPieces_2 : decode b_Fl_countShutPieces 2 = .ok (.iconst 0, 1) := by decide +kernel
theorem d_Fl_countShutPieces_3 : decode b_Fl_countShutPieces 3 = .ok (.istore_n 2, 1) := by decide +kernel
theorem d_Fl_countShutPieces_4 : decode b_Fl_countShutPieces 4 = .ok (.iload_n 2, 1) := by decide +kernel
theorem d_Fl_countShutPieces_5 : decode b_Fl_countShutPieces 5 = .ok (.sipush 3375, 3) := by decide +kernel
theorem d_Fl_countShutPieces_8 : decode b_Fl_countShutPieces 8 = .ok (.if_icmp .ge 31, 3) := by decide +kernel
theorem d_Fl_countShutPieces_11 : decode b_Fl_countShutPieces 11 = .ok (.aload_n 0, 1) := by decide +kernel
theorem d_Fl_countShutPieces_12 : decode b_Fl_countShutPieces 12 = .ok (.invokevirtual 49, 3) := by decide +kernel
theorem d_Fl_countShutPieces_15 : decode b_Fl_countShutPieces 15 = .ok (.ifCond .eq 24, 3) := by decide +kernel
theorem d_Fl_countShutPieces_18 : decode b_Fl_countShutPieces 18 = .ok (.iload_n 1, 1) := by decide +kernel
theorem d_Fl_countShutPieces_19 : decode b_Fl_countShutPieces 19 = .ok (.aload_n 0, 1) := by decide +kernel
theorem d_Fl_countShutPieces_20 : decode b_Fl_countShutPieces 20 = .ok (.getfield 31, 3) := by decide +kernel
theorem d_Fl_countShutPieces_23 : decode b_Fl_countShutPieces 23 = .ok (.ifCond .eq 7, 3) := by decide +kernel
theorem d_Fl_countShutPieces_26 : decode b_Fl_countShutPieces 26 = .ok (.iconst 0, 1) := by decide +kernel
theorem d_Fl_countShutPieces_27 : decode b_Fl_countShutPieces 27 = .ok (.goto 4, 3) := by decide +kernel
theorem d_Fl_countShutPieces_30 : decode b_Fl_countShutPieces 30 = .ok (.iconst 1, 1) := by decide +kernel
theorem d_Fl_countShutPieces_31 : decode b_Fl_countShutPieces 31 = .ok (.iadd, 1) := by decide +kernel
theorem d_Fl_countShutPieces_32 : decode b_Fl_countShutPieces 32 = .ok (.istore_n 1, 1) := by decide +kernel
theorem d_Fl_countShutPieces_33 : decode b_Fl_countShutPieces 33 = .ok (.iinc 2 1, 3) := by decide +kernel
theorem d_Fl_countShutPieces_36 : decode b_Fl_countShutPieces 36 = .ok (.goto (-32), 3) := by decide +kernel
theorem d_Fl_countShutPieces_39 : decode b_Fl_countShutPieces 39 = .ok (.iload_n 1, 1) := by decide +kernel
theorem d_Fl_countShutPieces_40 : decode b_Fl_countShutPieces 40 = .ok (.ireturn, 1) := by decide +kernel
theorem d_Fl_countShutPoints_0 : decode b_Fl_countShutPoints 0 = .ok (.iconst 0, 1) := by decide +kernel
theorem d_Fl_countShutPoints_1 : decode b_Fl_countShutPoints 1 = .ok (.istore_n 1, 1) := by decide +kernel
theorem d_Fl_countShutPoints_2 : decode b_Fl_countShutPoints 2 = .ok (.iconst 0, 1) := by decide +kernel
theorem d_Fl_countShutPoints_3 : decode b_Fl_countShutPoints 3 = .ok (.istore_n 2, 1) := by decide +kernel
theorem d_Fl_countShutPoints_4 : decode b_Fl_countShutPoints 4 = .ok (.iload_n 2, 1) := by decide +kernel
theorem d_Fl_countShutPoints_5 : decode b_Fl_countShutPoints 5 = .ok (.sipush 3375, 3) := by decide +kernel
theorem d_Fl_countShutPoints_8 : decode b_Fl_countShutPoints 8 = .ok (.if_icmp .ge 34, 3) := by decide +kernel
theorem d_Fl_countShutPoints_11 : decode b_Fl_countShutPoints 11 = .ok (.aload_n 0, 1) := by decide +kernel
theorem d_Fl_countShutPoints_12 : decode b_Fl_countShutPoints 12 = .ok (.invokevirtual 49, 3) := by decide +kernel
theorem d_Fl_countShutPoints_15 : decode b_Fl_countShutPoints 15 = .ok (.ifCond .eq 27, 3) := by decide +kernel
theorem d_Fl_countShutPoints_18 : decode b_Fl_countShutPoints 18 = .ok (.iload_n 1, 1) := by decide +kernel
theorem d_Fl_countShutPoints_19 : decode b_Fl_countShutPoints 19 = .ok (.aload_n 0, 1) := by decide +kernel
theorem d_Fl_countShutPoints_20 : decode b_Fl_countShutPoints 20 = .ok (.getfield 31, 3) := by decide +kernel
theorem d_Fl_countShutPoints_23 : decode b_Fl_countShutPoints 23 = .ok (.ifCond .eq 7, 3) := by decide +kernel
theorem d_Fl_countShutPoints_26 : decode b_Fl_countShutPoints 26 = .ok (.iconst 0, 1) := by decide +kernel
theorem d_Fl_countShutPoints_27 : decode b_Fl_countShutPoints 27 = .ok (.goto 7, 3) := by decide +kernel
theorem d_Fl_countShutPoints_30 : decode b_Fl_countShutPoints 30 = .ok (.aload_n 0, 1) := by decide +kernel
theorem d_Fl_countShutPoints_31 : decode b_Fl_countShutPoints 31 = .ok (.getfield 28, 3) := by decide +kernel
theorem d_Fl_countShutPoints_34 : decode b_Fl_countShutPoints 34 = .ok (.iadd, 1) := by decide +kernel
theorem d_Fl_countShutPoints_35 : decode b_Fl_countShutPoints 35 = .ok (.istore_n 1, 1) := by decide +kernel
theorem d_Fl_countShutPoints_36 : decode b_Fl_countShutPoints 36 = .ok (.iinc 2 1, 3) := by decide +kernel
theorem d_Fl_countShutPoints_39 : decode b_Fl_countShutPoints 39 = .ok (.goto (-35), 3) := by decide +kernel
theorem d_Fl_countShutPoints_42 : decode b_Fl_countShutPoints 42 = .ok (.iload_n 1, 1) := by decide +kernel
theorem d_Fl_countShutPoints_43 : decode b_Fl_countShutPoints 43 = .ok (.ireturn, 1) := by decide +kernel
theorem d_So_part_0 : decode b_So_part 0 = .ok (.aload_n 0, 1) := by decide +kernel
theorem d_So_part_1 : decode b_So_part 1 = .ok (.iload_n 1, 1) := by decide +kernel
theorem d_So_part_2 : decode b_So_part 2 = .ok (.invokevirtual 113, 3) := by decide +kernel
theorem d_So_part_5 : decode b_So_part 5 = .ok (.astore 5, 2) := by decide +kernel
theorem d_So_part_7 : decode b_So_part 7 = .ok (.aload 5, 2) := by decide +kernel
theorem d_So_part_9 : decode b_So_part 9 = .ok (.ifnull 13, 3) := by decide +kernel
theorem d_So_part_12 : decode b_So_part 12 = .ok (.iload_n 2, 1) := by decide +kernel
theorem d_So_part_13 : decode b_So_part 13 = .ok (.iload_n 3, 1) := by decide +kernel
theorem d_So_part_14 : decode b_So_part 14 = .ok (.iload 4, 2) := by decide +kernel
theorem d_So_part_16 : decode b_So_part 16 = .ok (.invokestatic 98, 3) := by decide +kernel
theorem d_So_part_19 : decode b_So_part 19 = .ok (.ifCond .ne 5, 3) := by decide +kernel
theorem d_So_part_22 : decode b_So_part 22 = .ok (.iconst (-1), 1) := by decide +kernel
theorem d_So_part_23 : decode b_So_part 23 = .ok (.ireturn, 1) := by decide +kernel
theorem d_So_part_24 : decode b_So_part 24 = .ok (.aload_n 0, 1) := by decide +kernel
theorem d_So_part_25 : decode b_So_part 25 = .ok (.getfield 41, 3) := by decide +kernel
theorem d_So_part_28 : decode b_So_part 28 = .ok (.aload 5, 2) := by decide +kernel
theorem d_So_part_30 : decode b_So_part 30 = .ok (.invokevirtual 134, 3) := by decide +kernel
theorem d_So_part_33 : decode b_So_part 33 = .ok (.aload_n 0, 1) := by decide +kernel
theorem d_So_part_34 : decode b_So_part 34 = .ok (.getfield 41, 3) := by decide +kernel
theorem d_So_part_37 : decode b_So_part 37 = .ok (.iload_n 2, 1) := by decide +kernel
theorem d_So_part_38 : decode b_So_part 38 = .ok (.iload_n 3, 1) := by decide +kernel
theorem d_So_part_39 : decode b_So_part 39 = .ok (.iload 4, 2) := by decide +kernel
theorem d_So_part_41 : decode b_So_part 41 = .ok (.invokevirtual 153, 3) := by decide +kernel
theorem d_So_part_44 : decode b_So_part 44 = .ok (.ireturn, 1) := by decide +kernel
theorem d_Fl_pieceOf_0 : decode b_Fl_pieceOf 0 = .ok (.aload_n 0, 1) := by decide +kernel
theorem d_Fl_pieceOf_1 : decode b_Fl_pieceOf 1 = .ok (.iload_n 1, 1) := by decide +kernel
theorem d_Fl_pieceOf_2 : decode b_Fl_pieceOf 2 = .ok (.iload_n 2, 1) := by decide +kernel
theorem d_Fl_pieceOf_3 : decode b_Fl_pieceOf 3 = .ok (.iload_n 3, 1) := by decide +kernel
theorem d_Fl_pieceOf_4 : decode b_Fl_pieceOf 4 = .ok (.invokevirtual 58, 3) := by decide +kernel
theorem d_Fl_pieceOf_7 : decode b_Fl_pieceOf 7 = .ok (.ifCond .ne 6, 3) := by decide +kernel
theorem d_Fl_pieceOf_10 : decode b_Fl_pieceOf 10 = .ok (.bipush (-4), 2) := by decide +kernel
theorem d_Fl_pieceOf_12 : decode b_Fl_pieceOf 12 = .ok (.ireturn, 1) := by decide +kernel
theorem d_Fl_pieceOf_13 : decode b_Fl_pieceOf 13 = .ok (.iconst 0, 1) := by decide +kernel
theorem d_Fl_pieceOf_14 : decode b_Fl_pieceOf 14 = .ok (.istore 4, 2) := by decide +kernel
theorem d_Fl_pieceOf_16 : decode b_Fl_pieceOf 16 = .ok (.iload 4, 2) := by decide +kernel
theorem d_Fl_pieceOf_18 : decode b_Fl_pieceOf 18 = .ok (.sipush 3375, 3) := by decide +kernel
theorem d_Fl_pieceOf_21 : decode b_Fl_pieceOf 21 = .ok (.if_icmp .ge 26, 3) := by decide +kernel
theorem d_Fl_pieceOf_24 : decode b_Fl_pieceOf 24 = .ok (.aload_n 0, 1) := by decide +kernel
theorem d_Fl_pieceOf_25 : decode b_Fl_pieceOf 25 = .ok (.invokevirtual 49, 3) := by decide +kernel
theorem d_Fl_pieceOf_28 : decode b_Fl_pieceOf 28 = .ok (.ifCond .eq 19, 3) := by decide +kernel
theorem d_Fl_pieceOf_31 : decode b_Fl_pieceOf 31 = .ok (.aload_n 0, 1) := by decide +kernel
theorem d_Fl_pieceOf_32 : decode b_Fl_pieceOf 32 = .ok (.iload_n 1, 1) := by decide +kernel
theorem d_Fl_pieceOf_33 : decode b_Fl_pieceOf 33 = .ok (.iload_n 2, 1) := by decide +kernel
theorem d_Fl_pieceOf_34 : decode b_Fl_pieceOf 34 = .ok (.iload_n 3, 1) := by decide +kernel
theorem d_Fl_pieceOf_35 : decode b_Fl_pieceOf 35 = .ok (.invokevirtual 58, 3) := by decide +kernel
theorem d_Fl_pieceOf_38 : decode b_Fl_pieceOf 38 = .ok (.ifCond .eq 9, 3) := by decide +kernel
theorem d_Fl_pieceOf_41 : decode b_Fl_pieceOf 41 = .ok (.iinc 4 1, 3) := by decide +kernel
theorem d_Fl_pieceOf_44 : decode b_Fl_pieceOf 44 = .ok (.goto (-28), 3) := by decide +kernel
theorem d_Fl_pieceOf_47 : decode b_Fl_pieceOf 47 = .ok (.iload 4, 2) := by decide +kernel
theorem d_Fl_pieceOf_49 : decode b_Fl_pieceOf 49 = .ok (.ireturn, 1) := by decide +kernel
theorem d_Fl_isLeft_0 : decode b_Fl_isLeft 0 = .ok (.iload_n 2, 1) := by decide +kernel
theorem d_Fl_isLeft_1 : decode b_Fl_isLeft 1 = .ok (.iload_n 3, 1) := by decide +kernel
theorem d_Fl_isLeft_2 : decode b_Fl_isLeft 2 = .ok (.invokestatic 62, 3) := by decide +kernel
theorem d_Fl_isLeft_5 : decode b_Fl_isLeft 5 = .ok (.istore 4, 2) := by decide +kernel
theorem d_Fl_isLeft_7 : decode b_Fl_isLeft 7 = .ok (.iload 4, 2) := by decide +kernel
theorem d_Fl_isLeft_9 : decode b_Fl_isLeft 9 = .ok (.ifCond .lt 32, 3) := by decide +kernel
theorem d_Fl_isLeft_12 : decode b_Fl_isLeft 12 = .ok (.iload 4, 2) := by decide +kernel
theorem d_Fl_isLeft_14 : decode b_Fl_isLeft 14 = .ok (.sipush 225, 3) := by decide +kernel
theorem d_Fl_isLeft_17 : decode b_Fl_isLeft 17 = .ok (.if_icmp .ge 24, 3) := by decide +kernel
theorem d_Fl_isLeft_20 : decode b_Fl_isLeft 20 = .ok (.aload_n 0, 1) := by decide +kernel
theorem d_Fl_isLeft_21 : decode b_Fl_isLeft 21 = .ok (.getfield 9, 3) := by decide +kernel
theorem d_Fl_isLeft_24 : decode b_Fl_isLeft 24 = .ok (.iload 4, 2) := by decide +kernel
theorem d_Fl_isLeft_26 : decode b_Fl_isLeft 26 = .ok (.iaload, 1) := by decide +kernel
theorem d_Fl_isLeft_27 : decode b_Fl_isLeft 27 = .ok (.iconst 1, 1) := by decide +kernel
theorem d_Fl_isLeft_28 : decode b_Fl_isLeft 28 = .ok (.iload_n 1, 1) := by decide +kernel
theorem d_Fl_isLeft_29 : decode b_Fl_isLeft 29 = .ok (.bipush 8, 2) := by decide +kernel
theorem d_Fl_isLeft_31 : decode b_Fl_isLeft 31 = .ok (.iadd, 1) := by decide +kernel
theorem d_Fl_isLeft_32 : decode b_Fl_isLeft 32 = .ok (.ishl, 1) := by decide +kernel
theorem d_Fl_isLeft_33 : decode b_Fl_isLeft 33 = .ok (.iand, 1) := by decide +kernel
theorem d_Fl_isLeft_34 : decode b_Fl_isLeft 34 = .ok (.ifCond .eq 7, 3) := by decide +kernel
theorem d_Fl_isLeft_37 : decode b_Fl_isLeft 37 = .ok (.iconst 1, 1) := by decide +kernel
theorem d_Fl_isLeft_38 : decode b_Fl_isLeft 38 = .ok (.goto 4, 3) := by decide +kernel
theorem d_Fl_isLeft_41 : decode b_Fl_isLeft 41 = .ok (.iconst 0, 1) := by decide +kernel
theorem d_Fl_isLeft_42 : decode b_Fl_isLeft 42 = .ok (.ireturn, 1) := by decide +kernel
theorem d_So_slice_0 : decode b_So_slice 0 = .ok (.aload_n 0, 1) := by decide +kernel
theorem d_So_slice_1 : decode b_So_slice 1 = .ok (.iload_n 1, 1) := by decide +kernel
theorem d_So_slice_2 : decode b_So_slice 2 = .ok (.invokevirtual 113, 3) := by decide +kernel
theorem d_So_slice_5 : decode b_So_slice 5 = .ok (.astore 4, 2) := by decide +kernel
theorem d_So_slice_7 : decode b_So_slice 7 = .ok (.aload 4, 2) := by decide +kernel
theorem d_So_slice_9 : decode b_So_slice 9 = .ok (.ifnull 12, 3) := by decide +kernel
theorem d_So_slice_12 : decode b_So_slice 12 = .ok (.iload_n 2, 1) := by decide +kernel
theorem d_So_slice_13 : decode b_So_slice 13 = .ok (.bipush 7, 2) := by decide +kernel
theorem d_So_slice_15 : decode b_So_slice 15 = .ok (.invokestatic 83, 3) := by decide +kernel
theorem d_So_slice_18 : decode b_So_slice 18 = .ok (.ifCond .ne 5, 3) := by decide +kernel
theorem d_So_slice_21 : decode b_So_slice 21 = .ok (.iconst (-1), 1) := by decide +kernel
theorem d_So_slice_22 : decode b_So_slice 22 = .ok (.ireturn, 1) := by decide +kernel
theorem d_So_slice_23 : decode b_So_slice 23 = .ok (.iload_n 3, 1) := by decide +kernel
theorem d_So_slice_24 : decode b_So_slice 24 = .ok (.tableswitch 60 0 2 #[28, 35, 42], 28) := by decide +kernel
theorem d_So_slice_52 : decode b_So_slice 52 = .ok (.aload 4, 2) := by decide +kernel
theorem d_So_slice_54 : decode b_So_slice 54 = .ok (.iload_n 2, 1) := by decide +kernel
theorem d_So_slice_55 : decode b_So_slice 55 = .ok (.invokevirtual 156, 3) := by decide +kernel
theorem d_So_slice_58 : decode b_So_slice 58 = .ok (.ireturn, 1) := by decide +kernel
theorem d_So_slice_59 : decode b_So_slice 59 = .ok (.aload 4, 2) := by decide +kernel
theorem d_So_slice_61 : decode b_So_slice 61 = .ok (.iload_n 2, 1) := by decide +kernel
theorem d_So_slice_62 : decode b_So_slice 62 = .ok (.invokevirtual 159, 3) := by decide +kernel
theorem d_So_slice_65 : decode b_So_slice 65 = .ok (.ireturn, 1) := by decide +kernel
theorem d_So_slice_66 : decode b_So_slice 66 = .ok (.aload_n 0, 1) := by decide +kernel
theorem d_So_slice_67 : decode b_So_slice 67 = .ok (.getfield 41, 3) := by decide +kernel
theorem d_So_slice_70 : decode b_So_slice 70 = .ok (.aload 4, 2) := by decide +kernel
theorem d_So_slice_72 : decode b_So_slice 72 = .ok (.iload_n 2, 1) := by decide +kernel
theorem d_So_slice_73 : decode b_So_slice 73 = .ok (.invokevirtual 162, 3) := by decide +kernel
theorem d_So_slice_76 : decode b_So_slice 76 = .ok (.aload_n 0, 1) := by decide +kernel
theorem d_So_slice_77 : decode b_So_slice 77 = .ok (.getfield 41, 3) := by decide +kernel
theorem d_So_slice_80 : decode b_So_slice 80 = .ok (.invokevirtual 138, 3) := by decide +kernel
theorem d_So_slice_83 : decode b_So_slice 83 = .ok (.ireturn, 1) := by decide +kernel
theorem d_So_slice_84 : decode b_So_slice 84 = .ok (.iconst (-1), 1) := by decide +kernel
theorem d_So_slice_85 : decode b_So_slice 85 = .ok (.ireturn, 1) := by decide +kernel
theorem d_Fl_loadSlice_0 : decode b_Fl_loadSlice 0 = .ok (.aload_n 0, 1) := by decide +kernel
theorem d_Fl_loadSlice_1 : decode b_Fl_loadSlice 1 = .ok (.iconst 0, 1) := by decide +kernel
theorem d_Fl_loadSlice_2 : decode b_Fl_loadSlice 2 = .ok (.putfield 15, 3) := by decide +kernel
theorem d_Fl_loadSlice_5 : decode b_Fl_loadSlice 5 = .ok (.iconst 0, 1) := by decide +kernel
theorem d_Fl_loadSlice_6 : decode b_Fl_loadSlice 6 = .ok (.istore_n 3, 1) := by decide +kernel
theorem d_Fl_loadSlice_7 : decode b_Fl_loadSlice 7 = .ok (.iload_n 3, 1) := by decide +kernel
theorem d_Fl_loadSlice_8 : decode b_Fl_loadSlice 8 = .ok (.sipush 225, 3) := by decide +kernel
theorem d_Fl_loadSlice_11 : decode b_Fl_loadSlice 11 = .ok (.if_icmp .ge 36, 3) := by decide +kernel
theorem d_Fl_loadSlice_14 : decode b_Fl_loadSlice 14 = .ok (.aload_n 0, 1) := by decide +kernel
theorem d_Fl_loadSlice_15 : decode b_Fl_loadSlice 15 = .ok (.getfield 9, 3) := by decide +kernel
theorem d_Fl_loadSlice_18 : decode b_Fl_loadSlice 18 = .ok (.iload_n 3, 1) := by decide +kernel
theorem d_Fl_loadSlice_19 : decode b_Fl_loadSlice 19 = .ok (.iload_n 3, 1) := by decide +kernel
theorem d_Fl_loadSlice_20 : decode b_Fl_loadSlice 20 = .ok (.invokestatic 39, 3) := by decide +kernel
theorem d_Fl_loadSlice_23 : decode b_Fl_loadSlice 23 = .ok (.iload_n 2, 1) := by decide +kernel
theorem d_Fl_loadSlice_24 : decode b_Fl_loadSlice 24 = .ok (.if_icmp .ne 15, 3) := by decide +kernel
theorem d_Fl_loadSlice_27 : decode b_Fl_loadSlice 27 = .ok (.aload_n 1, 1) := by decide +kernel
theorem d_Fl_loadSlice_28 : decode b_Fl_loadSlice 28 = .ok (.iload_n 3, 1) := by decide +kernel
theorem d_Fl_loadSlice_29 : decode b_Fl_loadSlice 29 = .ok (.invokestatic 35, 3) := by decide +kernel
theorem d_Fl_loadSlice_32 : decode b_Fl_loadSlice 32 = .ok (.iload_n 2, 1) := by decide +kernel
theorem d_Fl_loadSlice_33 : decode b_Fl_loadSlice 33 = .ok (.invokevirtual 42, 3) := by decide +kernel
theorem d_Fl_loadSlice_36 : decode b_Fl_loadSlice 36 = .ok (.goto 4, 3) := by decide +kernel
theorem d_Fl_loadSlice_39 : decode b_Fl_loadSlice 39 = .ok (.iconst 0, 1) := by decide +kernel
theorem d_Fl_loadSlice_40 : decode b_Fl_loadSlice 40 = .ok (.iastore, 1) := by decide +kernel
theorem d_Fl_loadSlice_41 : decode b_Fl_loadSlice 41 = .ok (.iinc 3 1, 3) := by decide +kernel
theorem d_Fl_loadSlice_44 : decode b_Fl_loadSlice 44 = .ok (.goto (-37), 3) := by decide +kernel
theorem d_Fl_loadSlice_47 : decode b_Fl_loadSlice 47 = .ok (.return_, 1) := by decide +kernel
theorem d_So_thin_0 : decode b_So_thin 0 = .ok (.aload_n 0, 1) := by decide +kernel
theorem d_So_thin_1 : decode b_So_thin 1 = .ok (.iload_n 1, 1) := by decide +kernel
theorem d_So_thin_2 : decode b_So_thin 2 = .ok (.invokevirtual 113, 3) := by decide +kernel
theorem d_So_thin_5 : decode b_So_thin 5 = .ok (.astore_n 3, 1) := by decide +kernel
theorem d_So_thin_6 : decode b_So_thin 6 = .ok (.aload_n 3, 1) := by decide +kernel
theorem d_So_thin_7 : decode b_So_thin 7 = .ok (.ifnull 12, 3) := by decide +kernel
theorem d_So_thin_10 : decode b_So_thin 10 = .ok (.iload_n 2, 1) := by decide +kernel
theorem d_So_thin_11 : decode b_So_thin 11 = .ok (.iconst 0, 1) := by decide +kernel
theorem d_So_thin_12 : decode b_So_thin 12 = .ok (.iconst 2, 1) := by decide +kernel
theorem d_So_thin_13 : decode b_So_thin 13 = .ok (.invokestatic 106, 3) := by decide +kernel
theorem d_So_thin_16 : decode b_So_thin 16 = .ok (.ifCond .ne 7, 3) := by decide +kernel
theorem d_So_thin_19 : decode b_So_thin 19 = .ok (.iconst (-1), 1) := by decide +kernel
theorem d_So_thin_20 : decode b_So_thin 20 = .ok (.goto 8, 3) := by decide +kernel
theorem d_So_thin_23 : decode b_So_thin 23 = .ok (.aload_n 3, 1) := by decide +kernel
theorem d_So_thin_24 : decode b_So_thin 24 = .ok (.iload_n 2, 1) := by decide +kernel
theorem d_So_thin_25 : decode b_So_thin 25 = .ok (.invokevirtual 166, 3) := by decide +kernel
theorem d_So_thin_28 : decode b_So_thin 28 = .ok (.ireturn, 1) := by decide +kernel
theorem d_Bo_thinPoints_0 : decode b_Bo_thinPoints 0 = .ok (.iconst 0, 1) := by decide +kernel
theorem d_Bo_thinPoints_1 : decode b_Bo_thinPoints 1 = .ok (.istore_n 2, 1) := by decide +kernel
theorem d_Bo_thinPoints_2 : decode b_Bo_thinPoints 2 = .ok (.bipush (-7), 2) := by decide +kernel
theorem d_Bo_thinPoints_4 : decode b_Bo_thinPoints 4 = .ok (.istore_n 3, 1) := by decide +kernel
theorem d_Bo_thinPoints_5 : decode b_Bo_thinPoints 5 = .ok (.iload_n 3, 1) := by decide +kernel
theorem d_Bo_thinPoints_6 : decode b_Bo_thinPoints 6 = .ok (.bipush 7, 2) := by decide +kernel
theorem d_Bo_thinPoints_8 : decode b_Bo_thinPoints 8 = .ok (.if_icmp .gt 112, 3) := by decide +kernel
theorem d_Bo_thinPoints_11 : decode b_Bo_thinPoints 11 = .ok (.bipush (-7), 2) := by decide +kernel
theorem d_Bo_thinPoints_13 : decode b_Bo_thinPoints 13 = .ok (.istore 4, 2) := by decide +kernel
theorem d_Bo_thinPoints_15 : decode b_Bo_thinPoints 15 = .ok (.iload 4, 2) := by decide +kernel
theorem d_Bo_thinPoints_17 : decode b_Bo_thinPoints 17 = .ok (.bipush 7, 2) := by decide +kernel
theorem d_Bo_thinPoints_19 : decode b_Bo_thinPoints 19 = .ok (.if_icmp .gt 95, 3) := by decide +kernel
theorem d_Bo_thinPoints_22 : decode b_Bo_thinPoints 22 = .ok (.aload_n 0, 1) := by decide +kernel
theorem d_Bo_thinPoints_23 : decode b_Bo_thinPoints 23 = .ok (.iload 4, 2) := by decide +kernel
theorem d_Bo_thinPoints_25 : decode b_Bo_thinPoints 25 = .ok (.iload_n 3, 1) := by decide +kernel
theorem d_Bo_thinPoints_26 : decode b_Bo_thinPoints 26 = .ok (.invokevirtual 51, 3) := by decide +kernel
theorem d_Bo_thinPoints_29 : decode b_Bo_thinPoints 29 = .ok (.istore 5, 2) := by decide +kernel
theorem d_Bo_thinPoints_31 : decode b_Bo_thinPoints 31 = .ok (.iload_n 1, 1) := by decide +kernel
theorem d_Bo_thinPoints_32 : decode b_Bo_thinPoints 32 = .ok (.ifCond .ne 15, 3) := by decide +kernel
theorem d_Bo_thinPoints_35 : decode b_Bo_thinPoints 35 = .ok (.iload 5, 2) := by decide +kernel
theorem d_Bo_thinPoints_37 : decode b_Bo_thinPoints 37 = .ok (.iconst 1, 1) := by decide +kernel
theorem d_Bo_thinPoints_38 : decode b_Bo_thinPoints 38 = .ok (.ishl, 1) := by decide +kernel
theorem d_Bo_thinPoints_39 : decode b_Bo_thinPoints 39 = .ok (.iload 5, 2) := by decide +kernel
theorem d_Bo_thinPoints_41 : decode b_Bo_thinPoints 41 = .ok (.iconst 1, 1) := by decide +kernel
theorem d_Bo_thinPoints_42 : decode b_Bo_thinPoints 42 = .ok (.ishr, 1) := by decide +kernel
theorem d_Bo_thinPoints_43 : decode b_Bo_thinPoints 43 = .ok (.ior, 1) := by decide +kernel
theorem d_Bo_thinPoints_44 : decode b_Bo_thinPoints 44 = .ok (.goto 49, 3) := by decide +kernel
theorem d_Bo_thinPoints_47 : decode b_Bo_thinPoints 47 = .ok (.iload_n 1, 1) := by decide +kernel
theorem d_Bo_thinPoints_48 : decode b_Bo_thinPoints 48 = .ok (.iconst 1, 1) := by decide +kernel
theorem d_Bo_thinPoints_49 : decode b_Bo_thinPoints 49 = .ok (.if_icmp .ne 25, 3) := by decide +kernel
theorem d_Bo_thinPoints_52 : decode b_Bo_thinPoints 52 = .ok (.aload_n 0, 1) := by decide +kernel
theorem d_Bo_thinPoints_53 : decode b_Bo_thinPoints 53 = .ok (.iload 4, 2) := by decide +kernel
theorem d_Bo_thinPoints_55 : decode b_Bo_thinPoints 55 = .ok (.iconst 1, 1) := by decide +kernel
theorem d_Bo_thinPoints_56 : decode b_Bo_thinPoints 56 = .ok (.isub, 1) := by decide +kernel
theorem d_Bo_thinPoints_57 : decode b_Bo_thinPoints 57 = .ok (.iload_n 3, 1) := by decide +kernel
theorem d_Bo_thinPoints_58 : decode b_Bo_thinPoints 58 = .ok (.invokevirtual 51, 3) := by decide +kernel
theorem d_Bo_thinPoints_61 : decode b_Bo_thinPoints 61 = .ok (.aload_n 0, 1) := by decide +kernel
theorem d_Bo_thinPoints_62 : decode b_Bo_thinPoints 62 = .ok (.iload 4, 2) := by decide +kernel
theorem d_Bo_thinPoints_64 : decode b_Bo_thinPoints 64 = .ok (.iconst 1, 1) := by decide +kernel
theorem d_Bo_thinPoints_65 : decode b_Bo_thinPoints 65 = .ok (.iadd, 1) := by decide +kernel
theorem d_Bo_thinPoints_66 : decode b_Bo_thinPoints 66 = .ok (.iload_n 3, 1) := by decide +kernel
theorem d_Bo_thinPoints_67 : decode b_Bo_thinPoints 67 = .ok (.invokevirtual 51, 3) := by decide +kernel
theorem d_Bo_thinPoints_70 : decode b_Bo_thinPoints 70 = .ok (.ior, 1) := by decide +kernel
theorem d_Bo_thinPoints_71 : decode b_Bo_thinPoints 71 = .ok (.goto 22, 3) := by decide +kernel
theorem d_Bo_thinPoints_74 : decode b_Bo_thinPoints 74 = .ok (.aload_n 0, 1) := by decide +kernel
theorem d_Bo_thinPoints_75 : decode b_Bo_thinPoints 75 = .ok (.iload 4, 2) := by decide +kernel
theorem d_Bo_thinPoints_77 : decode b_Bo_thinPoints 77 = .ok (.iload_n 3, 1) := by decide +kernel
theorem d_Bo_thinPoints_78 : decode b_Bo_thinPoints 78 = .ok (.iconst 1, 1) := by decide +kernel
theorem d_Bo_thinPoints_79 : decode b_Bo_thinPoints 79 = .ok (.isub, 1) := by decide +kernel
theorem d_Bo_thinPoints_80 : decode b_Bo_thinPoints 80 = .ok (.invokevirtual 51, 3) := by decide +kernel
theorem d_Bo_thinPoints_83 : decode b_Bo_thinPoints 83 = .ok (.aload_n 0, 1) := by decide +kernel
theorem d_Bo_thinPoints_84 : decode b_Bo_thinPoints 84 = .ok (.iload 4, 2) := by decide +kernel
theorem d_Bo_thinPoints_86 : decode b_Bo_thinPoints 86 = .ok (.iload_n 3, 1) := by decide +kernel
theorem d_Bo_thinPoints_87 : decode b_Bo_thinPoints 87 = .ok (.iconst 1, 1) := by decide +kernel
theorem d_Bo_thinPoints_88 : decode b_Bo_thinPoints 88 = .ok (.iadd, 1) := by decide +kernel
theorem d_Bo_thinPoints_89 : decode b_Bo_thinPoints 89 = .ok (.invokevirtual 51, 3) := by decide +kernel
theorem d_Bo_thinPoints_92 : decode b_Bo_thinPoints 92 = .ok (.ior, 1) := by decide +kernel
theorem d_Bo_thinPoints_93 : decode b_Bo_thinPoints 93 = .ok (.istore 6, 2) := by decide +kernel
theorem d_Bo_thinPoints_95 : decode b_Bo_thinPoints 95 = .ok (.iload_n 2, 1) := by decide +kernel
theorem d_Bo_thinPoints_96 : decode b_Bo_thinPoints 96 = .ok (.iload 5, 2) := by decide +kernel
theorem d_Bo_thinPoints_98 : decode b_Bo_thinPoints 98 = .ok (.iload 6, 2) := by decide +kernel
theorem d_Bo_thinPoints_100 : decode b_Bo_thinPoints 100 = .ok (.iconst (-1), 1) := by decide +kernel
theorem d_Bo_thinPoints_101 : decode b_Bo_thinPoints 101 = .ok (.ixor, 1) := by decide +kernel
theorem d_Bo_thinPoints_102 : decode b_Bo_thinPoints 102 = .ok (.iand, 1) := by decide +kernel
theorem d_Bo_thinPoints_103 : decode b_Bo_thinPoints 103 = .ok (.invokestatic 54, 3) := by decide +kernel
theorem d_Bo_thinPoints_106 : decode b_Bo_thinPoints 106 = .ok (.iadd, 1) := by decide +kernel
theorem d_Bo_thinPoints_107 : decode b_Bo_thinPoints 107 = .ok (.istore_n 2, 1) := by decide +kernel
theorem d_Bo_thinPoints_108 : decode b_Bo_thinPoints 108 = .ok (.iinc 4 1, 3) := by decide +kernel
theorem d_Bo_thinPoints_111 : decode b_Bo_thinPoints 111 = .ok (.goto (-96), 3) := by decide +kernel
theorem d_Bo_thinPoints_114 : decode b_Bo_thinPoints 114 = .ok (.iinc 3 1, 3) := by decide +kernel
theorem d_Bo_thinPoints_117 : decode b_Bo_thinPoints 117 = .ok (.goto (-112), 3) := by decide +kernel
theorem d_Bo_thinPoints_120 : decode b_Bo_thinPoints 120 = .ok (.iload_n 2, 1) := by decide +kernel
theorem d_Bo_thinPoints_121 : decode b_Bo_thinPoints 121 = .ok (.ireturn, 1) := by decide +kernel
theorem d_So_overhang_0 : decode b_So_overhang 0 = .ok (.aload_n 0, 1) := by decide +kernel
theorem d_So_overhang_1 : decode b_So_overhang 1 = .ok (.iload_n 1, 1) := by decide +kernel
theorem d_So_overhang_2 : decode b_So_overhang 2 = .ok (.invokevirtual 113, 3) := by decide +kernel
theorem d_So_overhang_5 : decode b_So_overhang 5 = .ok (.astore_n 3, 1) := by decide +kernel
theorem d_So_overhang_6 : decode b_So_overhang 6 = .ok (.aload_n 3, 1) := by decide +kernel
theorem d_So_overhang_7 : decode b_So_overhang 7 = .ok (.ifnull 12, 3) := by decide +kernel
theorem d_So_overhang_10 : decode b_So_overhang 10 = .ok (.iload_n 2, 1) := by decide +kernel
theorem d_So_overhang_11 : decode b_So_overhang 11 = .ok (.bipush 7, 2) := by decide +kernel
theorem d_So_overhang_13 : decode b_So_overhang 13 = .ok (.invokestatic 83, 3) := by decide +kernel
theorem d_So_overhang_16 : decode b_So_overhang 16 = .ok (.ifCond .ne 7, 3) := by decide +kernel
theorem d_So_overhang_19 : decode b_So_overhang 19 = .ok (.iconst (-1), 1) := by decide +kernel
theorem d_So_overhang_20 : decode b_So_overhang 20 = .ok (.goto 8, 3) := by decide +kernel
theorem d_So_overhang_23 : decode b_So_overhang 23 = .ok (.aload_n 3, 1) := by decide +kernel
theorem d_So_overhang_24 : decode b_So_overhang 24 = .ok (.iload_n 2, 1) := by decide +kernel
theorem d_So_overhang_25 : decode b_So_overhang 25 = .ok (.invokevirtual 169, 3) := by decide +kernel
theorem d_So_overhang_28 : decode b_So_overhang 28 = .ok (.ireturn, 1) := by decide +kernel
theorem d_Bo_hangingPoints_0 : decode b_Bo_hangingPoints 0 = .ok (.iconst 0, 1) := by decide +kernel
theorem d_Bo_hangingPoints_1 : decode b_Bo_hangingPoints 1 = .ok (.istore_n 2, 1) := by decide +kernel
theorem d_Bo_hangingPoints_2 : decode b_Bo_hangingPoints 2 = .ok (.iload_n 1, 1) := by decide +kernel
theorem d_Bo_hangingPoints_3 : decode b_Bo_hangingPoints 3 = .ok (.iconst 1, 1) := by decide +kernel
theorem d_Bo_hangingPoints_4 : decode b_Bo_hangingPoints 4 = .ok (.iadd, 1) := by decide +kernel
theorem d_Bo_hangingPoints_5 : decode b_Bo_hangingPoints 5 = .ok (.istore_n 3, 1) := by decide +kernel
theorem d_Bo_hangingPoints_6 : decode b_Bo_hangingPoints 6 = .ok (.iload_n 3, 1) := by decide +kernel
theorem d_Bo_hangingPoints_7 : decode b_Bo_hangingPoints 7 = .ok (.bipush 7, 2) := by decide +kernel
theorem d_Bo_hangingPoints_9 : decode b_Bo_hangingPoints 9 = .ok (.if_icmp .gt 51, 3) := by decide +kernel
theorem d_Bo_hangingPoints_12 : decode b_Bo_hangingPoints 12 = .ok (.bipush (-7), 2) := by decide +kernel
theorem d_Bo_hangingPoints_14 : decode b_Bo_hangingPoints 14 = .ok (.istore 4, 2) := by decide +kernel
theorem d_Bo_hangingPoints_16 : decode b_Bo_hangingPoints 16 = .ok (.iload 4, 2) := by decide +kernel
theorem d_Bo_hangingPoints_18 : decode b_Bo_hangingPoints 18 = .ok (.bipush 7, 2) := by decide +kernel
theorem d_Bo_hangingPoints_20 : decode b_Bo_hangingPoints 20 = .ok (.if_icmp .gt 34, 3) := by decide +kernel
theorem d_Bo_hangingPoints_23 : decode b_Bo_hangingPoints 23 = .ok (.iload_n 2, 1) := by decide +kernel
theorem d_Bo_hangingPoints_24 : decode b_Bo_hangingPoints 24 = .ok (.aload_n 0, 1) := by decide +kernel
theorem d_Bo_hangingPoints_25 : decode b_Bo_hangingPoints 25 = .ok (.iload 4, 2) := by decide +kernel
theorem d_Bo_hangingPoints_27 : decode b_Bo_hangingPoints 27 = .ok (.iload_n 3, 1) := by decide +kernel
theorem d_Bo_hangingPoints_28 : decode b_Bo_hangingPoints 28 = .ok (.invokevirtual 51, 3) := by decide +kernel
theorem d_Bo_hangingPoints_31 : decode b_Bo_hangingPoints 31 = .ok (.aload_n 0, 1) := by decide +kernel
theorem d_Bo_hangingPoints_32 : decode b_Bo_hangingPoints 32 = .ok (.iload 4, 2) := by decide +kernel
theorem d_Bo_hangingPoints_34 : decode b_Bo_hangingPoints 34 = .ok (.iload_n 3, 1) := by decide +kernel
theorem d_Bo_hangingPoints_35 : decode b_Bo_hangingPoints 35 = .ok (.iconst 1, 1) := by decide +kernel
theorem d_Bo_hangingPoints_36 : decode b_Bo_hangingPoints 36 = .ok (.isub, 1) := by decide +kernel
theorem d_Bo_hangingPoints_37 : decode b_Bo_hangingPoints 37 = .ok (.invokevirtual 51, 3) := by decide +kernel
theorem d_Bo_hangingPoints_40 : decode b_Bo_hangingPoints 40 = .ok (.iconst (-1), 1) := by decide +kernel
theorem d_Bo_hangingPoints_41 : decode b_Bo_hangingPoints 41 = .ok (.ixor, 1) := by decide +kernel
theorem d_Bo_hangingPoints_42 : decode b_Bo_hangingPoints 42 = .ok (.iand, 1) := by decide +kernel
theorem d_Bo_hangingPoints_43 : decode b_Bo_hangingPoints 43 = .ok (.invokestatic 54, 3) := by decide +kernel
theorem d_Bo_hangingPoints_46 : decode b_Bo_hangingPoints 46 = .ok (.iadd, 1) := by decide +kernel
theorem d_Bo_hangingPoints_47 : decode b_Bo_hangingPoints 47 = .ok (.istore_n 2, 1) := by decide +kernel
theorem d_Bo_hangingPoints_48 : decode b_Bo_hangingPoints 48 = .ok (.iinc 4 1, 3) := by decide +kernel
theorem d_Bo_hangingPoints_51 : decode b_Bo_hangingPoints 51 = .ok (.goto (-35), 3) := by decide +kernel
theorem d_Bo_hangingPoints_54 : decode b_Bo_hangingPoints 54 = .ok (.iinc 3 1, 3) := by decide +kernel
theorem d_Bo_hangingPoints_57 : decode b_Bo_hangingPoints 57 = .ok (.goto (-51), 3) := by decide +kernel
theorem d_Bo_hangingPoints_60 : decode b_Bo_hangingPoints 60 = .ok (.iload_n 2, 1) := by decide +kernel
theorem d_Bo_hangingPoints_61 : decode b_Bo_hangingPoints 61 = .ok (.ireturn, 1) := by decide +kernel
theorem d_So_both_0 : decode b_So_both 0 = .ok (.aload_n 0, 1) := by decide +kernel
theorem d_So_both_1 : decode b_So_both 1 = .ok (.iload_n 1, 1) := by decide +kernel
theorem d_So_both_2 : decode b_So_both 2 = .ok (.invokevirtual 113, 3) := by decide +kernel
theorem d_So_both_5 : decode b_So_both 5 = .ok (.astore 4, 2) := by decide +kernel
theorem d_So_both_7 : decode b_So_both 7 = .ok (.aload_n 0, 1) := by decide +kernel
theorem d_So_both_8 : decode b_So_both 8 = .ok (.iload_n 2, 1) := by decide +kernel
theorem d_So_both_9 : decode b_So_both 9 = .ok (.invokevirtual 113, 3) := by decide +kernel
theorem d_So_both_12 : decode b_So_both 12 = .ok (.astore 5, 2) := by decide +kernel
theorem d_So_both_14 : decode b_So_both 14 = .ok (.aload 4, 2) := by decide +kernel
theorem d_So_both_16 : decode b_So_both 16 = .ok (.ifnull 8, 3) := by decide +kernel
theorem d_So_both_19 : decode b_So_both 19 = .ok (.aload 5, 2) := by decide +kernel
theorem d_So_both_21 : decode b_So_both 21 = .ok (.ifnonnull 5, 3) := by decide +kernel
theorem d_So_both_24 : decode b_So_both 24 = .ok (.iconst (-1), 1) := by decide +kernel
theorem d_So_both_25 : decode b_So_both 25 = .ok (.ireturn, 1) := by decide +kernel
theorem d_So_both_26 : decode b_So_both 26 = .ok (.iload_n 3, 1) := by decide +kernel
theorem d_So_both_27 : decode b_So_both 27 = .ok (.tableswitch 86 0 3 #[29, 37, 51, 65], 29) := by decide +kernel
theorem d_So_both_56 : decode b_So_both 56 = .ok (.aload 4, 2) := by decide +kernel
theorem d_So_both_58 : decode b_So_both 58 = .ok (.aload 5, 2) := by decide +kernel
theorem d_So_both_60 : decode b_So_both 60 = .ok (.invokevirtual 172, 3) := by decide +kernel
theorem d_So_both_63 : decode b_So_both 63 = .ok (.ireturn, 1) := by decide +kernel
theorem d_So_both_64 : decode b_So_both 64 = .ok (.aload 4, 2) := by decide +kernel
theorem d_So_both_66 : decode b_So_both 66 = .ok (.invokevirtual 116, 3) := by decide +kernel
theorem d_So_both_69 : decode b_So_both 69 = .ok (.aload 4, 2) := by decide +kernel
theorem d_So_both_71 : decode b_So_both 71 = .ok (.aload 5, 2) := by decide +kernel
theorem d_So_both_73 : decode b_So_both 73 = .ok (.invokevirtual 172, 3) := by decide +kernel
theorem d_So_both_76 : decode b_So_both 76 = .ok (.isub, 1) := by decide +kernel
theorem d_So_both_77 : decode b_So_both 77 = .ok (.ireturn, 1) := by decide +kernel
theorem d_So_both_78 : decode b_So_both 78 = .ok (.aload 5, 2) := by decide +kernel
theorem d_So_both_80 : decode b_So_both 80 = .ok (.invokevirtual 116, 3) := by decide +kernel
theorem d_So_both_83 : decode b_So_both 83 = .ok (.aload 4, 2) := by decide +kernel
theorem d_So_both_85 : decode b_So_both 85 = .ok (.aload 5, 2) := by decide +kernel
theorem d_So_both_87 : decode b_So_both 87 = .ok (.invokevirtual 172, 3) := by decide +kernel
theorem d_So_both_90 : decode b_So_both 90 = .ok (.isub, 1) := by decide +kernel
theorem d_So_both_91 : decode b_So_both 91 = .ok (.ireturn, 1) := by decide +kernel
theorem d_So_both_92 : decode b_So_both 92 = .ok (.aload 5, 2) := by decide +kernel
theorem d_So_both_94 : decode b_So_both 94 = .ok (.invokevirtual 116, 3) := by decide +kernel
theorem d_So_both_97 : decode b_So_both 97 = .ok (.aload 4, 2) := by decide +kernel
theorem d_So_both_99 : decode b_So_both 99 = .ok (.aload 5, 2) := by decide +kernel
theorem d_So_both_101 : decode b_So_both 101 = .ok (.invokevirtual 172, 3) := by decide +kernel
theorem d_So_both_104 : decode b_So_both 104 = .ok (.if_icmp .ne 7, 3) := by decide +kernel
theorem d_So_both_107 : decode b_So_both 107 = .ok (.iconst 1, 1) := by decide +kernel
theorem d_So_both_108 : decode b_So_both 108 = .ok (.goto 4, 3) := by decide +kernel
theorem d_So_both_111 : decode b_So_both 111 = .ok (.iconst 0, 1) := by decide +kernel
theorem d_So_both_112 : decode b_So_both 112 = .ok (.ireturn, 1) := by decide +kernel
theorem d_So_both_113 : decode b_So_both 113 = .ok (.iconst (-1), 1) := by decide +kernel
theorem d_So_both_114 : decode b_So_both 114 = .ok (.ireturn, 1) := by decide +kernel
theorem d_Bo_shared_0 : decode b_Bo_shared 0 = .ok (.iconst 0, 1) := by decide +kernel
theorem d_Bo_shared_1 : decode b_Bo_shared 1 = .ok (.istore_n 2, 1) := by decide +kernel
theorem d_Bo_shared_2 : decode b_Bo_shared 2 = .ok (.bipush (-7), 2) := by decide +kernel
theorem d_Bo_shared_4 : decode b_Bo_shared 4 = .ok (.istore_n 3, 1) := by decide +kernel
theorem d_Bo_shared_5 : decode b_Bo_shared 5 = .ok (.iload_n 3, 1) := by decide +kernel
theorem d_Bo_shared_6 : decode b_Bo_shared 6 = .ok (.bipush 7, 2) := by decide +kernel
theorem d_Bo_shared_8 : decode b_Bo_shared 8 = .ok (.if_icmp .gt 47, 3) := by decide +kernel
theorem d_Bo_shared_11 : decode b_Bo_shared 11 = .ok (.bipush (-7), 2) := by decide +kernel
theorem d_Bo_shared_13 : decode b_Bo_shared 13 = .ok (.istore 4, 2) := by decide +kernel
theorem d_Bo_shared_15 : decode b_Bo_shared 15 = .ok (.iload 4, 2) := by decide +kernel
theorem d_Bo_shared_17 : decode b_Bo_shared 17 = .ok (.bipush 7, 2) := by decide +kernel
theorem d_Bo_shared_19 : decode b_Bo_shared 19 = .ok (.if_icmp .gt 30, 3) := by decide +kernel
theorem d_Bo_shared_22 : decode b_Bo_shared 22 = .ok (.iload_n 2, 1) := by decide +kernel
theorem d_Bo_shared_23 : decode b_Bo_shared 23 = .ok (.aload_n 0, 1) := by decide +kernel
theorem d_Bo_shared_24 : decode b_Bo_shared 24 = .ok (.iload 4, 2) := by decide +kernel
theorem d_Bo_shared_26 : decode b_Bo_shared 26 = .ok (.iload_n 3, 1) := by decide +kernel
theorem d_Bo_shared_27 : decode b_Bo_shared 27 = .ok (.invokevirtual 51, 3) := by decide +kernel
theorem d_Bo_shared_30 : decode b_Bo_shared 30 = .ok (.aload_n 1, 1) := by decide +kernel
theorem d_Bo_shared_31 : decode b_Bo_shared 31 = .ok (.iload 4, 2) := by decide +kernel
theorem d_Bo_shared_33 : decode b_Bo_shared 33 = .ok (.iload_n 3, 1) := by decide +kernel
theorem d_Bo_shared_34 : decode b_Bo_shared 34 = .ok (.invokevirtual 51, 3) := by decide +kernel
theorem d_Bo_shared_37 : decode b_Bo_shared 37 = .ok (.iand, 1) := by decide +kernel
theorem d_Bo_shared_38 : decode b_Bo_shared 38 = .ok (.invokestatic 54, 3) := by decide +kernel
theorem d_Bo_shared_41 : decode b_Bo_shared 41 = .ok (.iadd, 1) := by decide +kernel
theorem d_Bo_shared_42 : decode b_Bo_shared 42 = .ok (.istore_n 2, 1) := by decide +kernel
theorem d_Bo_shared_43 : decode b_Bo_shared 43 = .ok (.iinc 4 1, 3) := by decide +kernel
theorem d_Bo_shared_46 : decode b_Bo_shared 46 = .ok (.goto (-31), 3) := by decide +kernel
theorem d_Bo_shared_49 : decode b_Bo_shared 49 = .ok (.iinc 3 1, 3) := by decide +kernel
theorem d_Bo_shared_52 : decode b_Bo_shared 52 = .ok (.goto (-47), 3) := by decide +kernel
theorem d_Bo_shared_55 : decode b_Bo_shared 55 = .ok (.iload_n 2, 1) := by decide +kernel
theorem d_Bo_shared_56 : decode b_Bo_shared 56 = .ok (.ireturn, 1) := by decide +kernel
theorem d_So_ray_0 : decode b_So_ray 0 = .ok (.aload_n 0, 1) := by decide +kernel
theorem d_So_ray_1 : decode b_So_ray 1 = .ok (.iload_n 1, 1) := by decide +kernel
theorem d_So_ray_2 : decode b_So_ray 2 = .ok (.invokevirtual 79, 3) := by decide +kernel
theorem d_So_ray_5 : decode b_So_ray 5 = .ok (.astore 8, 2) := by decide +kernel
theorem d_So_ray_7 : decode b_So_ray 7 = .ok (.aload 8, 2) := by decide +kernel
theorem d_So_ray_9 : decode b_So_ray 9 = .ok (.ifnull 25, 3) := by decide +kernel
theorem d_So_ray_12 : decode b_So_ray 12 = .ok (.iload_n 2, 1) := by decide +kernel
theorem d_So_ray_13 : decode b_So_ray 13 = .ok (.iload_n 3, 1) := by decide +kernel
theorem d_So_ray_14 : decode b_So_ray 14 = .ok (.iload 4, 2) := by decide +kernel
theorem d_So_ray_16 : decode b_So_ray 16 = .ok (.invokestatic 98, 3) := by decide +kernel
theorem d_So_ray_19 : decode b_So_ray 19 = .ok (.ifCond .eq 15, 3) := by decide +kernel
theorem d_So_ray_22 : decode b_So_ray 22 = .ok (.iload 5, 2) := by decide +kernel
theorem d_So_ray_24 : decode b_So_ray 24 = .ok (.iload 6, 2) := by decide +kernel
theorem d_So_ray_26 : decode b_So_ray 26 = .ok (.iload 7, 2) := by decide +kernel
theorem d_So_ray_28 : decode b_So_ray 28 = .ok (.invokestatic 176, 3) := by decide +kernel
theorem d_So_ray_31 : decode b_So_ray 31 = .ok (.ifCond .ne 5, 3) := by decide +kernel
theorem d_So_ray_34 : decode b_So_ray 34 = .ok (.iconst (-1), 1) := by decide +kernel
theorem d_So_ray_35 : decode b_So_ray 35 = .ok (.ireturn, 1) := by decide +kernel
theorem d_So_ray_36 : decode b_So_ray 36 = .ok (.iconst 0, 1) := by decide +kernel
theorem d_So_ray_37 : decode b_So_ray 37 = .ok (.istore 9, 2) := by decide +kernel
theorem d_So_ray_39 : decode b_So_ray 39 = .ok (.iload 9, 2) := by decide +kernel
theorem d_So_ray_41 : decode b_So_ray 41 = .ok (.bipush 15, 2) := by decide +kernel
theorem d_So_ray_43 : decode b_So_ray 43 = .ok (.if_icmp .ge 42, 3) := by decide +kernel
theorem d_So_ray_46 : decode b_So_ray 46 = .ok (.aload 8, 2) := by decide +kernel
theorem d_So_ray_48 : decode b_So_ray 48 = .ok (.iload_n 2, 1) := by decide +kernel
theorem d_So_ray_49 : decode b_So_ray 49 = .ok (.iload 9, 2) := by decide +kernel
theorem d_So_ray_51 : decode b_So_ray 51 = .ok (.iload 5, 2) := by decide +kernel
theorem d_So_ray_53 : decode b_So_ray 53 = .ok (.imul, 1) := by decide +kernel
theorem d_So_ray_54 : decode b_So_ray 54 = .ok (.iadd, 1) := by decide +kernel
theorem d_So_ray_55 : decode b_So_ray 55 = .ok (.iload_n 3, 1) := by decide +kernel
theorem d_So_ray_56 : decode b_So_ray 56 = .ok (.iload 9, 2) := by decide +kernel
theorem d_So_ray_58 : decode b_So_ray 58 = .ok (.iload 6, 2) := by decide +kernel
theorem d_So_ray_60 : decode b_So_ray 60 = .ok (.imul, 1) := by decide +kernel
theorem d_So_ray_61 : decode b_So_ray 61 = .ok (.iadd, 1) := by decide +kernel
theorem d_So_ray_62 : decode b_So_ray 62 = .ok (.iload 4, 2) := by decide +kernel
theorem d_So_ray_64 : decode b_So_ray 64 = .ok (.iload 9, 2) := by decide +kernel
theorem d_So_ray_66 : decode b_So_ray 66 = .ok (.iload 7, 2) := by decide +kernel
theorem d_So_ray_68 : decode b_So_ray 68 = .ok (.imul, 1) := by decide +kernel
theorem d_So_ray_69 : decode b_So_ray 69 = .ok (.iadd, 1) := by decide +kernel
theorem d_So_ray_70 : decode b_So_ray 70 = .ok (.invokevirtual 179, 3) := by decide +kernel
theorem d_So_ray_73 : decode b_So_ray 73 = .ok (.ifCond .eq 6, 3) := by decide +kernel
theorem d_So_ray_76 : decode b_So_ray 76 = .ok (.iload 9, 2) := by decide +kernel
theorem d_So_ray_78 : decode b_So_ray 78 = .ok (.ireturn, 1) := by decide +kernel
theorem d_So_ray_79 : decode b_So_ray 79 = .ok (.iinc 9 1, 3) := by decide +kernel
theorem d_So_ray_82 : decode b_So_ray 82 = .ok (.goto (-43), 3) := by decide +kernel
theorem d_So_ray_85 : decode b_So_ray 85 = .ok (.bipush (-4), 2) := by decide +kernel
theorem d_So_ray_87 : decode b_So_ray 87 = .ok (.ireturn, 1) := by decide +kernel
theorem d_So_isStep_0 : decode b_So_isStep 0 = .ok (.iload_n 0, 1) := by decide +kernel
theorem d_So_isStep_1 : decode b_So_isStep 1 = .ok (.ifCond .ne 11, 3) := by decide +kernel
theorem d_So_isStep_4 : decode b_So_isStep 4 = .ok (.iload_n 1, 1) := by decide +kernel
theorem d_So_isStep_5 : decode b_So_isStep 5 = .ok (.ifCond .ne 7, 3) := by decide +kernel
theorem d_So_isStep_8 : decode b_So_isStep 8 = .ok (.iload_n 2, 1) := by decide +kernel
theorem d_So_isStep_9 : decode b_So_isStep 9 = .ok (.ifCond .eq 7, 3) := by decide +kernel
theorem d_So_isStep_12 : decode b_So_isStep 12 = .ok (.iconst 1, 1) := by decide +kernel
theorem d_So_isStep_13 : decode b_So_isStep 13 = .ok (.goto 4, 3) := by decide +kernel
theorem d_So_isStep_16 : decode b_So_isStep 16 = .ok (.iconst 0, 1) := by decide +kernel
theorem d_So_isStep_17 : decode b_So_isStep 17 = .ok (.istore_n 3, 1) := by decide +kernel
theorem d_So_isStep_18 : decode b_So_isStep 18 = .ok (.iload_n 3, 1) := by decide +kernel
theorem d_So_isStep_19 : decode b_So_isStep 19 = .ok (.ifCond .eq 31, 3) := by decide +kernel
theorem d_So_isStep_22 : decode b_So_isStep 22 = .ok (.iload_n 0, 1) := by decide +kernel
theorem d_So_isStep_23 : decode b_So_isStep 23 = .ok (.iconst 3, 1) := by decide +kernel
theorem d_So_isStep_24 : decode b_So_isStep 24 = .ok (.invokestatic 83, 3) := by decide +kernel
theorem d_So_isStep_27 : decode b_So_isStep 27 = .ok (.ifCond .eq 23, 3) := by decide +kernel
theorem d_So_isStep_30 : decode b_So_isStep 30 = .ok (.iload_n 1, 1) := by decide +kernel
theorem d_So_isStep_31 : decode b_So_isStep 31 = .ok (.iconst 3, 1) := by decide +kernel
theorem d_So_isStep_32 : decode b_So_isStep 32 = .ok (.invokestatic 83, 3) := by decide +kernel
theorem d_So_isStep_35 : decode b_So_isStep 35 = .ok (.ifCond .eq 15, 3) := by decide +kernel
theorem d_So_isStep_38 : decode b_So_isStep 38 = .ok (.iload_n 2, 1) := by decide +kernel
theorem d_So_isStep_39 : decode b_So_isStep 39 = .ok (.iconst 3, 1) := by decide +kernel
theorem d_So_isStep_40 : decode b_So_isStep 40 = .ok (.invokestatic 83, 3) := by decide +kernel
theorem d_So_isStep_43 : decode b_So_isStep 43 = .ok (.ifCond .eq 7, 3) := by decide +kernel
theorem d_So_isStep_46 : decode b_So_isStep 46 = .ok (.iconst 1, 1) := by decide +kernel
theorem d_So_isStep_47 : decode b_So_isStep 47 = .ok (.goto 4, 3) := by decide +kernel
theorem d_So_isStep_50 : decode b_So_isStep 50 = .ok (.iconst 0, 1) := by decide +kernel
theorem d_So_isStep_51 : decode b_So_isStep 51 = .ok (.ireturn, 1) := by decide +kernel
theorem d_Bo_has_0 : decode b_Bo_has 0 = .ok (.iload_n 1, 1) := by decide +kernel
theorem d_Bo_has_1 : decode b_Bo_has 1 = .ok (.iload_n 2, 1) := by decide +kernel
theorem d_Bo_has_2 : decode b_Bo_has 2 = .ok (.iload_n 3, 1) := by decide +kernel
theorem d_Bo_has_3 : decode b_Bo_has 3 = .ok (.invokestatic 33, 3) := by decide +kernel
theorem d_Bo_has_6 : decode b_Bo_has 6 = .ok (.ifCond .eq 20, 3) := by decide +kernel
theorem d_Bo_has_9 : decode b_Bo_has 9 = .ok (.aload_n 0, 1) := by decide +kernel
theorem d_Bo_has_10 : decode b_Bo_has 10 = .ok (.getfield 25, 3) := by decide +kernel
theorem d_Bo_has_13 : decode b_Bo_has 13 = .ok (.iload_n 1, 1) := by decide +kernel
theorem d_Bo_has_14 : decode b_Bo_has 14 = .ok (.iload_n 2, 1) := by decide +kernel
theorem d_Bo_has_15 : decode b_Bo_has 15 = .ok (.iload_n 3, 1) := by decide +kernel
theorem d_Bo_has_16 : decode b_Bo_has 16 = .ok (.invokevirtual 37, 3) := by decide +kernel
theorem d_Bo_has_19 : decode b_Bo_has 19 = .ok (.ifCond .ge 7, 3) := by decide +kernel
theorem d_Bo_has_22 : decode b_Bo_has 22 = .ok (.iconst 1, 1) := by decide +kernel
theorem d_Bo_has_23 : decode b_Bo_has 23 = .ok (.goto 4, 3) := by decide +kernel
theorem d_Bo_has_26 : decode b_Bo_has 26 = .ok (.iconst 0, 1) := by decide +kernel
theorem d_Bo_has_27 : decode b_Bo_has 27 = .ok (.ireturn, 1) := by decide +kernel
theorem d_So_sheet_0 : decode b_So_sheet 0 = .ok (.aload_n 0, 1) := by decide +kernel
theorem d_So_sheet_1 : decode b_So_sheet 1 = .ok (.iload_n 1, 1) := by decide +kernel
theorem d_So_sheet_2 : decode b_So_sheet 2 = .ok (.invokevirtual 182, 3) := by decide +kernel
theorem d_So_sheet_5 : decode b_So_sheet 5 = .ok (.astore 4, 2) := by decide +kernel
theorem d_So_sheet_7 : decode b_So_sheet 7 = .ok (.aload 4, 2) := by decide +kernel
theorem d_So_sheet_9 : decode b_So_sheet 9 = .ok (.ifnull 16, 3) := by decide +kernel
theorem d_So_sheet_12 : decode b_So_sheet 12 = .ok (.iload_n 2, 1) := by decide +kernel
theorem d_So_sheet_13 : decode b_So_sheet 13 = .ok (.invokestatic 186, 3) := by decide +kernel
theorem d_So_sheet_16 : decode b_So_sheet 16 = .ok (.ifCond .eq 9, 3) := by decide +kernel
theorem d_So_sheet_19 : decode b_So_sheet 19 = .ok (.iload_n 3, 1) := by decide +kernel
theorem d_So_sheet_20 : decode b_So_sheet 20 = .ok (.bipush 64, 2) := by decide +kernel
theorem d_So_sheet_22 : decode b_So_sheet 22 = .ok (.if_icmp .le 5, 3) := by decide +kernel
theorem d_So_sheet_25 : decode b_So_sheet 25 = .ok (.iconst (-1), 1) := by decide +kernel
theorem d_So_sheet_26 : decode b_So_sheet 26 = .ok (.ireturn, 1) := by decide +kernel
theorem d_So_sheet_27 : decode b_So_sheet 27 = .ok (.iload_n 3, 1) := by decide +kernel
theorem d_So_sheet_28 : decode b_So_sheet 28 = .ok (.ifCond .ge 6, 3) := by decide +kernel
theorem d_So_sheet_31 : decode b_So_sheet 31 = .ok (.bipush (-14), 2) := by decide +kernel
theorem d_So_sheet_33 : decode b_So_sheet 33 = .ok (.ireturn, 1) := by decide +kernel
theorem d_So_sheet_34 : decode b_So_sheet 34 = .ok (.aload 4, 2) := by decide +kernel
theorem d_So_sheet_36 : decode b_So_sheet 36 = .ok (.iload_n 2, 1) := by decide +kernel
theorem d_So_sheet_37 : decode b_So_sheet 37 = .ok (.iload_n 3, 1) := by decide +kernel
theorem d_So_sheet_38 : decode b_So_sheet 38 = .ok (.invokevirtual 189, 3) := by decide +kernel
theorem d_So_sheet_41 : decode b_So_sheet 41 = .ok (.iconst 1, 1) := by decide +kernel
theorem d_So_sheet_42 : decode b_So_sheet 42 = .ok (.ireturn, 1) := by decide +kernel
theorem d_So_sheetNumber_0 : decode b_So_sheetNumber 0 = .ok (.iload_n 1, 1) := by decide +kernel
theorem d_So_sheetNumber_1 : decode b_So_sheetNumber 1 = .ok (.ifCond .lt 17, 3) := by decide +kernel
theorem d_So_sheetNumber_4 : decode b_So_sheetNumber 4 = .ok (.iload_n 1, 1) := by decide +kernel
theorem d_So_sheetNumber_5 : decode b_So_sheetNumber 5 = .ok (.iconst 4, 1) := by decide +kernel
theorem d_So_sheetNumber_6 : decode b_So_sheetNumber 6 = .ok (.if_icmp .ge 12, 3) := by decide +kernel
theorem d_So_sheetNumber_9 : decode b_So_sheetNumber 9 = .ok (.aload_n 0, 1) := by decide +kernel
theorem d_So_sheetNumber_10 : decode b_So_sheetNumber 10 = .ok (.getfield 47, 3) := by decide +kernel
theorem d_So_sheetNumber_13 : decode b_So_sheetNumber 13 = .ok (.iload_n 1, 1) := by decide +kernel
theorem d_So_sheetNumber_14 : decode b_So_sheetNumber 14 = .ok (.aaload, 1) := by decide +kernel
theorem d_So_sheetNumber_15 : decode b_So_sheetNumber 15 = .ok (.goto 4, 3) := by decide +kernel
theorem d_So_sheetNumber_18 : decode b_So_sheetNumber 18 = .ok (.aconst_null, 1) := by decide +kernel
theorem d_So_sheetNumber_19 : decode b_So_sheetNumber 19 = .ok (.areturn, 1) := by decide +kernel
theorem d_So_isLane_0 : decode b_So_isLane 0 = .ok (.iload_n 0, 1) := by decide +kernel
theorem d_So_isLane_1 : decode b_So_isLane 1 = .ok (.iconst 0, 1) := by decide +kernel
theorem d_So_isLane_2 : decode b_So_isLane 2 = .ok (.iconst 2, 1) := by decide +kernel
theorem d_So_isLane_3 : decode b_So_isLane 3 = .ok (.invokestatic 106, 3) := by decide +kernel
theorem d_So_isLane_6 : decode b_So_isLane 6 = .ok (.ireturn, 1) := by decide +kernel
theorem d_Sh_renew_0 : decode b_Sh_renew 0 = .ok (.iconst 0, 1) := by decide +kernel
theorem d_Sh_renew_1 : decode b_Sh_renew 1 = .ok (.istore_n 3, 1) := by decide +kernel
theorem d_Sh_renew_2 : decode b_Sh_renew 2 = .ok (.iload_n 3, 1) := by decide +kernel
theorem d_Sh_renew_3 : decode b_Sh_renew 3 = .ok (.bipush 64, 2) := by decide +kernel
theorem d_Sh_renew_5 : decode b_Sh_renew 5 = .ok (.if_icmp .ge 16, 3) := by decide +kernel
theorem d_Sh_renew_8 : decode b_Sh_renew 8 = .ok (.aload_n 0, 1) := by decide +kernel
theorem d_Sh_renew_9 : decode b_Sh_renew 9 = .ok (.getfield 9, 3) := by decide +kernel
theorem d_Sh_renew_12 : decode b_Sh_renew 12 = .ok (.iload_n 3, 1) := by decide +kernel
theorem d_Sh_renew_13 : decode b_Sh_renew 13 = .ok (.iconst 0, 1) := by decide +kernel
theorem d_Sh_renew_14 : decode b_Sh_renew 14 = .ok (.iastore, 1) := by decide +kernel
theorem d_Sh_renew_15 : decode b_Sh_renew 15 = .ok (.iinc 3 1, 3) := by decide +kernel
theorem d_Sh_renew_18 : decode b_Sh_renew 18 = .ok (.goto (-16), 3) := by decide +kernel
theorem d_Sh_renew_21 : decode b_Sh_renew 21 = .ok (.aload_n 0, 1) := by decide +kernel
theorem d_Sh_renew_22 : decode b_Sh_renew 22 = .ok (.iload_n 1, 1) := by decide +kernel
theorem d_Sh_renew_23 : decode b_Sh_renew 23 = .ok (.putfield 15, 3) := by decide +kernel
theorem d_Sh_renew_26 : decode b_Sh_renew 26 = .ok (.aload_n 0, 1) := by decide +kernel
theorem d_Sh_renew_27 : decode b_Sh_renew 27 = .ok (.iload_n 2, 1) := by decide +kernel
theorem d_Sh_renew_28 : decode b_Sh_renew 28 = .ok (.putfield 19, 3) := by decide +kernel
theorem d_Sh_renew_31 : decode b_Sh_renew 31 = .ok (.return_, 1) := by decide +kernel
theorem d_So_lay_0 : decode b_So_lay 0 = .ok (.aload_n 0, 1) := by decide +kernel
theorem d_So_lay_1 : decode b_So_lay 1 = .ok (.iload_n 1, 1) := by decide +kernel
theorem d_So_lay_2 : decode b_So_lay 2 = .ok (.invokevirtual 182, 3) := by decide +kernel
theorem d_So_lay_5 : decode b_So_lay 5 = .ok (.astore 4, 2) := by decide +kernel
theorem d_So_lay_7 : decode b_So_lay 7 = .ok (.aload 4, 2) := by decide +kernel
theorem d_So_lay_9 : decode b_So_lay 9 = .ok (.ifnonnull 5, 3) := by decide +kernel
theorem d_So_lay_12 : decode b_So_lay 12 = .ok (.iconst (-1), 1) := by decide +kernel
theorem d_So_lay_13 : decode b_So_lay 13 = .ok (.ireturn, 1) := by decide +kernel
theorem d_So_lay_14 : decode b_So_lay 14 = .ok (.aload 4, 2) := by decide +kernel
theorem d_So_lay_16 : decode b_So_lay 16 = .ok (.invokevirtual 193, 3) := by decide +kernel
theorem d_So_lay_19 : decode b_So_lay 19 = .ok (.ifCond .eq 6, 3) := by decide +kernel
theorem d_So_lay_22 : decode b_So_lay 22 = .ok (.bipush (-11), 2) := by decide +kernel
theorem d_So_lay_24 : decode b_So_lay 24 = .ok (.ireturn, 1) := by decide +kernel
theorem d_So_lay_25 : decode b_So_lay 25 = .ok (.aload 4, 2) := by decide +kernel
theorem d_So_lay_27 : decode b_So_lay 27 = .ok (.iload_n 2, 1) := by decide +kernel
theorem d_So_lay_28 : decode b_So_lay 28 = .ok (.iload_n 3, 1) := by decide +kernel
theorem d_So_lay_29 : decode b_So_lay 29 = .ok (.invokevirtual 197, 3) := by decide +kernel
theorem d_So_lay_32 : decode b_So_lay 32 = .ok (.ifCond .eq 7, 3) := by decide +kernel
theorem d_So_lay_35 : decode b_So_lay 35 = .ok (.iconst 1, 1) := by decide +kernel
theorem d_So_lay_36 : decode b_So_lay 36 = .ok (.goto 5, 3) := by decide +kernel
theorem d_So_lay_39 : decode b_So_lay 39 = .ok (.bipush (-12), 2) := by decide +kernel
theorem d_So_lay_41 : decode b_So_lay 41 = .ok (.ireturn, 1) := by decide +kernel
theorem d_Sh_isNothing_0 : decode b_Sh_isNothing 0 = .ok (.aload_n 0, 1) := by decide +kernel
theorem d_Sh_isNothing_1 : decode b_Sh_isNothing 1 = .ok (.getfield 15, 3) := by decide +kernel
theorem d_Sh_isNothing_4 : decode b_Sh_isNothing 4 = .ok (.iconst (-1), 1) := by decide +kernel
theorem d_Sh_isNothing_5 : decode b_Sh_isNothing 5 = .ok (.if_icmp .ne 7, 3) := by decide +kernel
theorem d_Sh_isNothing_8 : decode b_Sh_isNothing 8 = .ok (.iconst 1, 1) := by decide +kernel
theorem d_Sh_isNothing_9 : decode b_Sh_isNothing 9 = .ok (.goto 4, 3) := by decide +kernel
theorem d_Sh_isNothing_12 : decode b_Sh_isNothing 12 = .ok (.iconst 0, 1) := by decide +kernel
theorem d_Sh_isNothing_13 : decode b_Sh_isNothing 13 = .ok (.ireturn, 1) := by decide +kernel
theorem d_Sh_put_0 : decode b_Sh_put 0 = .ok (.aload_n 0, 1) := by decide +kernel
theorem d_Sh_put_1 : decode b_Sh_put 1 = .ok (.iload_n 1, 1) := by decide +kernel
theorem d_Sh_put_2 : decode b_Sh_put 2 = .ok (.invokevirtual 22, 3) := by decide +kernel
theorem d_Sh_put_5 : decode b_Sh_put 5 = .ok (.ifCond .ne 5, 3) := by decide +kernel
theorem d_Sh_put_8 : decode b_Sh_put 8 = .ok (.iconst 0, 1) := by decide +kernel
theorem d_Sh_put_9 : decode b_Sh_put 9 = .ok (.ireturn, 1) := by decide +kernel
theorem d_Sh_put_10 : decode b_Sh_put 10 = .ok (.aload_n 0, 1) := by decide +kernel
theorem d_Sh_put_11 : decode b_Sh_put 11 = .ok (.getfield 9, 3) := by decide +kernel
theorem d_Sh_put_14 : decode b_Sh_put 14 = .ok (.iload_n 1, 1) := by decide +kernel
theorem d_Sh_put_15 : decode b_Sh_put 15 = .ok (.aload_n 0, 1) := by decide +kernel
theorem d_Sh_put_16 : decode b_Sh_put 16 = .ok (.getfield 15, 3) := by decide +kernel
theorem d_Sh_put_19 : decode b_Sh_put 19 = .ok (.ifCond .ne 8, 3) := by decide +kernel
theorem d_Sh_put_22 : decode b_Sh_put 22 = .ok (.iload_n 2, 1) := by decide +kernel
theorem d_Sh_put_23 : decode b_Sh_put 23 = .ok (.i2b, 1) := by decide +kernel
theorem d_Sh_put_24 : decode b_Sh_put 24 = .ok (.goto 17, 3) := by decide +kernel
theorem d_Sh_put_27 : decode b_Sh_put 27 = .ok (.aload_n 0, 1) := by decide +kernel
theorem d_Sh_put_28 : decode b_Sh_put 28 = .ok (.getfield 15, 3) := by decide +kernel
theorem d_Sh_put_31 : decode b_Sh_put 31 = .ok (.iconst 1, 1) := by decide +kernel
theorem d_Sh_put_32 : decode b_Sh_put 32 = .ok (.if_icmp .ne 8, 3) := by decide +kernel
theorem d_Sh_put_35 : decode b_Sh_put 35 = .ok (.iload_n 2, 1) := by decide +kernel
theorem d_Sh_put_36 : decode b_Sh_put 36 = .ok (.i2s, 1) := by decide +kernel
theorem d_Sh_put_37 : decode b_Sh_put 37 = .ok (.goto 4, 3) := by decide +kernel
theorem d_Sh_put_40 : decode b_Sh_put 40 = .ok (.iload_n 2, 1) := by decide +kernel
theorem d_Sh_put_41 : decode b_Sh_put 41 = .ok (.iastore, 1) := by decide +kernel
theorem d_Sh_put_42 : decode b_Sh_put 42 = .ok (.iconst 1, 1) := by decide +kernel
theorem d_Sh_put_43 : decode b_Sh_put 43 = .ok (.ireturn, 1) := by decide +kernel
theorem d_Sh_hasCell_0 : decode b_Sh_hasCell 0 = .ok (.iload_n 1, 1) := by decide +kernel
theorem d_Sh_hasCell_1 : decode b_Sh_hasCell 1 = .ok (.ifCond .lt 21, 3) := by decide +kernel
theorem d_Sh_hasCell_4 : decode b_Sh_hasCell 4 = .ok (.iload_n 1, 1) := by decide +kernel
theorem d_Sh_hasCell_5 : decode b_Sh_hasCell 5 = .ok (.aload_n 0, 1) := by decide +kernel
theorem d_Sh_hasCell_6 : decode b_Sh_hasCell 6 = .ok (.getfield 19, 3) := by decide +kernel
theorem d_Sh_hasCell_9 : decode b_Sh_hasCell 9 = .ok (.if_icmp .ge 13, 3) := by decide +kernel
theorem d_Sh_hasCell_12 : decode b_Sh_hasCell 12 = .ok (.iload_n 1, 1) := by decide +kernel
theorem d_Sh_hasCell_13 : decode b_Sh_hasCell 13 = .ok (.bipush 64, 2) := by decide +kernel
theorem d_Sh_hasCell_15 : decode b_Sh_hasCell 15 = .ok (.if_icmp .ge 7, 3) := by decide +kernel
theorem d_Sh_hasCell_18 : decode b_Sh_hasCell 18 = .ok (.iconst 1, 1) := by decide +kernel
theorem d_Sh_hasCell_19 : decode b_Sh_hasCell 19 = .ok (.goto 4, 3) := by decide +kernel
theorem d_Sh_hasCell_22 : decode b_Sh_hasCell 22 = .ok (.iconst 0, 1) := by decide +kernel
theorem d_Sh_hasCell_23 : decode b_Sh_hasCell 23 = .ok (.ireturn, 1) := by decide +kernel
theorem d_So_scan_0 : decode b_So_scan 0 = .ok (.aload_n 0, 1) := by decide +kernel
theorem d_So_scan_1 : decode b_So_scan 1 = .ok (.iload_n 1, 1) := by decide +kernel
theorem d_So_scan_2 : decode b_So_scan 2 = .ok (.invokevirtual 79, 3) := by decide +kernel
theorem d_So_scan_5 : decode b_So_scan 5 = .ok (.astore 6, 2) := by decide +kernel
theorem d_So_scan_7 : decode b_So_scan 7 = .ok (.aload_n 0, 1) := by decide +kernel
theorem d_So_scan_8 : decode b_So_scan 8 = .ok (.iload_n 2, 1) := by decide +kernel
theorem d_So_scan_9 : decode b_So_scan 9 = .ok (.invokevirtual 182, 3) := by decide +kernel
theorem d_So_scan_12 : decode b_So_scan 12 = .ok (.astore 7, 2) := by decide +kernel
theorem d_So_scan_14 : decode b_So_scan 14 = .ok (.aload 6, 2) := by decide +kernel
theorem d_So_scan_16 : decode b_So_scan 16 = .ok (.ifnull 26, 3) := by decide +kernel
theorem d_So_scan_19 : decode b_So_scan 19 = .ok (.aload 7, 2) := by decide +kernel
theorem d_So_scan_21 : decode b_So_scan 21 = .ok (.ifnull 21, 3) := by decide +kernel
theorem d_So_scan_24 : decode b_So_scan 24 = .ok (.iload_n 3, 1) := by decide +kernel
theorem d_So_scan_25 : decode b_So_scan 25 = .ok (.invokestatic 186, 3) := by decide +kernel
theorem d_So_scan_28 : decode b_So_scan 28 = .ok (.ifCond .eq 14, 3) := by decide +kernel
theorem d_So_scan_31 : decode b_So_scan 31 = .ok (.iload 5, 2) := by decide +kernel
theorem d_So_scan_33 : decode b_So_scan 33 = .ok (.iconst 0, 1) := by decide +kernel
theorem d_So_scan_34 : decode b_So_scan 34 = .ok (.bipush 20, 2) := by decide +kernel
theorem d_So_scan_36 : decode b_So_scan 36 = .ok (.invokestatic 106, 3) := by decide +kernel
theorem d_So_scan_39 : decode b_So_scan 39 = .ok (.ifCond .ne 5, 3) := by decide +kernel
theorem d_So_scan_42 : decode b_So_scan 42 = .ok (.iconst (-1), 1) := by decide +kernel
theorem d_So_scan_43 : decode b_So_scan 43 = .ok (.ireturn, 1) := by decide +kernel
theorem d_So_scan_44 : decode b_So_scan 44 = .ok (.aload 7, 2) := by decide +kernel
theorem d_So_scan_46 : decode b_So_scan 46 = .ok (.invokevirtual 193, 3) := by decide +kernel
theorem d_So_scan_49 : decode b_So_scan 49 = .ok (.ifCond .eq 6, 3) := by decide +kernel
theorem d_So_scan_52 : decode b_So_scan 52 = .ok (.bipush (-11), 2) := by decide +kernel
theorem d_So_scan_54 : decode b_So_scan 54 = .ok (.ireturn, 1) := by decide +kernel
theorem d_So_scan_55 : decode b_So_scan 55 = .ok (.aload 7, 2) := by decide +kernel
theorem d_So_scan_57 : decode b_So_scan 57 = .ok (.getfield 200, 3) := by decide +kernel
theorem d_So_scan_60 : decode b_So_scan 60 = .ok (.iload_n 3, 1) := by decide +kernel
theorem d_So_scan_61 : decode b_So_scan 61 = .ok (.if_icmp .eq 6, 3) := by decide +kernel
theorem d_So_scan_64 : decode b_So_scan 64 = .ok (.bipush (-13), 2) := by decide +kernel
theorem d_So_scan_66 : decode b_So_scan 66 = .ok (.ireturn, 1) := by decide +kernel
theorem d_So_scan_67 : decode b_So_scan 67 = .ok (.aload 6, 2) := by decide +kernel
theorem d_So_scan_69 : decode b_So_scan 69 = .ok (.aload 7, 2) := by decide +kernel
theorem d_So_scan_71 : decode b_So_scan 71 = .ok (.iload 4, 2) := by decide +kernel
theorem d_So_scan_73 : decode b_So_scan 73 = .ok (.iload 5, 2) := by decide +kernel
theorem d_So_scan_75 : decode b_So_scan 75 = .ok (.invokestatic 203, 3) := by decide +kernel
theorem d_So_scan_78 : decode b_So_scan 78 = .ok (.ireturn, 1) := by decide +kernel
theorem d_So_countScanned_0 : decode b_So_countScanned 0 = .ok (.iconst 0, 1) := by decide +kernel
theorem d_So_countScanned_1 : decode b_So_countScanned 1 = .ok (.istore 4, 2) := by decide +kernel
theorem d_So_countScanned_3 : decode b_So_countScanned 3 = .ok (.iconst 0, 1) := by decide +kernel
theorem d_So_countScanned_4 : decode b_So_countScanned 4 = .ok (.istore 5, 2) := by decide +kernel
theorem d_So_countScanned_6 : decode b_So_countScanned 6 = .ok (.iload 5, 2) := by decide +kernel
theorem d_So_countScanned_8 : decode b_So_countScanned 8 = .ok (.iload_n 3, 1) := by decide +kernel
theorem d_So_countScanned_9 : decode b_So_countScanned 9 = .ok (.if_icmp .ge 113, 3) := by decide +kernel
theorem d_So_countScanned_12 : decode b_So_countScanned 12 = .ok (.iload_n 2, 1) := by decide +kernel
theorem d_So_countScanned_13 : decode b_So_countScanned 13 = .ok (.iconst 3, 1) := by decide +kernel
theorem d_So_countScanned_14 : decode b_So_countScanned 14 = .ok (.iload 5, 2) := by decide +kernel
theorem d_So_countScanned_16 : decode b_So_countScanned 16 = .ok (.imul, 1) := by decide +kernel
theorem d_So_countScanned_17 : decode b_So_countScanned 17 = .ok (.iadd, 1) := by decide +kernel
theorem d_So_countScanned_18 : decode b_So_countScanned 18 = .ok (.istore 6, 2) := by decide +kernel
theorem d_So_countScanned_20 : decode b_So_countScanned 20 = .ok (.aload_n 1, 1) := by decide +kernel
theorem d_So_countScanned_21 : decode b_So_countScanned 21 = .ok (.iload 6, 2) := by decide +kernel
theorem d_So_countScanned_23 : decode b_So_countScanned 23 = .ok (.invokevirtual 219, 3) := by decide +kernel
theorem d_So_countScanned_26 : decode b_So_countScanned 26 = .ok (.ifCond .eq 25, 3) := by decide +kernel
theorem d_So_countScanned_29 : decode b_So_countScanned 29 = .ok (.aload_n 1, 1) := by decide +kernel
theorem d_So_countScanned_30 : decode b_So_countScanned 30 = .ok (.iload 6, 2) := by decide +kernel
theorem d_So_countScanned_32 : decode b_So_countScanned 32 = .ok (.iconst 1, 1) := by decide +kernel
theorem d_So_countScanned_33 : decode b_So_countScanned 33 = .ok (.iadd, 1) := by decide +kernel
theorem d_So_countScanned_34 : decode b_So_countScanned 34 = .ok (.invokevirtual 219, 3) := by decide +kernel
theorem d_So_countScanned_37 : decode b_So_countScanned 37 = .ok (.ifCond .eq 14, 3) := by decide +kernel
theorem d_So_countScanned_40 : decode b_So_countScanned 40 = .ok (.aload_n 1, 1) := by decide +kernel
theorem d_So_countScanned_41 : decode b_So_countScanned 41 = .ok (.iload 6, 2) := by decide +kernel
theorem d_So_countScanned_43 : decode b_So_countScanned 43 = .ok (.iconst 2, 1) := by decide +kernel
theorem d_So_countScanned_44 : decode b_So_countScanned 44 = .ok (.iadd, 1) := by decide +kernel
theorem d_So_countScanned_45 : decode b_So_countScanned 45 = .ok (.invokevirtual 219, 3) := by decide +kernel
theorem d_So_countScanned_48 : decode b_So_countScanned 48 = .ok (.ifCond .ne 6, 3) := by decide +kernel
theorem d_So_countScanned_51 : decode b_So_countScanned 51 = .ok (.bipush (-12), 2) := by decide +kernel
theorem d_So_countScanned_53 : decode b_So_countScanned 53 = .ok (.ireturn, 1) := by decide +kernel
theorem d_So_countScanned_54 : decode b_So_countScanned 54 = .ok (.aload_n 1, 1) := by decide +kernel
theorem d_So_countScanned_55 : decode b_So_countScanned 55 = .ok (.iload 6, 2) := by decide +kernel
theorem d_So_countScanned_57 : decode b_So_countScanned 57 = .ok (.invokevirtual 222, 3) := by decide +kernel
theorem d_So_countScanned_60 : decode b_So_countScanned 60 = .ok (.istore 7, 2) := by decide +kernel
theorem d_So_countScanned_62 : decode b_So_countScanned 62 = .ok (.aload_n 1, 1) := by decide +kernel
theorem d_So_countScanned_63 : decode b_So_countScanned 63 = .ok (.iload 6, 2) := by decide +kernel
theorem d_So_countScanned_65 : decode b_So_countScanned 65 = .ok (.iconst 1, 1) := by decide +kernel
theorem d_So_countScanned_66 : decode b_So_countScanned 66 = .ok (.iadd, 1) := by decide +kernel
theorem d_So_countScanned_67 : decode b_So_countScanned 67 = .ok (.invokevirtual 222, 3) := by decide +kernel
theorem d_So_countScanned_70 : decode b_So_countScanned 70 = .ok (.istore 8, 2) := by decide +kernel
theorem d_So_countScanned_72 : decode b_So_countScanned 72 = .ok (.aload_n 1, 1) := by decide +kernel
theorem d_So_countScanned_73 : decode b_So_countScanned 73 = .ok (.iload 6, 2) := by decide +kernel
theorem d_So_countScanned_75 : decode b_So_countScanned 75 = .ok (.iconst 2, 1) := by decide +kernel
theorem d_So_countScanned_76 : decode b_So_countScanned 76 = .ok (.iadd, 1) := by decide +kernel
theorem d_So_countScanned_77 : decode b_So_countScanned 77 = .ok (.invokevirtual 222, 3) := by decide +kernel
theorem d_So_countScanned_80 : decode b_So_countScanned 80 = .ok (.istore 9, 2) := by decide +kernel
theorem d_So_countScanned_82 : decode b_So_countScanned 82 = .ok (.iload 7, 2) := by decide +kernel
theorem d_So_countScanned_84 : decode b_So_countScanned 84 = .ok (.iload 8, 2) := by decide +kernel
theorem d_So_countScanned_86 : decode b_So_countScanned 86 = .ok (.iload 9, 2) := by decide +kernel
theorem d_So_countScanned_88 : decode b_So_countScanned 88 = .ok (.invokestatic 98, 3) := by decide +kernel
theorem d_So_countScanned_91 : decode b_So_countScanned 91 = .ok (.ifCond .ne 9, 3) := by decide +kernel
theorem d_So_countScanned_94 : decode b_So_countScanned 94 = .ok (.bipush (-20), 2) := by decide +kernel
theorem d_So_countScanned_96 : decode b_So_countScanned 96 = .ok (.iload 5, 2) := by decide +kernel
theorem d_So_countScanned_98 : decode b_So_countScanned 98 = .ok (.isub, 1) := by decide +kernel
theorem d_So_countScanned_99 : decode b_So_countScanned 99 = .ok (.ireturn, 1) := by decide +kernel
theorem d_So_countScanned_100 : decode b_So_countScanned 100 = .ok (.aload_n 0, 1) := by decide +kernel
theorem d_So_countScanned_101 : decode b_So_countScanned 101 = .ok (.iload 7, 2) := by decide +kernel
theorem d_So_countScanned_103 : decode b_So_countScanned 103 = .ok (.iload 8, 2) := by decide +kernel
theorem d_So_countScanned_105 : decode b_So_countScanned 105 = .ok (.iload 9, 2) := by decide +kernel
theorem d_So_countScanned_107 : decode b_So_countScanned 107 = .ok (.invokevirtual 179, 3) := by decide +kernel
theorem d_So_countScanned_110 : decode b_So_countScanned 110 = .ok (.ifCond .eq 6, 3) := by decide +kernel
theorem d_So_countScanned_113 : decode b_So_countScanned 113 = .ok (.iinc 4 1, 3) := by decide +kernel
theorem d_So_countScanned_116 : decode b_So_countScanned 116 = .ok (.iinc 5 1, 3) := by decide +kernel
theorem d_So_countScanned_119 : decode b_So_countScanned 119 = .ok (.goto (-113), 3) := by decide +kernel
theorem d_So_countScanned_122 : decode b_So_countScanned 122 = .ok (.iload 4, 2) := by decide +kernel
theorem d_So_countScanned_124 : decode b_So_countScanned 124 = .ok (.ireturn, 1) := by decide +kernel
theorem d_Sh_cell_0 : decode b_Sh_cell 0 = .ok (.aload_n 0, 1) := by decide +kernel
theorem d_Sh_cell_1 : decode b_Sh_cell 1 = .ok (.iload_n 1, 1) := by decide +kernel
theorem d_Sh_cell_2 : decode b_Sh_cell 2 = .ok (.invokevirtual 22, 3) := by decide +kernel
theorem d_Sh_cell_5 : decode b_Sh_cell 5 = .ok (.ifCond .eq 12, 3) := by decide +kernel
theorem d_Sh_cell_8 : decode b_Sh_cell 8 = .ok (.aload_n 0, 1) := by decide +kernel
theorem d_Sh_cell_9 : decode b_Sh_cell 9 = .ok (.getfield 9, 3) := by decide +kernel
theorem d_Sh_cell_12 : decode b_Sh_cell 12 = .ok (.iload_n 1, 1) := by decide +kernel
theorem d_Sh_cell_13 : decode b_Sh_cell 13 = .ok (.iaload, 1) := by decide +kernel
theorem d_Sh_cell_14 : decode b_Sh_cell 14 = .ok (.goto 4, 3) := by decide +kernel
theorem d_Sh_cell_17 : decode b_Sh_cell 17 = .ok (.iconst 0, 1) := by decide +kernel
theorem d_Sh_cell_18 : decode b_Sh_cell 18 = .ok (.ireturn, 1) := by decide +kernel
theorem d_So_count_0 : decode b_So_count 0 = .ok (.iload_n 1, 1) := by decide +kernel
theorem d_So_count_1 : decode b_So_count 1 = .ok (.tableswitch 54 0 3 #[31, 36, 41, 49], 31) := by decide +kernel
theorem d_So_count_32 : decode b_So_count 32 = .ok (.aload_n 0, 1) := by decide +kernel
theorem d_So_count_33 : decode b_So_count 33 = .ok (.getfield 31, 3) := by decide +kernel
theorem d_So_count_36 : decode b_So_count 36 = .ok (.ireturn, 1) := by decide +kernel
theorem d_So_count_37 : decode b_So_count 37 = .ok (.aload_n 0, 1) := by decide +kernel
theorem d_So_count_38 : decode b_So_count 38 = .ok (.invokevirtual 207, 3) := by decide +kernel
theorem d_So_count_41 : decode b_So_count 41 = .ok (.ireturn, 1) := by decide +kernel
theorem d_So_count_42 : decode b_So_count 42 = .ok (.aload_n 0, 1) := by decide +kernel
theorem d_So_count_43 : decode b_So_count 43 = .ok (.getfield 12, 3) := by decide +kernel
theorem d_So_count_46 : decode b_So_count 46 = .ok (.getfield 56, 3) := by decide +kernel
theorem d_So_count_49 : decode b_So_count 49 = .ok (.ireturn, 1) := by decide +kernel
theorem d_So_count_50 : decode b_So_count 50 = .ok (.aload_n 0, 1) := by decide +kernel
theorem d_So_count_51 : decode b_So_count 51 = .ok (.invokevirtual 210, 3) := by decide +kernel
theorem d_So_count_54 : decode b_So_count 54 = .ok (.ireturn, 1) := by decide +kernel
theorem d_So_count_55 : decode b_So_count 55 = .ok (.iconst (-1), 1) := by decide +kernel
theorem d_So_count_56 : decode b_So_count 56 = .ok (.ireturn, 1) := by decide +kernel
theorem d_So_cellsOfFirstSheet_0 : decode b_So_cellsOfFirstSheet 0 = .ok (.aload_n 0, 1) := by decide +kernel
theorem d_So_cellsOfFirstSheet_1 : decode b_So_cellsOfFirstSheet 1 = .ok (.iconst 0, 1) := by decide +kernel
theorem d_So_cellsOfFirstSheet_2 : decode b_So_cellsOfFirstSheet 2 = .ok (.invokevirtual 182, 3) := by decide +kernel
theorem d_So_cellsOfFirstSheet_5 : decode b_So_cellsOfFirstSheet 5 = .ok (.astore_n 1, 1) := by decide +kernel
theorem d_So_cellsOfFirstSheet_6 : decode b_So_cellsOfFirstSheet 6 = .ok (.aload_n 1, 1) := by decide +kernel
theorem d_So_cellsOfFirstSheet_7 : decode b_So_cellsOfFirstSheet 7 = .ok (.ifnull 10, 3) := by decide +kernel
theorem d_So_cellsOfFirstSheet_10 : decode b_So_cellsOfFirstSheet 10 = .ok (.aload_n 1, 1) := by decide +kernel
theorem d_So_cellsOfFirstSheet_11 : decode b_So_cellsOfFirstSheet 11 = .ok (.invokevirtual 193, 3) := by decide +kernel
theorem d_So_cellsOfFirstSheet_14 : decode b_So_cellsOfFirstSheet 14 = .ok (.ifCond .eq 8, 3) := by decide +kernel
theorem d_So_cellsOfFirstSheet_17 : decode b_So_cellsOfFirstSheet 17 = .ok (.bipush (-4), 2) := by decide +kernel
theorem d_So_cellsOfFirstSheet_19 : decode b_So_cellsOfFirstSheet 19 = .ok (.goto 7, 3) := by decide +kernel
theorem d_So_cellsOfFirstSheet_22 : decode b_So_cellsOfFirstSheet 22 = .ok (.aload_n 1, 1) := by decide +kernel
theorem d_So_cellsOfFirstSheet_23 : decode b_So_cellsOfFirstSheet 23 = .ok (.getfield 216, 3) := by decide +kernel
theorem d_So_cellsOfFirstSheet_26 : decode b_So_cellsOfFirstSheet 26 = .ok (.ireturn, 1) := by decide +kernel
theorem d_So_textsOfLatestBody_0 : decode b_So_textsOfLatestBody 0 = .ok (.aload_n 0, 1) := by decide +kernel
theorem d_So_textsOfLatestBody_1 : decode b_So_textsOfLatestBody 1 = .ok (.aload_n 0, 1) := by decide +kernel
theorem d_So_textsOfLatestBody_2 : decode b_So_textsOfLatestBody 2 = .ok (.getfield 31, 3) := by decide +kernel
theorem d_So_textsOfLatestBody_5 : decode b_So_textsOfLatestBody 5 = .ok (.iconst 1, 1) := by decide +kernel
theorem d_So_textsOfLatestBody_6 : decode b_So_textsOfLatestBody 6 = .ok (.isub, 1) := by decide +kernel
theorem d_So_textsOfLatestBody_7 : decode b_So_textsOfLatestBody 7 = .ok (.invokevirtual 79, 3) := by decide +kernel
theorem d_So_textsOfLatestBody_10 : decode b_So_textsOfLatestBody 10 = .ok (.astore_n 1, 1) := by decide +kernel
theorem d_So_textsOfLatestBody_11 : decode b_So_textsOfLatestBody 11 = .ok (.aload_n 1, 1) := by decide +kernel
theorem d_So_textsOfLatestBody_12 : decode b_So_textsOfLatestBody 12 = .ok (.ifnonnull 8, 3) := by decide +kernel
theorem d_So_textsOfLatestBody_15 : decode b_So_textsOfLatestBody 15 = .ok (.bipush (-4), 2) := by decide +kernel
theorem d_So_textsOfLatestBody_17 : decode b_So_textsOfLatestBody 17 = .ok (.goto 7, 3) := by decide +kernel
theorem d_So_textsOfLatestBody_20 : decode b_So_textsOfLatestBody 20 = .ok (.aload_n 1, 1) := by decide +kernel
theorem d_So_textsOfLatestBody_21 : decode b_So_textsOfLatestBody 21 = .ok (.getfield 218, 3) := by decide +kernel
theorem d_So_textsOfLatestBody_24 : decode b_So_textsOfLatestBody 24 = .ok (.ireturn, 1) := by decide +kernel
