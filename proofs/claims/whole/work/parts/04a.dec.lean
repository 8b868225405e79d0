theorem d_A_fill_0 : decode b_A_fill 0 = .ok (.iconst 0, 1) := by decide +kernel
theorem d_A_fill_1 : decode b_A_fill 1 = .ok (.istore_n 2, 1) := by decide +kernel
theorem d_A_fill_2 : decode b_A_fill 2 = .ok (.aload_n 0, 1) := by decide +kernel
theorem d_A_fill_3 : decode b_A_fill 3 = .ok (.arraylength, 1) := by decide +kernel
theorem d_A_fill_4 : decode b_A_fill 4 = .ok (.istore_n 3, 1) := by decide +kernel
theorem d_A_fill_5 : decode b_A_fill 5 = .ok (.iload_n 2, 1) := by decide +kernel
theorem d_A_fill_6 : decode b_A_fill 6 = .ok (.iload_n 3, 1) := by decide +kernel
theorem d_A_fill_7 : decode b_A_fill 7 = .ok (.if_icmp .ge 13, 3) := by decide +kernel
theorem d_A_fill_10 : decode b_A_fill 10 = .ok (.aload_n 0, 1) := by decide +kernel
theorem d_A_fill_11 : decode b_A_fill 11 = .ok (.iload_n 2, 1) := by decide +kernel
theorem d_A_fill_12 : decode b_A_fill 12 = .ok (.iload_n 1, 1) := by decide +kernel
theorem d_A_fill_13 : decode b_A_fill 13 = .ok (.iastore, 1) := by decide +kernel
theorem d_A_fill_14 : decode b_A_fill 14 = .ok (.iinc 2 1, 3) := by decide +kernel
theorem d_A_fill_17 : decode b_A_fill 17 = .ok (.goto (-12), 3) := by decide +kernel
theorem d_A_fill_20 : decode b_A_fill 20 = .ok (.return_, 1) := by decide +kernel
theorem d_G_init_0 : decode b_G_init 0 = .ok (.aload_n 0, 1) := by decide +kernel
theorem d_G_init_1 : decode b_G_init 1 = .ok (.invokespecial 3, 3) := by decide +kernel
theorem d_G_init_4 : decode b_G_init 4 = .ok (.aload_n 0, 1) := by decide +kernel
theorem d_G_init_5 : decode b_G_init 5 = .ok (.sipush 576, 3) := by decide +kernel
theorem d_G_init_8 : decode b_G_init 8 = .ok (.newarray .int, 2) := by decide +kernel
theorem d_G_init_10 : decode b_G_init 10 = .ok (.putfield 9, 3) := by decide +kernel
theorem d_G_init_13 : decode b_G_init 13 = .ok (.aload_n 0, 1) := by decide +kernel
theorem d_G_init_14 : decode b_G_init 14 = .ok (.sipush 288, 3) := by decide +kernel
theorem d_G_init_17 : decode b_G_init 17 = .ok (.newarray .int, 2) := by decide +kernel
theorem d_G_init_19 : decode b_G_init 19 = .ok (.putfield 15, 3) := by decide +kernel
theorem d_G_init_22 : decode b_G_init 22 = .ok (.aload_n 0, 1) := by decide +kernel
theorem d_G_init_23 : decode b_G_init 23 = .ok (.sipush 288, 3) := by decide +kernel
theorem d_G_init_26 : decode b_G_init 26 = .ok (.newarray .int, 2) := by decide +kernel
theorem d_G_init_28 : decode b_G_init 28 = .ok (.putfield 18, 3) := by decide +kernel
theorem d_G_init_31 : decode b_G_init 31 = .ok (.aload_n 0, 1) := by decide +kernel
theorem d_G_init_32 : decode b_G_init 32 = .ok (.sipush 288, 3) := by decide +kernel
theorem d_G_init_35 : decode b_G_init 35 = .ok (.newarray .int, 2) := by decide +kernel
theorem d_G_init_37 : decode b_G_init 37 = .ok (.putfield 21, 3) := by decide +kernel
theorem d_G_init_40 : decode b_G_init 40 = .ok (.aload_n 0, 1) := by decide +kernel
theorem d_G_init_41 : decode b_G_init 41 = .ok (.sipush 288, 3) := by decide +kernel
theorem d_G_init_44 : decode b_G_init 44 = .ok (.newarray .int, 2) := by decide +kernel
theorem d_G_init_46 : decode b_G_init 46 = .ok (.putfield 24, 3) := by decide +kernel
theorem d_G_init_49 : decode b_G_init 49 = .ok (.aload_n 0, 1) := by decide +kernel
theorem d_G_init_50 : decode b_G_init 50 = .ok (.sipush 288, 3) := by decide +kernel
theorem d_G_init_53 : decode b_G_init 53 = .ok (.newarray .int, 2) := by decide +kernel
theorem d_G_init_55 : decode b_G_init 55 = .ok (.putfield 27, 3) := by decide +kernel
theorem d_G_init_58 : decode b_G_init 58 = .ok (.aload_n 0, 1) := by decide +kernel
theorem d_G_init_59 : decode b_G_init 59 = .ok (.sipush 576, 3) := by decide +kernel
theorem d_G_init_62 : decode b_G_init 62 = .ok (.newarray .int, 2) := by decide +kernel
theorem d_G_init_64 : decode b_G_init 64 = .ok (.putfield 30, 3) := by decide +kernel
theorem d_G_init_67 : decode b_G_init 67 = .ok (.aload_n 0, 1) := by decide +kernel
theorem d_G_init_68 : decode b_G_init 68 = .ok (.iload_n 1, 1) := by decide +kernel
theorem d_G_init_69 : decode b_G_init 69 = .ok (.putfield 33, 3) := by decide +kernel
theorem d_G_init_72 : decode b_G_init 72 = .ok (.aload_n 0, 1) := by decide +kernel
theorem d_G_init_73 : decode b_G_init 73 = .ok (.iload_n 2, 1) := by decide +kernel
theorem d_G_init_74 : decode b_G_init 74 = .ok (.putfield 37, 3) := by decide +kernel
theorem d_G_init_77 : decode b_G_init 77 = .ok (.return_, 1) := by decide +kernel
theorem d_G_find_0 : decode b_G_find 0 = .ok (.aload_n 0, 1) := by decide +kernel
theorem d_G_find_1 : decode b_G_find 1 = .ok (.getfield 9, 3) := by decide +kernel
theorem d_G_find_4 : decode b_G_find 4 = .ok (.iconst (-1), 1) := by decide +kernel
theorem d_G_find_5 : decode b_G_find 5 = .ok (.invokestatic 40, 3) := by decide +kernel
theorem d_G_find_8 : decode b_G_find 8 = .ok (.aload_n 0, 1) := by decide +kernel
theorem d_G_find_9 : decode b_G_find 9 = .ok (.iconst 0, 1) := by decide +kernel
theorem d_G_find_10 : decode b_G_find 10 = .ok (.putfield 46, 3) := by decide +kernel
theorem d_G_find_13 : decode b_G_find 13 = .ok (.iconst 0, 1) := by decide +kernel
theorem d_G_find_14 : decode b_G_find 14 = .ok (.istore 4, 2) := by decide +kernel
theorem d_G_find_16 : decode b_G_find 16 = .ok (.iload 4, 2) := by decide +kernel
theorem d_G_find_18 : decode b_G_find 18 = .ok (.aload_n 0, 1) := by decide +kernel
theorem d_G_find_19 : decode b_G_find 19 = .ok (.getfield 37, 3) := by decide +kernel
theorem d_G_find_22 : decode b_G_find 22 = .ok (.if_icmp .ge 75, 3) := by decide +kernel
theorem d_G_find_25 : decode b_G_find 25 = .ok (.iconst 0, 1) := by decide +kernel
theorem d_G_find_26 : decode b_G_find 26 = .ok (.istore 5, 2) := by decide +kernel
theorem d_G_find_28 : decode b_G_find 28 = .ok (.iload 5, 2) := by decide +kernel
theorem d_G_find_30 : decode b_G_find 30 = .ok (.aload_n 0, 1) := by decide +kernel
theorem d_G_find_31 : decode b_G_find 31 = .ok (.getfield 33, 3) := by decide +kernel
theorem d_G_find_34 : decode b_G_find 34 = .ok (.if_icmp .ge 57, 3) := by decide +kernel
theorem d_G_find_37 : decode b_G_find 37 = .ok (.aload_n 0, 1) := by decide +kernel
theorem d_G_find_38 : decode b_G_find 38 = .ok (.aload_n 1, 1) := by decide +kernel
theorem d_G_find_39 : decode b_G_find 39 = .ok (.iload_n 2, 1) := by decide +kernel
theorem d_G_find_40 : decode b_G_find 40 = .ok (.iload 5, 2) := by decide +kernel
theorem d_G_find_42 : decode b_G_find 42 = .ok (.iload 4, 2) := by decide +kernel
theorem d_G_find_44 : decode b_G_find 44 = .ok (.invokevirtual 49, 3) := by decide +kernel
theorem d_G_find_47 : decode b_G_find 47 = .ok (.ifCond .eq 38, 3) := by decide +kernel
theorem d_G_find_50 : decode b_G_find 50 = .ok (.aload_n 0, 1) := by decide +kernel
theorem d_G_find_51 : decode b_G_find 51 = .ok (.getfield 46, 3) := by decide +kernel
theorem d_G_find_54 : decode b_G_find 54 = .ok (.sipush 288, 3) := by decide +kernel
theorem d_G_find_57 : decode b_G_find 57 = .ok (.if_icmp .ge 28, 3) := by decide +kernel
theorem d_G_find_60 : decode b_G_find 60 = .ok (.aload_n 0, 1) := by decide +kernel
theorem d_G_find_61 : decode b_G_find 61 = .ok (.iload 5, 2) := by decide +kernel
theorem d_G_find_63 : decode b_G_find 63 = .ok (.iload 4, 2) := by decide +kernel
theorem d_G_find_65 : decode b_G_find 65 = .ok (.invokevirtual 53, 3) := by decide +kernel
theorem d_G_find_68 : decode b_G_find 68 = .ok (.aload_n 0, 1) := by decide +kernel
theorem d_G_find_69 : decode b_G_find 69 = .ok (.aload_n 1, 1) := by decide +kernel
theorem d_G_find_70 : decode b_G_find 70 = .ok (.iload_n 2, 1) := by decide +kernel
theorem d_G_find_71 : decode b_G_find 71 = .ok (.iload_n 3, 1) := by decide +kernel
theorem d_G_find_72 : decode b_G_find 72 = .ok (.invokevirtual 57, 3) := by decide +kernel
theorem d_G_find_75 : decode b_G_find 75 = .ok (.aload_n 0, 1) := by decide +kernel
theorem d_G_find_76 : decode b_G_find 76 = .ok (.dup, 1) := by decide +kernel
theorem d_G_find_77 : decode b_G_find 77 = .ok (.getfield 46, 3) := by decide +kernel
theorem d_G_find_80 : decode b_G_find 80 = .ok (.iconst 1, 1) := by decide +kernel
theorem d_G_find_81 : decode b_G_find 81 = .ok (.iadd, 1) := by decide +kernel
theorem d_G_find_82 : decode b_G_find 82 = .ok (.putfield 46, 3) := by decide +kernel
theorem d_G_find_85 : decode b_G_find 85 = .ok (.iinc 5 1, 3) := by decide +kernel
theorem d_G_find_88 : decode b_G_find 88 = .ok (.goto (-60), 3) := by decide +kernel
theorem d_G_find_91 : decode b_G_find 91 = .ok (.iinc 4 1, 3) := by decide +kernel
theorem d_G_find_94 : decode b_G_find 94 = .ok (.goto (-78), 3) := by decide +kernel
theorem d_G_find_97 : decode b_G_find 97 = .ok (.return_, 1) := by decide +kernel
theorem d_G_isOpen_0 : decode b_G_isOpen 0 = .ok (.iload_n 3, 1) := by decide +kernel
theorem d_G_isOpen_1 : decode b_G_isOpen 1 = .ok (.ifCond .lt 25, 3) := by decide +kernel
theorem d_G_isOpen_4 : decode b_G_isOpen 4 = .ok (.iload_n 3, 1) := by decide +kernel
theorem d_G_isOpen_5 : decode b_G_isOpen 5 = .ok (.aload_n 0, 1) := by decide +kernel
theorem d_G_isOpen_6 : decode b_G_isOpen 6 = .ok (.getfield 33, 3) := by decide +kernel
theorem d_G_isOpen_9 : decode b_G_isOpen 9 = .ok (.if_icmp .ge 17, 3) := by decide +kernel
theorem d_G_isOpen_12 : decode b_G_isOpen 12 = .ok (.iload 4, 2) := by decide +kernel
theorem d_G_isOpen_14 : decode b_G_isOpen 14 = .ok (.ifCond .lt 12, 3) := by decide +kernel
theorem d_G_isOpen_17 : decode b_G_isOpen 17 = .ok (.iload 4, 2) := by decide +kernel
theorem d_G_isOpen_19 : decode b_G_isOpen 19 = .ok (.aload_n 0, 1) := by decide +kernel
theorem d_G_isOpen_20 : decode b_G_isOpen 20 = .ok (.getfield 37, 3) := by decide +kernel
theorem d_G_isOpen_23 : decode b_G_isOpen 23 = .ok (.if_icmp .lt 5, 3) := by decide +kernel
theorem d_G_isOpen_26 : decode b_G_isOpen 26 = .ok (.iconst 0, 1) := by decide +kernel
theorem d_G_isOpen_27 : decode b_G_isOpen 27 = .ok (.ireturn, 1) := by decide +kernel
theorem d_G_isOpen_28 : decode b_G_isOpen 28 = .ok (.iload 4, 2) := by decide +kernel
theorem d_G_isOpen_30 : decode b_G_isOpen 30 = .ok (.bipush 24, 2) := by decide +kernel
theorem d_G_isOpen_32 : decode b_G_isOpen 32 = .ok (.imul, 1) := by decide +kernel
theorem d_G_isOpen_33 : decode b_G_isOpen 33 = .ok (.iload_n 3, 1) := by decide +kernel
theorem d_G_isOpen_34 : decode b_G_isOpen 34 = .ok (.iadd, 1) := by decide +kernel
theorem d_G_isOpen_35 : decode b_G_isOpen 35 = .ok (.istore 5, 2) := by decide +kernel
theorem d_G_isOpen_37 : decode b_G_isOpen 37 = .ok (.aload_n 1, 1) := by decide +kernel
theorem d_G_isOpen_38 : decode b_G_isOpen 38 = .ok (.iload 5, 2) := by decide +kernel
theorem d_G_isOpen_40 : decode b_G_isOpen 40 = .ok (.baload, 1) := by decide +kernel
theorem d_G_isOpen_41 : decode b_G_isOpen 41 = .ok (.iload_n 2, 1) := by decide +kernel
theorem d_G_isOpen_42 : decode b_G_isOpen 42 = .ok (.if_icmp .ne 18, 3) := by decide +kernel
theorem d_G_isOpen_45 : decode b_G_isOpen 45 = .ok (.aload_n 0, 1) := by decide +kernel
theorem d_G_isOpen_46 : decode b_G_isOpen 46 = .ok (.getfield 9, 3) := by decide +kernel
theorem d_G_isOpen_49 : decode b_G_isOpen 49 = .ok (.iload 5, 2) := by decide +kernel
theorem d_G_isOpen_51 : decode b_G_isOpen 51 = .ok (.iaload, 1) := by decide +kernel
theorem d_G_isOpen_52 : decode b_G_isOpen 52 = .ok (.iconst (-1), 1) := by decide +kernel
theorem d_G_isOpen_53 : decode b_G_isOpen 53 = .ok (.if_icmp .ne 7, 3) := by decide +kernel
theorem d_G_isOpen_56 : decode b_G_isOpen 56 = .ok (.iconst 1, 1) := by decide +kernel
theorem d_G_isOpen_57 : decode b_G_isOpen 57 = .ok (.goto 4, 3) := by decide +kernel
theorem d_G_isOpen_60 : decode b_G_isOpen 60 = .ok (.iconst 0, 1) := by decide +kernel
theorem d_G_isOpen_61 : decode b_G_isOpen 61 = .ok (.ireturn, 1) := by decide +kernel
theorem d_G_begin_0 : decode b_G_begin 0 = .ok (.aload_n 0, 1) := by decide +kernel
theorem d_G_begin_1 : decode b_G_begin 1 = .ok (.getfield 15, 3) := by decide +kernel
theorem d_G_begin_4 : decode b_G_begin 4 = .ok (.aload_n 0, 1) := by decide +kernel
theorem d_G_begin_5 : decode b_G_begin 5 = .ok (.getfield 46, 3) := by decide +kernel
theorem d_G_begin_8 : decode b_G_begin 8 = .ok (.iload_n 1, 1) := by decide +kernel
theorem d_G_begin_9 : decode b_G_begin 9 = .ok (.iastore, 1) := by decide +kernel
theorem d_G_begin_10 : decode b_G_begin 10 = .ok (.aload_n 0, 1) := by decide +kernel
theorem d_G_begin_11 : decode b_G_begin 11 = .ok (.getfield 18, 3) := by decide +kernel
theorem d_G_begin_14 : decode b_G_begin 14 = .ok (.aload_n 0, 1) := by decide +kernel
theorem d_G_begin_15 : decode b_G_begin 15 = .ok (.getfield 46, 3) := by decide +kernel
theorem d_G_begin_18 : decode b_G_begin 18 = .ok (.iload_n 2, 1) := by decide +kernel
theorem d_G_begin_19 : decode b_G_begin 19 = .ok (.iastore, 1) := by decide +kernel
theorem d_G_begin_20 : decode b_G_begin 20 = .ok (.aload_n 0, 1) := by decide +kernel
theorem d_G_begin_21 : decode b_G_begin 21 = .ok (.getfield 21, 3) := by decide +kernel
theorem d_G_begin_24 : decode b_G_begin 24 = .ok (.aload_n 0, 1) := by decide +kernel
theorem d_G_begin_25 : decode b_G_begin 25 = .ok (.getfield 46, 3) := by decide +kernel
theorem d_G_begin_28 : decode b_G_begin 28 = .ok (.iload_n 1, 1) := by decide +kernel
theorem d_G_begin_29 : decode b_G_begin 29 = .ok (.iastore, 1) := by decide +kernel
theorem d_G_begin_30 : decode b_G_begin 30 = .ok (.aload_n 0, 1) := by decide +kernel
theorem d_G_begin_31 : decode b_G_begin 31 = .ok (.getfield 24, 3) := by decide +kernel
theorem d_G_begin_34 : decode b_G_begin 34 = .ok (.aload_n 0, 1) := by decide +kernel
theorem d_G_begin_35 : decode b_G_begin 35 = .ok (.getfield 46, 3) := by decide +kernel
theorem d_G_begin_38 : decode b_G_begin 38 = .ok (.iload_n 2, 1) := by decide +kernel
theorem d_G_begin_39 : decode b_G_begin 39 = .ok (.iastore, 1) := by decide +kernel
theorem d_G_begin_40 : decode b_G_begin 40 = .ok (.aload_n 0, 1) := by decide +kernel
theorem d_G_begin_41 : decode b_G_begin 41 = .ok (.getfield 27, 3) := by decide +kernel
theorem d_G_begin_44 : decode b_G_begin 44 = .ok (.aload_n 0, 1) := by decide +kernel
theorem d_G_begin_45 : decode b_G_begin 45 = .ok (.getfield 46, 3) := by decide +kernel
theorem d_G_begin_48 : decode b_G_begin 48 = .ok (.iconst 0, 1) := by decide +kernel
theorem d_G_begin_49 : decode b_G_begin 49 = .ok (.iastore, 1) := by decide +kernel
theorem d_G_begin_50 : decode b_G_begin 50 = .ok (.aload_n 0, 1) := by decide +kernel
theorem d_G_begin_51 : decode b_G_begin 51 = .ok (.iload_n 1, 1) := by decide +kernel
theorem d_G_begin_52 : decode b_G_begin 52 = .ok (.iload_n 2, 1) := by decide +kernel
theorem d_G_begin_53 : decode b_G_begin 53 = .ok (.invokevirtual 61, 3) := by decide +kernel
theorem d_G_begin_56 : decode b_G_begin 56 = .ok (.return_, 1) := by decide +kernel
theorem d_G_take_0 : decode b_G_take 0 = .ok (.iload_n 2, 1) := by decide +kernel
theorem d_G_take_1 : decode b_G_take 1 = .ok (.bipush 24, 2) := by decide +kernel
theorem d_G_take_3 : decode b_G_take 3 = .ok (.imul, 1) := by decide +kernel
theorem d_G_take_4 : decode b_G_take 4 = .ok (.iload_n 1, 1) := by decide +kernel
theorem d_G_take_5 : decode b_G_take 5 = .ok (.iadd, 1) := by decide +kernel
theorem d_G_take_6 : decode b_G_take 6 = .ok (.istore_n 3, 1) := by decide +kernel
theorem d_G_take_7 : decode b_G_take 7 = .ok (.aload_n 0, 1) := by decide +kernel
theorem d_G_take_8 : decode b_G_take 8 = .ok (.getfield 9, 3) := by decide +kernel
theorem d_G_take_11 : decode b_G_take 11 = .ok (.iload_n 3, 1) := by decide +kernel
theorem d_G_take_12 : decode b_G_take 12 = .ok (.aload_n 0, 1) := by decide +kernel
theorem d_G_take_13 : decode b_G_take 13 = .ok (.getfield 46, 3) := by decide +kernel
theorem d_G_take_16 : decode b_G_take 16 = .ok (.iastore, 1) := by decide +kernel
theorem d_G_take_17 : decode b_G_take 17 = .ok (.aload_n 0, 1) := by decide +kernel
theorem d_G_take_18 : decode b_G_take 18 = .ok (.getfield 30, 3) := by decide +kernel
theorem d_G_take_21 : decode b_G_take 21 = .ok (.aload_n 0, 1) := by decide +kernel
theorem d_G_take_22 : decode b_G_take 22 = .ok (.getfield 27, 3) := by decide +kernel
theorem d_G_take_25 : decode b_G_take 25 = .ok (.aload_n 0, 1) := by decide +kernel
theorem d_G_take_26 : decode b_G_take 26 = .ok (.getfield 46, 3) := by decide +kernel
theorem d_G_take_29 : decode b_G_take 29 = .ok (.iaload, 1) := by decide +kernel
theorem d_G_take_30 : decode b_G_take 30 = .ok (.iload_n 3, 1) := by decide +kernel
theorem d_G_take_31 : decode b_G_take 31 = .ok (.iastore, 1) := by decide +kernel
theorem d_G_take_32 : decode b_G_take 32 = .ok (.aload_n 0, 1) := by decide +kernel
theorem d_G_take_33 : decode b_G_take 33 = .ok (.getfield 27, 3) := by decide +kernel
theorem d_G_take_36 : decode b_G_take 36 = .ok (.aload_n 0, 1) := by decide +kernel
theorem d_G_take_37 : decode b_G_take 37 = .ok (.getfield 46, 3) := by decide +kernel
theorem d_G_take_40 : decode b_G_take 40 = .ok (.dup2, 1) := by decide +kernel
theorem d_G_take_41 : decode b_G_take 41 = .ok (.iaload, 1) := by decide +kernel
theorem d_G_take_42 : decode b_G_take 42 = .ok (.iconst 1, 1) := by decide +kernel
theorem d_G_take_43 : decode b_G_take 43 = .ok (.iadd, 1) := by decide +kernel
theorem d_G_take_44 : decode b_G_take 44 = .ok (.iastore, 1) := by decide +kernel
theorem d_G_take_45 : decode b_G_take 45 = .ok (.aload_n 0, 1) := by decide +kernel
theorem d_G_take_46 : decode b_G_take 46 = .ok (.getfield 15, 3) := by decide +kernel
theorem d_G_take_49 : decode b_G_take 49 = .ok (.aload_n 0, 1) := by decide +kernel
theorem d_G_take_50 : decode b_G_take 50 = .ok (.getfield 46, 3) := by decide +kernel
theorem d_G_take_53 : decode b_G_take 53 = .ok (.aload_n 0, 1) := by decide +kernel
theorem d_G_take_54 : decode b_G_take 54 = .ok (.getfield 15, 3) := by decide +kernel
theorem d_G_take_57 : decode b_G_take 57 = .ok (.aload_n 0, 1) := by decide +kernel
theorem d_G_take_58 : decode b_G_take 58 = .ok (.getfield 46, 3) := by decide +kernel
theorem d_G_take_61 : decode b_G_take 61 = .ok (.iaload, 1) := by decide +kernel
theorem d_G_take_62 : decode b_G_take 62 = .ok (.iload_n 1, 1) := by decide +kernel
theorem d_G_take_63 : decode b_G_take 63 = .ok (.invokestatic 64, 3) := by decide +kernel
theorem d_G_take_66 : decode b_G_take 66 = .ok (.iastore, 1) := by decide +kernel
theorem d_G_take_67 : decode b_G_take 67 = .ok (.aload_n 0, 1) := by decide +kernel
theorem d_G_take_68 : decode b_G_take 68 = .ok (.getfield 21, 3) := by decide +kernel
theorem d_G_take_71 : decode b_G_take 71 = .ok (.aload_n 0, 1) := by decide +kernel
theorem d_G_take_72 : decode b_G_take 72 = .ok (.getfield 46, 3) := by decide +kernel
theorem d_G_take_75 : decode b_G_take 75 = .ok (.aload_n 0, 1) := by decide +kernel
theorem d_G_take_76 : decode b_G_take 76 = .ok (.getfield 21, 3) := by decide +kernel
theorem d_G_take_79 : decode b_G_take 79 = .ok (.aload_n 0, 1) := by decide +kernel
theorem d_G_take_80 : decode b_G_take 80 = .ok (.getfield 46, 3) := by decide +kernel
theorem d_G_take_83 : decode b_G_take 83 = .ok (.iaload, 1) := by decide +kernel
theorem d_G_take_84 : decode b_G_take 84 = .ok (.iload_n 1, 1) := by decide +kernel
theorem d_G_take_85 : decode b_G_take 85 = .ok (.invokestatic 70, 3) := by decide +kernel
theorem d_G_take_88 : decode b_G_take 88 = .ok (.iastore, 1) := by decide +kernel
theorem d_G_take_89 : decode b_G_take 89 = .ok (.aload_n 0, 1) := by decide +kernel
theorem d_G_take_90 : decode b_G_take 90 = .ok (.getfield 24, 3) := by decide +kernel
theorem d_G_take_93 : decode b_G_take 93 = .ok (.aload_n 0, 1) := by decide +kernel
theorem d_G_take_94 : decode b_G_take 94 = .ok (.getfield 46, 3) := by decide +kernel
theorem d_G_take_97 : decode b_G_take 97 = .ok (.aload_n 0, 1) := by decide +kernel
theorem d_G_take_98 : decode b_G_take 98 = .ok (.getfield 24, 3) := by decide +kernel
theorem d_G_take_101 : decode b_G_take 101 = .ok (.aload_n 0, 1) := by decide +kernel
theorem d_G_take_102 : decode b_G_take 102 = .ok (.getfield 46, 3) := by decide +kernel
theorem d_G_take_105 : decode b_G_take 105 = .ok (.iaload, 1) := by decide +kernel
theorem d_G_take_106 : decode b_G_take 106 = .ok (.iload_n 2, 1) := by decide +kernel
theorem d_G_take_107 : decode b_G_take 107 = .ok (.invokestatic 70, 3) := by decide +kernel
theorem d_G_take_110 : decode b_G_take 110 = .ok (.iastore, 1) := by decide +kernel
theorem d_G_take_111 : decode b_G_take 111 = .ok (.return_, 1) := by decide +kernel
theorem d_G_gather_0 : decode b_G_gather 0 = .ok (.iconst 0, 1) := by decide +kernel
theorem d_G_gather_1 : decode b_G_gather 1 = .ok (.istore 4, 2) := by decide +kernel
theorem d_G_gather_3 : decode b_G_gather 3 = .ok (.iload 4, 2) := by decide +kernel
theorem d_G_gather_5 : decode b_G_gather 5 = .ok (.sipush 576, 3) := by decide +kernel
theorem d_G_gather_8 : decode b_G_gather 8 = .ok (.if_icmp .ge 140, 3) := by decide +kernel
theorem d_G_gather_11 : decode b_G_gather 11 = .ok (.iload 4, 2) := by decide +kernel
theorem d_G_gather_13 : decode b_G_gather 13 = .ok (.aload_n 0, 1) := by decide +kernel
theorem d_G_gather_14 : decode b_G_gather 14 = .ok (.getfield 27, 3) := by decide +kernel
theorem d_G_gather_17 : decode b_G_gather 17 = .ok (.aload_n 0, 1) := by decide +kernel
theorem d_G_gather_18 : decode b_G_gather 18 = .ok (.getfield 46, 3) := by decide +kernel
theorem d_G_gather_21 : decode b_G_gather 21 = .ok (.iaload, 1) := by decide +kernel
theorem d_G_gather_22 : decode b_G_gather 22 = .ok (.if_icmp .ge 126, 3) := by decide +kernel
theorem d_G_gather_25 : decode b_G_gather 25 = .ok (.aload_n 0, 1) := by decide +kernel
theorem d_G_gather_26 : decode b_G_gather 26 = .ok (.getfield 30, 3) := by decide +kernel
theorem d_G_gather_29 : decode b_G_gather 29 = .ok (.iload 4, 2) := by decide +kernel
theorem d_G_gather_31 : decode b_G_gather 31 = .ok (.iaload, 1) := by decide +kernel
theorem d_G_gather_32 : decode b_G_gather 32 = .ok (.bipush 24, 2) := by decide +kernel
theorem d_G_gather_34 : decode b_G_gather 34 = .ok (.irem, 1) := by decide +kernel
theorem d_G_gather_35 : decode b_G_gather 35 = .ok (.istore 5, 2) := by decide +kernel
theorem d_G_gather_37 : decode b_G_gather 37 = .ok (.aload_n 0, 1) := by decide +kernel
theorem d_G_gather_38 : decode b_G_gather 38 = .ok (.getfield 30, 3) := by decide +kernel
theorem d_G_gather_41 : decode b_G_gather 41 = .ok (.iload 4, 2) := by decide +kernel
theorem d_G_gather_43 : decode b_G_gather 43 = .ok (.iaload, 1) := by decide +kernel
theorem d_G_gather_44 : decode b_G_gather 44 = .ok (.bipush 24, 2) := by decide +kernel
theorem d_G_gather_46 : decode b_G_gather 46 = .ok (.idiv, 1) := by decide +kernel
theorem d_G_gather_47 : decode b_G_gather 47 = .ok (.istore 6, 2) := by decide +kernel
theorem d_G_gather_49 : decode b_G_gather 49 = .ok (.iload 6, 2) := by decide +kernel
theorem d_G_gather_51 : decode b_G_gather 51 = .ok (.iconst 1, 1) := by decide +kernel
theorem d_G_gather_52 : decode b_G_gather 52 = .ok (.isub, 1) := by decide +kernel
theorem d_G_gather_53 : decode b_G_gather 53 = .ok (.istore 7, 2) := by decide +kernel
theorem d_G_gather_55 : decode b_G_gather 55 = .ok (.iload 7, 2) := by decide +kernel
theorem d_G_gather_57 : decode b_G_gather 57 = .ok (.iload 6, 2) := by decide +kernel
theorem d_G_gather_59 : decode b_G_gather 59 = .ok (.iconst 1, 1) := by decide +kernel
theorem d_G_gather_60 : decode b_G_gather 60 = .ok (.iadd, 1) := by decide +kernel
theorem d_G_gather_61 : decode b_G_gather 61 = .ok (.if_icmp .gt 81, 3) := by decide +kernel
theorem d_G_gather_64 : decode b_G_gather 64 = .ok (.iload 5, 2) := by decide +kernel
theorem d_G_gather_66 : decode b_G_gather 66 = .ok (.iconst 1, 1) := by decide +kernel
theorem d_G_gather_67 : decode b_G_gather 67 = .ok (.isub, 1) := by decide +kernel
theorem d_G_gather_68 : decode b_G_gather 68 = .ok (.istore 8, 2) := by decide +kernel
theorem d_G_gather_70 : decode b_G_gather 70 = .ok (.iload 8, 2) := by decide +kernel
theorem d_G_gather_72 : decode b_G_gather 72 = .ok (.iload 5, 2) := by decide +kernel
theorem d_G_gather_74 : decode b_G_gather 74 = .ok (.iconst 1, 1) := by decide +kernel
theorem d_G_gather_75 : decode b_G_gather 75 = .ok (.iadd, 1) := by decide +kernel
theorem d_G_gather_76 : decode b_G_gather 76 = .ok (.if_icmp .gt 60, 3) := by decide +kernel
theorem d_G_gather_79 : decode b_G_gather 79 = .ok (.iload 8, 2) := by decide +kernel
theorem d_G_gather_81 : decode b_G_gather 81 = .ok (.iload 5, 2) := by decide +kernel
theorem d_G_gather_83 : decode b_G_gather 83 = .ok (.if_icmp .eq 10, 3) := by decide +kernel
theorem d_G_gather_86 : decode b_G_gather 86 = .ok (.iload 7, 2) := by decide +kernel
theorem d_G_gather_88 : decode b_G_gather 88 = .ok (.iload 6, 2) := by decide +kernel
theorem d_G_gather_90 : decode b_G_gather 90 = .ok (.if_icmp .ne 7, 3) := by decide +kernel
theorem d_G_gather_93 : decode b_G_gather 93 = .ok (.iconst 1, 1) := by decide +kernel
theorem d_G_gather_94 : decode b_G_gather 94 = .ok (.goto 4, 3) := by decide +kernel
theorem d_G_gather_97 : decode b_G_gather 97 = .ok (.iconst 0, 1) := by decide +kernel
theorem d_G_gather_98 : decode b_G_gather 98 = .ok (.istore 9, 2) := by decide +kernel
theorem d_G_gather_100 : decode b_G_gather 100 = .ok (.iload 9, 2) := by decide +kernel
theorem d_G_gather_102 : decode b_G_gather 102 = .ok (.ifCond .ne 7, 3) := by decide +kernel
theorem d_G_gather_105 : decode b_G_gather 105 = .ok (.iload_n 3, 1) := by decide +kernel
theorem d_G_gather_106 : decode b_G_gather 106 = .ok (.ifCond .eq 24, 3) := by decide +kernel
theorem d_G_gather_109 : decode b_G_gather 109 = .ok (.aload_n 0, 1) := by decide +kernel
theorem d_G_gather_110 : decode b_G_gather 110 = .ok (.aload_n 1, 1) := by decide +kernel
theorem d_G_gather_111 : decode b_G_gather 111 = .ok (.iload_n 2, 1) := by decide +kernel
theorem d_G_gather_112 : decode b_G_gather 112 = .ok (.iload 8, 2) := by decide +kernel
theorem d_G_gather_114 : decode b_G_gather 114 = .ok (.iload 7, 2) := by decide +kernel
theorem d_G_gather_116 : decode b_G_gather 116 = .ok (.invokevirtual 49, 3) := by decide +kernel
theorem d_G_gather_119 : decode b_G_gather 119 = .ok (.ifCond .eq 11, 3) := by decide +kernel
theorem d_G_gather_122 : decode b_G_gather 122 = .ok (.aload_n 0, 1) := by decide +kernel
theorem d_G_gather_123 : decode b_G_gather 123 = .ok (.iload 8, 2) := by decide +kernel
theorem d_G_gather_125 : decode b_G_gather 125 = .ok (.iload 7, 2) := by decide +kernel
theorem d_G_gather_127 : decode b_G_gather 127 = .ok (.invokevirtual 61, 3) := by decide +kernel
theorem d_G_gather_130 : decode b_G_gather 130 = .ok (.iinc 8 1, 3) := by decide +kernel
theorem d_G_gather_133 : decode b_G_gather 133 = .ok (.goto (-63), 3) := by decide +kernel
theorem d_G_gather_136 : decode b_G_gather 136 = .ok (.iinc 7 1, 3) := by decide +kernel
theorem d_G_gather_139 : decode b_G_gather 139 = .ok (.goto (-84), 3) := by decide +kernel
theorem d_G_gather_142 : decode b_G_gather 142 = .ok (.iinc 4 1, 3) := by decide +kernel
theorem d_G_gather_145 : decode b_G_gather 145 = .ok (.goto (-142), 3) := by decide +kernel
theorem d_G_gather_148 : decode b_G_gather 148 = .ok (.return_, 1) := by decide +kernel
theorem d_G_dropAtEdge_0 : decode b_G_dropAtEdge 0 = .ok (.iconst 0, 1) := by decide +kernel
theorem d_G_dropAtEdge_1 : decode b_G_dropAtEdge 1 = .ok (.istore_n 1, 1) := by decide +kernel
theorem d_G_dropAtEdge_2 : decode b_G_dropAtEdge 2 = .ok (.iconst 0, 1) := by decide +kernel
theorem d_G_dropAtEdge_3 : decode b_G_dropAtEdge 3 = .ok (.istore_n 2, 1) := by decide +kernel
theorem d_G_dropAtEdge_4 : decode b_G_dropAtEdge 4 = .ok (.iload_n 2, 1) := by decide +kernel
theorem d_G_dropAtEdge_5 : decode b_G_dropAtEdge 5 = .ok (.aload_n 0, 1) := by decide +kernel
theorem d_G_dropAtEdge_6 : decode b_G_dropAtEdge 6 = .ok (.getfield 46, 3) := by decide +kernel
theorem d_G_dropAtEdge_9 : decode b_G_dropAtEdge 9 = .ok (.if_icmp .ge 120, 3) := by decide +kernel
theorem d_G_dropAtEdge_12 : decode b_G_dropAtEdge 12 = .ok (.aload_n 0, 1) := by decide +kernel
theorem d_G_dropAtEdge_13 : decode b_G_dropAtEdge 13 = .ok (.getfield 15, 3) := by decide +kernel
theorem d_G_dropAtEdge_16 : decode b_G_dropAtEdge 16 = .ok (.iload_n 2, 1) := by decide +kernel
theorem d_G_dropAtEdge_17 : decode b_G_dropAtEdge 17 = .ok (.iaload, 1) := by decide +kernel
theorem d_G_dropAtEdge_18 : decode b_G_dropAtEdge 18 = .ok (.ifCond .le 105, 3) := by decide +kernel
theorem d_G_dropAtEdge_21 : decode b_G_dropAtEdge 21 = .ok (.aload_n 0, 1) := by decide +kernel
theorem d_G_dropAtEdge_22 : decode b_G_dropAtEdge 22 = .ok (.getfield 18, 3) := by decide +kernel
theorem d_G_dropAtEdge_25 : decode b_G_dropAtEdge 25 = .ok (.iload_n 2, 1) := by decide +kernel
theorem d_G_dropAtEdge_26 : decode b_G_dropAtEdge 26 = .ok (.iaload, 1) := by decide +kernel
theorem d_G_dropAtEdge_27 : decode b_G_dropAtEdge 27 = .ok (.ifCond .le 96, 3) := by decide +kernel
theorem d_G_dropAtEdge_30 : decode b_G_dropAtEdge 30 = .ok (.aload_n 0, 1) := by decide +kernel
theorem d_G_dropAtEdge_31 : decode b_G_dropAtEdge 31 = .ok (.getfield 21, 3) := by decide +kernel
theorem d_G_dropAtEdge_34 : decode b_G_dropAtEdge 34 = .ok (.iload_n 2, 1) := by decide +kernel
theorem d_G_dropAtEdge_35 : decode b_G_dropAtEdge 35 = .ok (.iaload, 1) := by decide +kernel
theorem d_G_dropAtEdge_36 : decode b_G_dropAtEdge 36 = .ok (.aload_n 0, 1) := by decide +kernel
theorem d_G_dropAtEdge_37 : decode b_G_dropAtEdge 37 = .ok (.getfield 33, 3) := by decide +kernel
theorem d_G_dropAtEdge_40 : decode b_G_dropAtEdge 40 = .ok (.iconst 1, 1) := by decide +kernel
theorem d_G_dropAtEdge_41 : decode b_G_dropAtEdge 41 = .ok (.isub, 1) := by decide +kernel
theorem d_G_dropAtEdge_42 : decode b_G_dropAtEdge 42 = .ok (.if_icmp .ge 81, 3) := by decide +kernel
theorem d_G_dropAtEdge_45 : decode b_G_dropAtEdge 45 = .ok (.aload_n 0, 1) := by decide +kernel
theorem d_G_dropAtEdge_46 : decode b_G_dropAtEdge 46 = .ok (.getfield 24, 3) := by decide +kernel
theorem d_G_dropAtEdge_49 : decode b_G_dropAtEdge 49 = .ok (.iload_n 2, 1) := by decide +kernel
theorem d_G_dropAtEdge_50 : decode b_G_dropAtEdge 50 = .ok (.iaload, 1) := by decide +kernel
theorem d_G_dropAtEdge_51 : decode b_G_dropAtEdge 51 = .ok (.aload_n 0, 1) := by decide +kernel
theorem d_G_dropAtEdge_52 : decode b_G_dropAtEdge 52 = .ok (.getfield 37, 3) := by decide +kernel
theorem d_G_dropAtEdge_55 : decode b_G_dropAtEdge 55 = .ok (.iconst 1, 1) := by decide +kernel
theorem d_G_dropAtEdge_56 : decode b_G_dropAtEdge 56 = .ok (.isub, 1) := by decide +kernel
theorem d_G_dropAtEdge_57 : decode b_G_dropAtEdge 57 = .ok (.if_icmp .ge 66, 3) := by decide +kernel
theorem d_G_dropAtEdge_60 : decode b_G_dropAtEdge 60 = .ok (.aload_n 0, 1) := by decide +kernel
theorem d_G_dropAtEdge_61 : decode b_G_dropAtEdge 61 = .ok (.getfield 15, 3) := by decide +kernel
theorem d_G_dropAtEdge_64 : decode b_G_dropAtEdge 64 = .ok (.iload_n 1, 1) := by decide +kernel
theorem d_G_dropAtEdge_65 : decode b_G_dropAtEdge 65 = .ok (.aload_n 0, 1) := by decide +kernel
theorem d_G_dropAtEdge_66 : decode b_G_dropAtEdge 66 = .ok (.getfield 15, 3) := by decide +kernel
theorem d_G_dropAtEdge_69 : decode b_G_dropAtEdge 69 = .ok (.iload_n 2, 1) := by decide +kernel
theorem d_G_dropAtEdge_70 : decode b_G_dropAtEdge 70 = .ok (.iaload, 1) := by decide +kernel
theorem d_G_dropAtEdge_71 : decode b_G_dropAtEdge 71 = .ok (.iastore, 1) := by decide +kernel
theorem d_G_dropAtEdge_72 : decode b_G_dropAtEdge 72 = .ok (.aload_n 0, 1) := by decide +kernel
theorem d_G_dropAtEdge_73 : decode b_G_dropAtEdge 73 = .ok (.getfield 18, 3) := by decide +kernel
theorem d_G_dropAtEdge_76 : decode b_G_dropAtEdge 76 = .ok (.iload_n 1, 1) := by decide +kernel
theorem d_G_dropAtEdge_77 : decode b_G_dropAtEdge 77 = .ok (.aload_n 0, 1) := by decide +kernel
theorem d_G_dropAtEdge_78 : decode b_G_dropAtEdge 78 = .ok (.getfield 18, 3) := by decide +kernel
theorem d_G_dropAtEdge_81 : decode b_G_dropAtEdge 81 = .ok (.iload_n 2, 1) := by decide +kernel
theorem d_G_dropAtEdge_82 : decode b_G_dropAtEdge 82 = .ok (.iaload, 1) := by decide +kernel
theorem d_G_dropAtEdge_83 : decode b_G_dropAtEdge 83 = .ok (.iastore, 1) := by decide +kernel
theorem d_G_dropAtEdge_84 : decode b_G_dropAtEdge 84 = .ok (.aload_n 0, 1) := by decide +kernel
theorem d_G_dropAtEdge_85 : decode b_G_dropAtEdge 85 = .ok (.getfield 21, 3) := by decide +kernel
theorem d_G_dropAtEdge_88 : decode b_G_dropAtEdge 88 = .ok (.iload_n 1, 1) := by decide +kernel
theorem d_G_dropAtEdge_89 : decode b_G_dropAtEdge 89 = .ok (.aload_n 0, 1) := by decide +kernel
theorem d_G_dropAtEdge_90 : decode b_G_dropAtEdge 90 = .ok (.getfield 21, 3) := by decide +kernel
theorem d_G_dropAtEdge_93 : decode b_G_dropAtEdge 93 = .ok (.iload_n 2, 1) := by decide +kernel
theorem d_G_dropAtEdge_94 : decode b_G_dropAtEdge 94 = .ok (.iaload, 1) := by decide +kernel
theorem d_G_dropAtEdge_95 : decode b_G_dropAtEdge 95 = .ok (.iastore, 1) := by decide +kernel
theorem d_G_dropAtEdge_96 : decode b_G_dropAtEdge 96 = .ok (.aload_n 0, 1) := by decide +kernel
theorem d_G_dropAtEdge_97 : decode b_G_dropAtEdge 97 = .ok (.getfield 24, 3) := by decide +kernel
theorem d_G_dropAtEdge_100 : decode b_G_dropAtEdge 100 = .ok (.iload_n 1, 1) := by decide +kernel
theorem d_G_dropAtEdge_101 : decode b_G_dropAtEdge 101 = .ok (.aload_n 0, 1) := by decide +kernel
theorem d_G_dropAtEdge_102 : decode b_G_dropAtEdge 102 = .ok (.getfield 24, 3) := by decide +kernel
theorem d_G_dropAtEdge_105 : decode b_G_dropAtEdge 105 = .ok (.iload_n 2, 1) := by decide +kernel
theorem d_G_dropAtEdge_106 : decode b_G_dropAtEdge 106 = .ok (.iaload, 1) := by decide +kernel
theorem d_G_dropAtEdge_107 : decode b_G_dropAtEdge 107 = .ok (.iastore, 1) := by decide +kernel
theorem d_G_dropAtEdge_108 : decode b_G_dropAtEdge 108 = .ok (.aload_n 0, 1) := by decide +kernel
theorem d_G_dropAtEdge_109 : decode b_G_dropAtEdge 109 = .ok (.getfield 27, 3) := by decide +kernel
theorem d_G_dropAtEdge_112 : decode b_G_dropAtEdge 112 = .ok (.iload_n 1, 1) := by decide +kernel
theorem d_G_dropAtEdge_113 : decode b_G_dropAtEdge 113 = .ok (.aload_n 0, 1) := by decide +kernel
theorem d_G_dropAtEdge_114 : decode b_G_dropAtEdge 114 = .ok (.getfield 27, 3) := by decide +kernel
theorem d_G_dropAtEdge_117 : decode b_G_dropAtEdge 117 = .ok (.iload_n 2, 1) := by decide +kernel
theorem d_G_dropAtEdge_118 : decode b_G_dropAtEdge 118 = .ok (.iaload, 1) := by decide +kernel
theorem d_G_dropAtEdge_119 : decode b_G_dropAtEdge 119 = .ok (.iastore, 1) := by decide +kernel
theorem d_G_dropAtEdge_120 : decode b_G_dropAtEdge 120 = .ok (.iinc 1 1, 3) := by decide +kernel
theorem d_G_dropAtEdge_123 : decode b_G_dropAtEdge 123 = .ok (.iinc 2 1, 3) := by decide +kernel
theorem d_G_dropAtEdge_126 : decode b_G_dropAtEdge 126 = .ok (.goto (-122), 3) := by decide +kernel
theorem d_G_dropAtEdge_129 : decode b_G_dropAtEdge 129 = .ok (.aload_n 0, 1) := by decide +kernel
theorem d_G_dropAtEdge_130 : decode b_G_dropAtEdge 130 = .ok (.iload_n 1, 1) := by decide +kernel
theorem d_G_dropAtEdge_131 : decode b_G_dropAtEdge 131 = .ok (.putfield 46, 3) := by decide +kernel
theorem d_G_dropAtEdge_134 : decode b_G_dropAtEdge 134 = .ok (.return_, 1) := by decide +kernel
theorem d_G_wideOf_0 : decode b_G_wideOf 0 = .ok (.aload_n 0, 1) := by decide +kernel
theorem d_G_wideOf_1 : decode b_G_wideOf 1 = .ok (.getfield 21, 3) := by decide +kernel
theorem d_G_wideOf_4 : decode b_G_wideOf 4 = .ok (.iload_n 1, 1) := by decide +kernel
theorem d_G_wideOf_5 : decode b_G_wideOf 5 = .ok (.iaload, 1) := by decide +kernel
theorem d_G_wideOf_6 : decode b_G_wideOf 6 = .ok (.aload_n 0, 1) := by decide +kernel
theorem d_G_wideOf_7 : decode b_G_wideOf 7 = .ok (.getfield 15, 3) := by decide +kernel
theorem d_G_wideOf_10 : decode b_G_wideOf 10 = .ok (.iload_n 1, 1) := by decide +kernel
theorem d_G_wideOf_11 : decode b_G_wideOf 11 = .ok (.iaload, 1) := by decide +kernel
theorem d_G_wideOf_12 : decode b_G_wideOf 12 = .ok (.isub, 1) := by decide +kernel
theorem d_G_wideOf_13 : decode b_G_wideOf 13 = .ok (.iconst 1, 1) := by decide +kernel
theorem d_G_wideOf_14 : decode b_G_wideOf 14 = .ok (.iadd, 1) := by decide +kernel
theorem d_G_wideOf_15 : decode b_G_wideOf 15 = .ok (.ireturn, 1) := by decide +kernel
theorem d_G_highOf_0 : decode b_G_highOf 0 = .ok (.aload_n 0, 1) := by decide +kernel
theorem d_G_highOf_1 : decode b_G_highOf 1 = .ok (.getfield 24, 3) := by decide +kernel
theorem d_G_highOf_4 : decode b_G_highOf 4 = .ok (.iload_n 1, 1) := by decide +kernel
theorem d_G_highOf_5 : decode b_G_highOf 5 = .ok (.iaload, 1) := by decide +kernel
theorem d_G_highOf_6 : decode b_G_highOf 6 = .ok (.aload_n 0, 1) := by decide +kernel
theorem d_G_highOf_7 : decode b_G_highOf 7 = .ok (.getfield 18, 3) := by decide +kernel
theorem d_G_highOf_10 : decode b_G_highOf 10 = .ok (.iload_n 1, 1) := by decide +kernel
theorem d_G_highOf_11 : decode b_G_highOf 11 = .ok (.iaload, 1) := by decide +kernel
theorem d_G_highOf_12 : decode b_G_highOf 12 = .ok (.isub, 1) := by decide +kernel
theorem d_G_highOf_13 : decode b_G_highOf 13 = .ok (.iconst 1, 1) := by decide +kernel
theorem d_G_highOf_14 : decode b_G_highOf 14 = .ok (.iadd, 1) := by decide +kernel
theorem d_G_highOf_15 : decode b_G_highOf 15 = .ok (.ireturn, 1) := by decide +kernel
theorem d_G_boxOf_0 : decode b_G_boxOf 0 = .ok (.iload_n 2, 1) := by decide +kernel
theorem d_G_boxOf_1 : decode b_G_boxOf 1 = .ok (.tableswitch 47 0 2 #[27, 34, 41], 27) := by decide +kernel
theorem d_G_boxOf_28 : decode b_G_boxOf 28 = .ok (.aload_n 0, 1) := by decide +kernel
theorem d_G_boxOf_29 : decode b_G_boxOf 29 = .ok (.getfield 15, 3) := by decide +kernel
theorem d_G_boxOf_32 : decode b_G_boxOf 32 = .ok (.iload_n 1, 1) := by decide +kernel
theorem d_G_boxOf_33 : decode b_G_boxOf 33 = .ok (.iaload, 1) := by decide +kernel
theorem d_G_boxOf_34 : decode b_G_boxOf 34 = .ok (.ireturn, 1) := by decide +kernel
theorem d_G_boxOf_35 : decode b_G_boxOf 35 = .ok (.aload_n 0, 1) := by decide +kernel
theorem d_G_boxOf_36 : decode b_G_boxOf 36 = .ok (.getfield 18, 3) := by decide +kernel
theorem d_G_boxOf_39 : decode b_G_boxOf 39 = .ok (.iload_n 1, 1) := by decide +kernel
theorem d_G_boxOf_40 : decode b_G_boxOf 40 = .ok (.iaload, 1) := by decide +kernel
theorem d_G_boxOf_41 : decode b_G_boxOf 41 = .ok (.ireturn, 1) := by decide +kernel
theorem d_G_boxOf_42 : decode b_G_boxOf 42 = .ok (.aload_n 0, 1) := by decide +kernel
theorem d_G_boxOf_43 : decode b_G_boxOf 43 = .ok (.iload_n 1, 1) := by decide +kernel
theorem d_G_boxOf_44 : decode b_G_boxOf 44 = .ok (.invokevirtual 73, 3) := by decide +kernel
theorem d_G_boxOf_47 : decode b_G_boxOf 47 = .ok (.ireturn, 1) := by decide +kernel
theorem d_G_boxOf_48 : decode b_G_boxOf 48 = .ok (.aload_n 0, 1) := by decide +kernel
theorem d_G_boxOf_49 : decode b_G_boxOf 49 = .ok (.iload_n 1, 1) := by decide +kernel
theorem d_G_boxOf_50 : decode b_G_boxOf 50 = .ok (.invokevirtual 77, 3) := by decide +kernel
theorem d_G_boxOf_53 : decode b_G_boxOf 53 = .ok (.ireturn, 1) := by decide +kernel
theorem d_C_init_0 : decode b_C_init 0 = .ok (.aload_n 0, 1) := by decide +kernel
theorem d_C_init_1 : decode b_C_init 1 = .ok (.invokespecial 3, 3) := by decide +kernel
theorem d_C_init_4 : decode b_C_init 4 = .ok (.aload_n 0, 1) := by decide +kernel
theorem d_C_init_5 : decode b_C_init 5 = .ok (.bipush 6, 2) := by decide +kernel
theorem d_C_init_7 : decode b_C_init 7 = .ok (.newarray .int, 2) := by decide +kernel
theorem d_C_init_9 : decode b_C_init 9 = .ok (.putfield 9, 3) := by decide +kernel
theorem d_C_init_12 : decode b_C_init 12 = .ok (.aload_n 0, 1) := by decide +kernel
theorem d_C_init_13 : decode b_C_init 13 = .ok (.bipush 6, 2) := by decide +kernel
theorem d_C_init_15 : decode b_C_init 15 = .ok (.newarray .int, 2) := by decide +kernel
theorem d_C_init_17 : decode b_C_init 17 = .ok (.putfield 15, 3) := by decide +kernel
theorem d_C_init_20 : decode b_C_init 20 = .ok (.aload_n 0, 1) := by decide +kernel
theorem d_C_init_21 : decode b_C_init 21 = .ok (.bipush 6, 2) := by decide +kernel
theorem d_C_init_23 : decode b_C_init 23 = .ok (.newarray .int, 2) := by decide +kernel
theorem d_C_init_25 : decode b_C_init 25 = .ok (.putfield 18, 3) := by decide +kernel
theorem d_C_init_28 : decode b_C_init 28 = .ok (.aload_n 0, 1) := by decide +kernel
theorem d_C_init_29 : decode b_C_init 29 = .ok (.bipush 6, 2) := by decide +kernel
theorem d_C_init_31 : decode b_C_init 31 = .ok (.newarray .int, 2) := by decide +kernel
theorem d_C_init_33 : decode b_C_init 33 = .ok (.putfield 21, 3) := by decide +kernel
theorem d_C_init_36 : decode b_C_init 36 = .ok (.aload_n 0, 1) := by decide +kernel
theorem d_C_init_37 : decode b_C_init 37 = .ok (.sipush 576, 3) := by decide +kernel
theorem d_C_init_40 : decode b_C_init 40 = .ok (.newarray .int, 2) := by decide +kernel
theorem d_C_init_42 : decode b_C_init 42 = .ok (.putfield 24, 3) := by decide +kernel
theorem d_C_init_45 : decode b_C_init 45 = .ok (.aload_n 0, 1) := by decide +kernel
theorem d_C_init_46 : decode b_C_init 46 = .ok (.iload_n 1, 1) := by decide +kernel
theorem d_C_init_47 : decode b_C_init 47 = .ok (.putfield 27, 3) := by decide +kernel
theorem d_C_init_50 : decode b_C_init 50 = .ok (.aload_n 0, 1) := by decide +kernel
theorem d_C_init_51 : decode b_C_init 51 = .ok (.iload_n 2, 1) := by decide +kernel
theorem d_C_init_52 : decode b_C_init 52 = .ok (.putfield 31, 3) := by decide +kernel
theorem d_C_init_55 : decode b_C_init 55 = .ok (.return_, 1) := by decide +kernel
theorem d_C_find_0 : decode b_C_find 0 = .ok (.aload_n 0, 1) := by decide +kernel
theorem d_C_find_1 : decode b_C_find 1 = .ok (.aload_n 1, 1) := by decide +kernel
theorem d_C_find_2 : decode b_C_find 2 = .ok (.invokevirtual 34, 3) := by decide +kernel
theorem d_C_find_5 : decode b_C_find 5 = .ok (.aload_n 0, 1) := by decide +kernel
theorem d_C_find_6 : decode b_C_find 6 = .ok (.iconst 0, 1) := by decide +kernel
theorem d_C_find_7 : decode b_C_find 7 = .ok (.putfield 38, 3) := by decide +kernel
theorem d_C_find_10 : decode b_C_find 10 = .ok (.iconst 0, 1) := by decide +kernel
theorem d_C_find_11 : decode b_C_find 11 = .ok (.istore_n 2, 1) := by decide +kernel
theorem d_C_find_12 : decode b_C_find 12 = .ok (.iload_n 2, 1) := by decide +kernel
theorem d_C_find_13 : decode b_C_find 13 = .ok (.bipush 6, 2) := by decide +kernel
theorem d_C_find_15 : decode b_C_find 15 = .ok (.if_icmp .ge 38, 3) := by decide +kernel
theorem d_C_find_18 : decode b_C_find 18 = .ok (.aload_n 0, 1) := by decide +kernel
theorem d_C_find_19 : decode b_C_find 19 = .ok (.iload_n 2, 1) := by decide +kernel
theorem d_C_find_20 : decode b_C_find 20 = .ok (.invokevirtual 41, 3) := by decide +kernel
theorem d_C_find_23 : decode b_C_find 23 = .ok (.aload_n 0, 1) := by decide +kernel
theorem d_C_find_24 : decode b_C_find 24 = .ok (.getfield 45, 3) := by decide +kernel
theorem d_C_find_27 : decode b_C_find 27 = .ok (.iconst 4, 1) := by decide +kernel
theorem d_C_find_28 : decode b_C_find 28 = .ok (.if_icmp .ge 4, 3) := by decide +kernel
theorem d_C_find_31 : decode b_C_find 31 = .ok (.return_, 1) := by decide +kernel
theorem d_C_find_32 : decode b_C_find 32 = .ok (.aload_n 0, 1) := by decide +kernel
theorem d_C_find_33 : decode b_C_find 33 = .ok (.iload_n 2, 1) := by decide +kernel
theorem d_C_find_34 : decode b_C_find 34 = .ok (.invokevirtual 48, 3) := by decide +kernel
theorem d_C_find_37 : decode b_C_find 37 = .ok (.aload_n 0, 1) := by decide +kernel
theorem d_C_find_38 : decode b_C_find 38 = .ok (.dup, 1) := by decide +kernel
theorem d_C_find_39 : decode b_C_find 39 = .ok (.getfield 38, 3) := by decide +kernel
theorem d_C_find_42 : decode b_C_find 42 = .ok (.iconst 1, 1) := by decide +kernel
theorem d_C_find_43 : decode b_C_find 43 = .ok (.iadd, 1) := by decide +kernel
theorem d_C_find_44 : decode b_C_find 44 = .ok (.putfield 38, 3) := by decide +kernel
theorem d_C_find_47 : decode b_C_find 47 = .ok (.iinc 2 1, 3) := by decide +kernel
theorem d_C_find_50 : decode b_C_find 50 = .ok (.goto (-38), 3) := by decide +kernel
theorem d_C_find_53 : decode b_C_find 53 = .ok (.return_, 1) := by decide +kernel
theorem d_C_measure_0 : decode b_C_measure 0 = .ok (.iconst 0, 1) := by decide +kernel
theorem d_C_measure_1 : decode b_C_measure 1 = .ok (.istore_n 2, 1) := by decide +kernel
theorem d_C_measure_2 : decode b_C_measure 2 = .ok (.iload_n 2, 1) := by decide +kernel
theorem d_C_measure_3 : decode b_C_measure 3 = .ok (.aload_n 0, 1) := by decide +kernel
theorem d_C_measure_4 : decode b_C_measure 4 = .ok (.getfield 31, 3) := by decide +kernel
theorem d_C_measure_7 : decode b_C_measure 7 = .ok (.if_icmp .ge 62, 3) := by decide +kernel
theorem d_C_measure_10 : decode b_C_measure 10 = .ok (.iconst 0, 1) := by decide +kernel
theorem d_C_measure_11 : decode b_C_measure 11 = .ok (.istore_n 3, 1) := by decide +kernel
theorem d_C_measure_12 : decode b_C_measure 12 = .ok (.aload_n 0, 1) := by decide +kernel
theorem d_C_measure_13 : decode b_C_measure 13 = .ok (.getfield 27, 3) := by decide +kernel
theorem d_C_measure_16 : decode b_C_measure 16 = .ok (.iconst 1, 1) := by decide +kernel
theorem d_C_measure_17 : decode b_C_measure 17 = .ok (.isub, 1) := by decide +kernel
theorem d_C_measure_18 : decode b_C_measure 18 = .ok (.istore 4, 2) := by decide +kernel
theorem d_C_measure_20 : decode b_C_measure 20 = .ok (.iload 4, 2) := by decide +kernel
theorem d_C_measure_22 : decode b_C_measure 22 = .ok (.ifCond .lt 41, 3) := by decide +kernel
theorem d_C_measure_25 : decode b_C_measure 25 = .ok (.iload_n 2, 1) := by decide +kernel
theorem d_C_measure_26 : decode b_C_measure 26 = .ok (.bipush 24, 2) := by decide +kernel
theorem d_C_measure_28 : decode b_C_measure 28 = .ok (.imul, 1) := by decide +kernel
theorem d_C_measure_29 : decode b_C_measure 29 = .ok (.iload 4, 2) := by decide +kernel
theorem d_C_measure_31 : decode b_C_measure 31 = .ok (.iadd, 1) := by decide +kernel
theorem d_C_measure_32 : decode b_C_measure 32 = .ok (.istore 5, 2) := by decide +kernel
theorem d_C_measure_34 : decode b_C_measure 34 = .ok (.aload_n 1, 1) := by decide +kernel
theorem d_C_measure_35 : decode b_C_measure 35 = .ok (.iload 5, 2) := by decide +kernel
theorem d_C_measure_37 : decode b_C_measure 37 = .ok (.baload, 1) := by decide +kernel
theorem d_C_measure_38 : decode b_C_measure 38 = .ok (.ifCond .eq 7, 3) := by decide +kernel
theorem d_C_measure_41 : decode b_C_measure 41 = .ok (.iconst 0, 1) := by decide +kernel
theorem d_C_measure_42 : decode b_C_measure 42 = .ok (.goto 6, 3) := by decide +kernel
theorem d_C_measure_45 : decode b_C_measure 45 = .ok (.iload_n 3, 1) := by decide +kernel
theorem d_C_measure_46 : decode b_C_measure 46 = .ok (.iconst 1, 1) := by decide +kernel
theorem d_C_measure_47 : decode b_C_measure 47 = .ok (.iadd, 1) := by decide +kernel
theorem d_C_measure_48 : decode b_C_measure 48 = .ok (.istore_n 3, 1) := by decide +kernel
theorem d_C_measure_49 : decode b_C_measure 49 = .ok (.aload_n 0, 1) := by decide +kernel
theorem d_C_measure_50 : decode b_C_measure 50 = .ok (.getfield 24, 3) := by decide +kernel
theorem d_C_measure_53 : decode b_C_measure 53 = .ok (.iload 5, 2) := by decide +kernel
theorem d_C_measure_55 : decode b_C_measure 55 = .ok (.iload_n 3, 1) := by decide +kernel
theorem d_C_measure_56 : decode b_C_measure 56 = .ok (.iastore, 1) := by decide +kernel
theorem d_C_measure_57 : decode b_C_measure 57 = .ok (.iinc 4 (-1), 3) := by decide +kernel
theorem d_C_measure_60 : decode b_C_measure 60 = .ok (.goto (-40), 3) := by decide +kernel
theorem d_C_measure_63 : decode b_C_measure 63 = .ok (.iinc 2 1, 3) := by decide +kernel
theorem d_C_measure_66 : decode b_C_measure 66 = .ok (.goto (-64), 3) := by decide +kernel
theorem d_C_measure_69 : decode b_C_measure 69 = .ok (.return_, 1) := by decide +kernel
theorem d_C_findGreatest_0 : decode b_C_findGreatest 0 = .ok (.aload_n 0, 1) := by decide +kernel
theorem d_C_findGreatest_1 : decode b_C_findGreatest 1 = .ok (.iconst 0, 1) := by decide +kernel
theorem d_C_findGreatest_2 : decode b_C_findGreatest 2 = .ok (.putfield 45, 3) := by decide +kernel
theorem d_C_findGreatest_5 : decode b_C_findGreatest 5 = .ok (.iconst 0, 1) := by decide +kernel
theorem d_C_findGreatest_6 : decode b_C_findGreatest 6 = .ok (.istore_n 2, 1) := by decide +kernel
theorem d_C_findGreatest_7 : decode b_C_findGreatest 7 = .ok (.iload_n 2, 1) := by decide +kernel
theorem d_C_findGreatest_8 : decode b_C_findGreatest 8 = .ok (.aload_n 0, 1) := by decide +kernel
theorem d_C_findGreatest_9 : decode b_C_findGreatest 9 = .ok (.getfield 31, 3) := by decide +kernel
theorem d_C_findGreatest_12 : decode b_C_findGreatest 12 = .ok (.if_icmp .ge 32, 3) := by decide +kernel
theorem d_C_findGreatest_15 : decode b_C_findGreatest 15 = .ok (.iconst 0, 1) := by decide +kernel
theorem d_C_findGreatest_16 : decode b_C_findGreatest 16 = .ok (.istore_n 3, 1) := by decide +kernel
theorem d_C_findGreatest_17 : decode b_C_findGreatest 17 = .ok (.iload_n 3, 1) := by decide +kernel
theorem d_C_findGreatest_18 : decode b_C_findGreatest 18 = .ok (.aload_n 0, 1) := by decide +kernel
theorem d_C_findGreatest_19 : decode b_C_findGreatest 19 = .ok (.getfield 27, 3) := by decide +kernel
theorem d_C_findGreatest_22 : decode b_C_findGreatest 22 = .ok (.if_icmp .ge 16, 3) := by decide +kernel
theorem d_C_findGreatest_25 : decode b_C_findGreatest 25 = .ok (.aload_n 0, 1) := by decide +kernel
theorem d_C_findGreatest_26 : decode b_C_findGreatest 26 = .ok (.iload_n 1, 1) := by decide +kernel
theorem d_C_findGreatest_27 : decode b_C_findGreatest 27 = .ok (.iload_n 3, 1) := by decide +kernel
theorem d_C_findGreatest_28 : decode b_C_findGreatest 28 = .ok (.iload_n 2, 1) := by decide +kernel
theorem d_C_findGreatest_29 : decode b_C_findGreatest 29 = .ok (.invokevirtual 51, 3) := by decide +kernel
theorem d_C_findGreatest_32 : decode b_C_findGreatest 32 = .ok (.iinc 3 1, 3) := by decide +kernel
theorem d_C_findGreatest_35 : decode b_C_findGreatest 35 = .ok (.goto (-18), 3) := by decide +kernel
theorem d_C_findGreatest_38 : decode b_C_findGreatest 38 = .ok (.iinc 2 1, 3) := by decide +kernel
theorem d_C_findGreatest_41 : decode b_C_findGreatest 41 = .ok (.goto (-34), 3) := by decide +kernel
theorem d_C_findGreatest_44 : decode b_C_findGreatest 44 = .ok (.return_, 1) := by decide +kernel
theorem d_C_growFrom_0 : decode b_C_growFrom 0 = .ok (.aload_n 0, 1) := by decide +kernel
theorem d_C_growFrom_1 : decode b_C_growFrom 1 = .ok (.getfield 27, 3) := by decide +kernel
theorem d_C_growFrom_4 : decode b_C_growFrom 4 = .ok (.iload_n 2, 1) := by decide +kernel
theorem d_C_growFrom_5 : decode b_C_growFrom 5 = .ok (.isub, 1) := by decide +kernel
theorem d_C_growFrom_6 : decode b_C_growFrom 6 = .ok (.istore 4, 2) := by decide +kernel
theorem d_C_growFrom_8 : decode b_C_growFrom 8 = .ok (.iconst 1, 1) := by decide +kernel
theorem d_C_growFrom_9 : decode b_C_growFrom 9 = .ok (.istore 5, 2) := by decide +kernel
theorem d_C_growFrom_11 : decode b_C_growFrom 11 = .ok (.iload 5, 2) := by decide +kernel
theorem d_C_growFrom_13 : decode b_C_growFrom 13 = .ok (.aload_n 0, 1) := by decide +kernel
theorem d_C_growFrom_14 : decode b_C_growFrom 14 = .ok (.getfield 31, 3) := by decide +kernel
theorem d_C_growFrom_17 : decode b_C_growFrom 17 = .ok (.iload_n 3, 1) := by decide +kernel
theorem d_C_growFrom_18 : decode b_C_growFrom 18 = .ok (.isub, 1) := by decide +kernel
theorem d_C_growFrom_19 : decode b_C_growFrom 19 = .ok (.if_icmp .gt 100, 3) := by decide +kernel
theorem d_C_growFrom_22 : decode b_C_growFrom 22 = .ok (.iload 4, 2) := by decide +kernel
theorem d_C_growFrom_24 : decode b_C_growFrom 24 = .ok (.aload_n 0, 1) := by decide +kernel
theorem d_C_growFrom_25 : decode b_C_growFrom 25 = .ok (.getfield 24, 3) := by decide +kernel
theorem d_C_growFrom_28 : decode b_C_growFrom 28 = .ok (.iload_n 3, 1) := by decide +kernel
theorem d_C_growFrom_29 : decode b_C_growFrom 29 = .ok (.iload 5, 2) := by decide +kernel
theorem d_C_growFrom_31 : decode b_C_growFrom 31 = .ok (.iadd, 1) := by decide +kernel
theorem d_C_growFrom_32 : decode b_C_growFrom 32 = .ok (.iconst 1, 1) := by decide +kernel
theorem d_C_growFrom_33 : decode b_C_growFrom 33 = .ok (.isub, 1) := by decide +kernel
theorem d_C_growFrom_34 : decode b_C_growFrom 34 = .ok (.bipush 24, 2) := by decide +kernel
theorem d_C_growFrom_36 : decode b_C_growFrom 36 = .ok (.imul, 1) := by decide +kernel
theorem d_C_growFrom_37 : decode b_C_growFrom 37 = .ok (.iload_n 2, 1) := by decide +kernel
theorem d_C_growFrom_38 : decode b_C_growFrom 38 = .ok (.iadd, 1) := by decide +kernel
theorem d_C_growFrom_39 : decode b_C_growFrom 39 = .ok (.iaload, 1) := by decide +kernel
theorem d_C_growFrom_40 : decode b_C_growFrom 40 = .ok (.invokestatic 55, 3) := by decide +kernel
theorem d_C_growFrom_43 : decode b_C_growFrom 43 = .ok (.istore 4, 2) := by decide +kernel
theorem d_C_growFrom_45 : decode b_C_growFrom 45 = .ok (.iload 4, 2) := by decide +kernel
theorem d_C_growFrom_47 : decode b_C_growFrom 47 = .ok (.aload_n 0, 1) := by decide +kernel
theorem d_C_growFrom_48 : decode b_C_growFrom 48 = .ok (.getfield 31, 3) := by decide +kernel
theorem d_C_growFrom_51 : decode b_C_growFrom 51 = .ok (.iload_n 3, 1) := by decide +kernel
theorem d_C_growFrom_52 : decode b_C_growFrom 52 = .ok (.isub, 1) := by decide +kernel
theorem d_C_growFrom_53 : decode b_C_growFrom 53 = .ok (.imul, 1) := by decide +kernel
theorem d_C_growFrom_54 : decode b_C_growFrom 54 = .ok (.aload_n 0, 1) := by decide +kernel
theorem d_C_growFrom_55 : decode b_C_growFrom 55 = .ok (.getfield 45, 3) := by decide +kernel
theorem d_C_growFrom_58 : decode b_C_growFrom 58 = .ok (.if_icmp .gt 4, 3) := by decide +kernel
theorem d_C_growFrom_61 : decode b_C_growFrom 61 = .ok (.return_, 1) := by decide +kernel
theorem d_C_growFrom_62 : decode b_C_growFrom 62 = .ok (.iload 4, 2) := by decide +kernel
theorem d_C_growFrom_64 : decode b_C_growFrom 64 = .ok (.iload 5, 2) := by decide +kernel
theorem d_C_growFrom_66 : decode b_C_growFrom 66 = .ok (.imul, 1) := by decide +kernel
theorem d_C_growFrom_67 : decode b_C_growFrom 67 = .ok (.aload_n 0, 1) := by decide +kernel
theorem d_C_growFrom_68 : decode b_C_growFrom 68 = .ok (.getfield 45, 3) := by decide +kernel
theorem d_C_growFrom_71 : decode b_C_growFrom 71 = .ok (.if_icmp .le 42, 3) := by decide +kernel
theorem d_C_growFrom_74 : decode b_C_growFrom 74 = .ok (.aload_n 0, 1) := by decide +kernel
theorem d_C_growFrom_75 : decode b_C_growFrom 75 = .ok (.iload 4, 2) := by decide +kernel
theorem d_C_growFrom_77 : decode b_C_growFrom 77 = .ok (.iload 5, 2) := by decide +kernel
theorem d_C_growFrom_79 : decode b_C_growFrom 79 = .ok (.imul, 1) := by decide +kernel
theorem d_C_growFrom_80 : decode b_C_growFrom 80 = .ok (.putfield 45, 3) := by decide +kernel
theorem d_C_growFrom_83 : decode b_C_growFrom 83 = .ok (.aload_n 0, 1) := by decide +kernel
theorem d_C_growFrom_84 : decode b_C_growFrom 84 = .ok (.getfield 9, 3) := by decide +kernel
theorem d_C_growFrom_87 : decode b_C_growFrom 87 = .ok (.iload_n 1, 1) := by decide +kernel
theorem d_C_growFrom_88 : decode b_C_growFrom 88 = .ok (.iload_n 2, 1) := by decide +kernel
theorem d_C_growFrom_89 : decode b_C_growFrom 89 = .ok (.iastore, 1) := by decide +kernel
theorem d_C_growFrom_90 : decode b_C_growFrom 90 = .ok (.aload_n 0, 1) := by decide +kernel
theorem d_C_growFrom_91 : decode b_C_growFrom 91 = .ok (.getfield 15, 3) := by decide +kernel
theorem d_C_growFrom_94 : decode b_C_growFrom 94 = .ok (.iload_n 1, 1) := by decide +kernel
theorem d_C_growFrom_95 : decode b_C_growFrom 95 = .ok (.iload_n 3, 1) := by decide +kernel
theorem d_C_growFrom_96 : decode b_C_growFrom 96 = .ok (.iastore, 1) := by decide +kernel
theorem d_C_growFrom_97 : decode b_C_growFrom 97 = .ok (.aload_n 0, 1) := by decide +kernel
theorem d_C_growFrom_98 : decode b_C_growFrom 98 = .ok (.getfield 18, 3) := by decide +kernel
theorem d_C_growFrom_101 : decode b_C_growFrom 101 = .ok (.iload_n 1, 1) := by decide +kernel
theorem d_C_growFrom_102 : decode b_C_growFrom 102 = .ok (.iload 4, 2) := by decide +kernel
theorem d_C_growFrom_104 : decode b_C_growFrom 104 = .ok (.iastore, 1) := by decide +kernel
theorem d_C_growFrom_105 : decode b_C_growFrom 105 = .ok (.aload_n 0, 1) := by decide +kernel
theorem d_C_growFrom_106 : decode b_C_growFrom 106 = .ok (.getfield 21, 3) := by decide +kernel
theorem d_C_growFrom_109 : decode b_C_growFrom 109 = .ok (.iload_n 1, 1) := by decide +kernel
theorem d_C_growFrom_110 : decode b_C_growFrom 110 = .ok (.iload 5, 2) := by decide +kernel
theorem d_C_growFrom_112 : decode b_C_growFrom 112 = .ok (.iastore, 1) := by decide +kernel
theorem d_C_growFrom_113 : decode b_C_growFrom 113 = .ok (.iinc 5 1, 3) := by decide +kernel
theorem d_C_growFrom_116 : decode b_C_growFrom 116 = .ok (.goto (-105), 3) := by decide +kernel
theorem d_C_growFrom_119 : decode b_C_growFrom 119 = .ok (.return_, 1) := by decide +kernel
theorem d_C_block_0 : decode b_C_block 0 = .ok (.aload_n 0, 1) := by decide +kernel
theorem d_C_block_1 : decode b_C_block 1 = .ok (.getfield 9, 3) := by decide +kernel
theorem d_C_block_4 : decode b_C_block 4 = .ok (.iload_n 1, 1) := by decide +kernel
theorem d_C_block_5 : decode b_C_block 5 = .ok (.iaload, 1) := by decide +kernel
theorem d_C_block_6 : decode b_C_block 6 = .ok (.aload_n 0, 1) := by decide +kernel
theorem d_C_block_7 : decode b_C_block 7 = .ok (.getfield 18, 3) := by decide +kernel
theorem d_C_block_10 : decode b_C_block 10 = .ok (.iload_n 1, 1) := by decide +kernel
theorem d_C_block_11 : decode b_C_block 11 = .ok (.iaload, 1) := by decide +kernel
theorem d_C_block_12 : decode b_C_block 12 = .ok (.iadd, 1) := by decide +kernel
theorem d_C_block_13 : decode b_C_block 13 = .ok (.istore_n 2, 1) := by decide +kernel
theorem d_C_block_14 : decode b_C_block 14 = .ok (.aload_n 0, 1) := by decide +kernel
theorem d_C_block_15 : decode b_C_block 15 = .ok (.getfield 15, 3) := by decide +kernel
theorem d_C_block_18 : decode b_C_block 18 = .ok (.iload_n 1, 1) := by decide +kernel
theorem d_C_block_19 : decode b_C_block 19 = .ok (.iaload, 1) := by decide +kernel
theorem d_C_block_20 : decode b_C_block 20 = .ok (.istore_n 3, 1) := by decide +kernel
theorem d_C_block_21 : decode b_C_block 21 = .ok (.iload_n 3, 1) := by decide +kernel
theorem d_C_block_22 : decode b_C_block 22 = .ok (.aload_n 0, 1) := by decide +kernel
theorem d_C_block_23 : decode b_C_block 23 = .ok (.getfield 15, 3) := by decide +kernel
theorem d_C_block_26 : decode b_C_block 26 = .ok (.iload_n 1, 1) := by decide +kernel
theorem d_C_block_27 : decode b_C_block 27 = .ok (.iaload, 1) := by decide +kernel
theorem d_C_block_28 : decode b_C_block 28 = .ok (.aload_n 0, 1) := by decide +kernel
theorem d_C_block_29 : decode b_C_block 29 = .ok (.getfield 21, 3) := by decide +kernel
theorem d_C_block_32 : decode b_C_block 32 = .ok (.iload_n 1, 1) := by decide +kernel
theorem d_C_block_33 : decode b_C_block 33 = .ok (.iaload, 1) := by decide +kernel
theorem d_C_block_34 : decode b_C_block 34 = .ok (.iadd, 1) := by decide +kernel
theorem d_C_block_35 : decode b_C_block 35 = .ok (.if_icmp .ge 53, 3) := by decide +kernel
theorem d_C_block_38 : decode b_C_block 38 = .ok (.aload_n 0, 1) := by decide +kernel
theorem d_C_block_39 : decode b_C_block 39 = .ok (.getfield 9, 3) := by decide +kernel
theorem d_C_block_42 : decode b_C_block 42 = .ok (.iload_n 1, 1) := by decide +kernel
theorem d_C_block_43 : decode b_C_block 43 = .ok (.iaload, 1) := by decide +kernel
theorem d_C_block_44 : decode b_C_block 44 = .ok (.istore 4, 2) := by decide +kernel
theorem d_C_block_46 : decode b_C_block 46 = .ok (.iload 4, 2) := by decide +kernel
theorem d_C_block_48 : decode b_C_block 48 = .ok (.iload_n 2, 1) := by decide +kernel
theorem d_C_block_49 : decode b_C_block 49 = .ok (.if_icmp .ge 22, 3) := by decide +kernel
theorem d_C_block_52 : decode b_C_block 52 = .ok (.aload_n 0, 1) := by decide +kernel
theorem d_C_block_53 : decode b_C_block 53 = .ok (.getfield 24, 3) := by decide +kernel
theorem d_C_block_56 : decode b_C_block 56 = .ok (.iload_n 3, 1) := by decide +kernel
theorem d_C_block_57 : decode b_C_block 57 = .ok (.bipush 24, 2) := by decide +kernel
theorem d_C_block_59 : decode b_C_block 59 = .ok (.imul, 1) := by decide +kernel
theorem d_C_block_60 : decode b_C_block 60 = .ok (.iload 4, 2) := by decide +kernel
theorem d_C_block_62 : decode b_C_block 62 = .ok (.iadd, 1) := by decide +kernel
theorem d_C_block_63 : decode b_C_block 63 = .ok (.iconst 0, 1) := by decide +kernel
theorem d_C_block_64 : decode b_C_block 64 = .ok (.iastore, 1) := by decide +kernel
theorem d_C_block_65 : decode b_C_block 65 = .ok (.iinc 4 1, 3) := by decide +kernel
theorem d_C_block_68 : decode b_C_block 68 = .ok (.goto (-22), 3) := by decide +kernel
theorem d_C_block_71 : decode b_C_block 71 = .ok (.aload_n 0, 1) := by decide +kernel
theorem d_C_block_72 : decode b_C_block 72 = .ok (.aload_n 0, 1) := by decide +kernel
theorem d_C_block_73 : decode b_C_block 73 = .ok (.getfield 9, 3) := by decide +kernel
theorem d_C_block_76 : decode b_C_block 76 = .ok (.iload_n 1, 1) := by decide +kernel
theorem d_C_block_77 : decode b_C_block 77 = .ok (.iaload, 1) := by decide +kernel
theorem d_C_block_78 : decode b_C_block 78 = .ok (.iload_n 3, 1) := by decide +kernel
theorem d_C_block_79 : decode b_C_block 79 = .ok (.invokevirtual 61, 3) := by decide +kernel
theorem d_C_block_82 : decode b_C_block 82 = .ok (.iinc 3 1, 3) := by decide +kernel
theorem d_C_block_85 : decode b_C_block 85 = .ok (.goto (-64), 3) := by decide +kernel
theorem d_C_block_88 : decode b_C_block 88 = .ok (.return_, 1) := by decide +kernel
theorem d_C_shortenBefore_0 : decode b_C_shortenBefore 0 = .ok (.iload_n 1, 1) := by decide +kernel
theorem d_C_shortenBefore_1 : decode b_C_shortenBefore 1 = .ok (.iconst 1, 1) := by decide +kernel
theorem d_C_shortenBefore_2 : decode b_C_shortenBefore 2 = .ok (.isub, 1) := by decide +kernel
theorem d_C_shortenBefore_3 : decode b_C_shortenBefore 3 = .ok (.istore_n 3, 1) := by decide +kernel
theorem d_C_shortenBefore_4 : decode b_C_shortenBefore 4 = .ok (.iload_n 3, 1) := by decide +kernel
theorem d_C_shortenBefore_5 : decode b_C_shortenBefore 5 = .ok (.ifCond .lt 37, 3) := by decide +kernel
theorem d_C_shortenBefore_8 : decode b_C_shortenBefore 8 = .ok (.iload_n 2, 1) := by decide +kernel
theorem d_C_shortenBefore_9 : decode b_C_shortenBefore 9 = .ok (.bipush 24, 2) := by decide +kernel
theorem d_C_shortenBefore_11 : decode b_C_shortenBefore 11 = .ok (.imul, 1) := by decide +kernel
theorem d_C_shortenBefore_12 : decode b_C_shortenBefore 12 = .ok (.iload_n 3, 1) := by decide +kernel
theorem d_C_shortenBefore_13 : decode b_C_shortenBefore 13 = .ok (.iadd, 1) := by decide +kernel
theorem d_C_shortenBefore_14 : decode b_C_shortenBefore 14 = .ok (.istore 4, 2) := by decide +kernel
theorem d_C_shortenBefore_16 : decode b_C_shortenBefore 16 = .ok (.aload_n 0, 1) := by decide +kernel
theorem d_C_shortenBefore_17 : decode b_C_shortenBefore 17 = .ok (.getfield 24, 3) := by decide +kernel
theorem d_C_shortenBefore_20 : decode b_C_shortenBefore 20 = .ok (.iload 4, 2) := by decide +kernel
theorem d_C_shortenBefore_22 : decode b_C_shortenBefore 22 = .ok (.aload_n 0, 1) := by decide +kernel
theorem d_C_shortenBefore_23 : decode b_C_shortenBefore 23 = .ok (.getfield 24, 3) := by decide +kernel
theorem d_C_shortenBefore_26 : decode b_C_shortenBefore 26 = .ok (.iload 4, 2) := by decide +kernel
theorem d_C_shortenBefore_28 : decode b_C_shortenBefore 28 = .ok (.iaload, 1) := by decide +kernel
theorem d_C_shortenBefore_29 : decode b_C_shortenBefore 29 = .ok (.iload_n 1, 1) := by decide +kernel
theorem d_C_shortenBefore_30 : decode b_C_shortenBefore 30 = .ok (.iload_n 3, 1) := by decide +kernel
theorem d_C_shortenBefore_31 : decode b_C_shortenBefore 31 = .ok (.isub, 1) := by decide +kernel
theorem d_C_shortenBefore_32 : decode b_C_shortenBefore 32 = .ok (.invokestatic 55, 3) := by decide +kernel
theorem d_C_shortenBefore_35 : decode b_C_shortenBefore 35 = .ok (.iastore, 1) := by decide +kernel
theorem d_C_shortenBefore_36 : decode b_C_shortenBefore 36 = .ok (.iinc 3 (-1), 3) := by decide +kernel
theorem d_C_shortenBefore_39 : decode b_C_shortenBefore 39 = .ok (.goto (-35), 3) := by decide +kernel
theorem d_C_shortenBefore_42 : decode b_C_shortenBefore 42 = .ok (.return_, 1) := by decide +kernel
