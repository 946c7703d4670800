/-! What stands at each place of the code. -/
theorem d_Pile_init_0 : decode b_Pile_init 0 = .ok (.aload_n 0, 1) := by decide +kernel
theorem d_Pile_init_1 : decode b_Pile_init 1 = .ok (.invokespecial 3, 3) := by decide +kernel
theorem d_Pile_init_4 : decode b_Pile_init 4 = .ok (.aload_n 0, 1) := by decide +kernel
theorem d_Pile_init_5 : decode b_Pile_init 5 = .ok (.bipush 40, 2) := by decide +kernel
theorem d_Pile_init_7 : decode b_Pile_init 7 = .ok (.newarray .int, 2) := by decide +kernel
theorem d_Pile_init_9 : decode b_Pile_init 9 = .ok (.putfield 9, 3) := by decide +kernel
theorem d_Pile_init_12 : decode b_Pile_init 12 = .ok (.aload_n 0, 1) := by decide +kernel
theorem d_Pile_init_13 : decode b_Pile_init 13 = .ok (.bipush 40, 2) := by decide +kernel
theorem d_Pile_init_15 : decode b_Pile_init 15 = .ok (.newarray .int, 2) := by decide +kernel
theorem d_Pile_init_17 : decode b_Pile_init 17 = .ok (.putfield 15, 3) := by decide +kernel
theorem d_Pile_init_20 : decode b_Pile_init 20 = .ok (.aload_n 0, 1) := by decide +kernel
theorem d_Pile_init_21 : decode b_Pile_init 21 = .ok (.bipush 40, 2) := by decide +kernel
theorem d_Pile_init_23 : decode b_Pile_init 23 = .ok (.newarray .int, 2) := by decide +kernel
theorem d_Pile_init_25 : decode b_Pile_init 25 = .ok (.putfield 18, 3) := by decide +kernel
theorem d_Pile_init_28 : decode b_Pile_init 28 = .ok (.aload_n 0, 1) := by decide +kernel
theorem d_Pile_init_29 : decode b_Pile_init 29 = .ok (.bipush 40, 2) := by decide +kernel
theorem d_Pile_init_31 : decode b_Pile_init 31 = .ok (.newarray .int, 2) := by decide +kernel
theorem d_Pile_init_33 : decode b_Pile_init 33 = .ok (.putfield 21, 3) := by decide +kernel
theorem d_Pile_init_36 : decode b_Pile_init 36 = .ok (.aload_n 0, 1) := by decide +kernel
theorem d_Pile_init_37 : decode b_Pile_init 37 = .ok (.bipush 40, 2) := by decide +kernel
theorem d_Pile_init_39 : decode b_Pile_init 39 = .ok (.newarray .int, 2) := by decide +kernel
theorem d_Pile_init_41 : decode b_Pile_init 41 = .ok (.putfield 24, 3) := by decide +kernel
theorem d_Pile_init_44 : decode b_Pile_init 44 = .ok (.aload_n 0, 1) := by decide +kernel
theorem d_Pile_init_45 : decode b_Pile_init 45 = .ok (.bipush 40, 2) := by decide +kernel
theorem d_Pile_init_47 : decode b_Pile_init 47 = .ok (.anewarray 27, 3) := by decide +kernel
theorem d_Pile_init_50 : decode b_Pile_init 50 = .ok (.putfield 29, 3) := by decide +kernel
theorem d_Pile_init_53 : decode b_Pile_init 53 = .ok (.aload_n 0, 1) := by decide +kernel
theorem d_Pile_init_54 : decode b_Pile_init 54 = .ok (.new 27, 3) := by decide +kernel
theorem d_Pile_init_57 : decode b_Pile_init 57 = .ok (.dup, 1) := by decide +kernel
theorem d_Pile_init_58 : decode b_Pile_init 58 = .ok (.invokespecial 33, 3) := by decide +kernel
theorem d_Pile_init_61 : decode b_Pile_init 61 = .ok (.putfield 34, 3) := by decide +kernel
theorem d_Pile_init_64 : decode b_Pile_init 64 = .ok (.iconst 0, 1) := by decide +kernel
theorem d_Pile_init_65 : decode b_Pile_init 65 = .ok (.istore_n 1, 1) := by decide +kernel
theorem d_Pile_init_66 : decode b_Pile_init 66 = .ok (.iload_n 1, 1) := by decide +kernel
theorem d_Pile_init_67 : decode b_Pile_init 67 = .ok (.aload_n 0, 1) := by decide +kernel
theorem d_Pile_init_68 : decode b_Pile_init 68 = .ok (.getfield 29, 3) := by decide +kernel
theorem d_Pile_init_71 : decode b_Pile_init 71 = .ok (.arraylength, 1) := by decide +kernel
theorem d_Pile_init_72 : decode b_Pile_init 72 = .ok (.if_icmp .ge 22, 3) := by decide +kernel
theorem d_Pile_init_75 : decode b_Pile_init 75 = .ok (.aload_n 0, 1) := by decide +kernel
theorem d_Pile_init_76 : decode b_Pile_init 76 = .ok (.getfield 29, 3) := by decide +kernel
theorem d_Pile_init_79 : decode b_Pile_init 79 = .ok (.iload_n 1, 1) := by decide +kernel
theorem d_Pile_init_80 : decode b_Pile_init 80 = .ok (.new 27, 3) := by decide +kernel
theorem d_Pile_init_83 : decode b_Pile_init 83 = .ok (.dup, 1) := by decide +kernel
theorem d_Pile_init_84 : decode b_Pile_init 84 = .ok (.invokespecial 33, 3) := by decide +kernel
theorem d_Pile_init_87 : decode b_Pile_init 87 = .ok (.aastore, 1) := by decide +kernel
theorem d_Pile_init_88 : decode b_Pile_init 88 = .ok (.iinc 1 1, 3) := by decide +kernel
theorem d_Pile_init_91 : decode b_Pile_init 91 = .ok (.goto (-25), 3) := by decide +kernel
theorem d_Pile_init_94 : decode b_Pile_init 94 = .ok (.return_, 1) := by decide +kernel
theorem d_Code_init_0 : decode b_Code_init 0 = .ok (.aload_n 0, 1) := by decide +kernel
theorem d_Code_init_1 : decode b_Code_init 1 = .ok (.invokespecial 3, 3) := by decide +kernel
theorem d_Code_init_4 : decode b_Code_init 4 = .ok (.aload_n 0, 1) := by decide +kernel
theorem d_Code_init_5 : decode b_Code_init 5 = .ok (.sipush 160, 3) := by decide +kernel
theorem d_Code_init_8 : decode b_Code_init 8 = .ok (.newarray .int, 2) := by decide +kernel
theorem d_Code_init_10 : decode b_Code_init 10 = .ok (.putfield 9, 3) := by decide +kernel
theorem d_Code_init_13 : decode b_Code_init 13 = .ok (.aload_n 0, 1) := by decide +kernel
theorem d_Code_init_14 : decode b_Code_init 14 = .ok (.sipush 160, 3) := by decide +kernel
theorem d_Code_init_17 : decode b_Code_init 17 = .ok (.newarray .int, 2) := by decide +kernel
theorem d_Code_init_19 : decode b_Code_init 19 = .ok (.putfield 15, 3) := by decide +kernel
theorem d_Code_init_22 : decode b_Code_init 22 = .ok (.aload_n 0, 1) := by decide +kernel
theorem d_Code_init_23 : decode b_Code_init 23 = .ok (.sipush 160, 3) := by decide +kernel
theorem d_Code_init_26 : decode b_Code_init 26 = .ok (.newarray .int, 2) := by decide +kernel
theorem d_Code_init_28 : decode b_Code_init 28 = .ok (.putfield 18, 3) := by decide +kernel
theorem d_Code_init_31 : decode b_Code_init 31 = .ok (.aload_n 0, 1) := by decide +kernel
theorem d_Code_init_32 : decode b_Code_init 32 = .ok (.sipush 160, 3) := by decide +kernel
theorem d_Code_init_35 : decode b_Code_init 35 = .ok (.newarray .int, 2) := by decide +kernel
theorem d_Code_init_37 : decode b_Code_init 37 = .ok (.putfield 21, 3) := by decide +kernel
theorem d_Code_init_40 : decode b_Code_init 40 = .ok (.aload_n 0, 1) := by decide +kernel
theorem d_Code_init_41 : decode b_Code_init 41 = .ok (.sipush 160, 3) := by decide +kernel
theorem d_Code_init_44 : decode b_Code_init 44 = .ok (.newarray .int, 2) := by decide +kernel
theorem d_Code_init_46 : decode b_Code_init 46 = .ok (.putfield 24, 3) := by decide +kernel
theorem d_Code_init_49 : decode b_Code_init 49 = .ok (.aload_n 0, 1) := by decide +kernel
theorem d_Code_init_50 : decode b_Code_init 50 = .ok (.sipush 160, 3) := by decide +kernel
theorem d_Code_init_53 : decode b_Code_init 53 = .ok (.newarray .int, 2) := by decide +kernel
theorem d_Code_init_55 : decode b_Code_init 55 = .ok (.putfield 27, 3) := by decide +kernel
theorem d_Code_init_58 : decode b_Code_init 58 = .ok (.aload_n 0, 1) := by decide +kernel
theorem d_Code_init_59 : decode b_Code_init 59 = .ok (.sipush 160, 3) := by decide +kernel
theorem d_Code_init_62 : decode b_Code_init 62 = .ok (.newarray .int, 2) := by decide +kernel
theorem d_Code_init_64 : decode b_Code_init 64 = .ok (.putfield 30, 3) := by decide +kernel
theorem d_Code_init_67 : decode b_Code_init 67 = .ok (.aload_n 0, 1) := by decide +kernel
theorem d_Code_init_68 : decode b_Code_init 68 = .ok (.sipush 160, 3) := by decide +kernel
theorem d_Code_init_71 : decode b_Code_init 71 = .ok (.newarray .int, 2) := by decide +kernel
theorem d_Code_init_73 : decode b_Code_init 73 = .ok (.putfield 33, 3) := by decide +kernel
theorem d_Code_init_76 : decode b_Code_init 76 = .ok (.aload_n 0, 1) := by decide +kernel
theorem d_Code_init_77 : decode b_Code_init 77 = .ok (.sipush 164, 3) := by decide +kernel
theorem d_Code_init_80 : decode b_Code_init 80 = .ok (.newarray .int, 2) := by decide +kernel
theorem d_Code_init_82 : decode b_Code_init 82 = .ok (.putfield 36, 3) := by decide +kernel
theorem d_Code_init_85 : decode b_Code_init 85 = .ok (.aload_n 0, 1) := by decide +kernel
theorem d_Code_init_86 : decode b_Code_init 86 = .ok (.iconst 4, 1) := by decide +kernel
theorem d_Code_init_87 : decode b_Code_init 87 = .ok (.newarray .int, 2) := by decide +kernel
theorem d_Code_init_89 : decode b_Code_init 89 = .ok (.putfield 39, 3) := by decide +kernel
theorem d_Code_init_92 : decode b_Code_init 92 = .ok (.aload_n 0, 1) := by decide +kernel
theorem d_Code_init_93 : decode b_Code_init 93 = .ok (.bipush 40, 2) := by decide +kernel
theorem d_Code_init_95 : decode b_Code_init 95 = .ok (.newarray .int, 2) := by decide +kernel
theorem d_Code_init_97 : decode b_Code_init 97 = .ok (.putfield 42, 3) := by decide +kernel
theorem d_Code_init_100 : decode b_Code_init 100 = .ok (.aload_n 0, 1) := by decide +kernel
theorem d_Code_init_101 : decode b_Code_init 101 = .ok (.bipush 40, 2) := by decide +kernel
theorem d_Code_init_103 : decode b_Code_init 103 = .ok (.newarray .int, 2) := by decide +kernel
theorem d_Code_init_105 : decode b_Code_init 105 = .ok (.putfield 45, 3) := by decide +kernel
theorem d_Code_init_108 : decode b_Code_init 108 = .ok (.aload_n 0, 1) := by decide +kernel
theorem d_Code_init_109 : decode b_Code_init 109 = .ok (.iconst 4, 1) := by decide +kernel
theorem d_Code_init_110 : decode b_Code_init 110 = .ok (.newarray .int, 2) := by decide +kernel
theorem d_Code_init_112 : decode b_Code_init 112 = .ok (.putfield 48, 3) := by decide +kernel
theorem d_Code_init_115 : decode b_Code_init 115 = .ok (.return_, 1) := by decide +kernel
theorem d_Pile_heightOfNew_0 : decode b_Pile_heightOfNew 0 = .ok (.getstatic 49, 3) := by decide +kernel
theorem d_Pile_heightOfNew_3 : decode b_Pile_heightOfNew 3 = .ok (.iload_n 1, 1) := by decide +kernel
theorem d_Pile_heightOfNew_4 : decode b_Pile_heightOfNew 4 = .ok (.iaload, 1) := by decide +kernel
theorem d_Pile_heightOfNew_5 : decode b_Pile_heightOfNew 5 = .ok (.ifCond .ne 5, 3) := by decide +kernel
theorem d_Pile_heightOfNew_8 : decode b_Pile_heightOfNew 8 = .ok (.iconst 1, 1) := by decide +kernel
theorem d_Pile_heightOfNew_9 : decode b_Pile_heightOfNew 9 = .ok (.ireturn, 1) := by decide +kernel
theorem d_Pile_heightOfNew_10 : decode b_Pile_heightOfNew 10 = .ok (.iconst 1, 1) := by decide +kernel
theorem d_Pile_heightOfNew_11 : decode b_Pile_heightOfNew 11 = .ok (.aload_n 0, 1) := by decide +kernel
theorem d_Pile_heightOfNew_12 : decode b_Pile_heightOfNew 12 = .ok (.getfield 21, 3) := by decide +kernel
theorem d_Pile_heightOfNew_15 : decode b_Pile_heightOfNew 15 = .ok (.aload_n 0, 1) := by decide +kernel
theorem d_Pile_heightOfNew_16 : decode b_Pile_heightOfNew 16 = .ok (.aload_n 0, 1) := by decide +kernel
theorem d_Pile_heightOfNew_17 : decode b_Pile_heightOfNew 17 = .ok (.getfield 42, 3) := by decide +kernel
theorem d_Pile_heightOfNew_20 : decode b_Pile_heightOfNew 20 = .ok (.iload_n 1, 1) := by decide +kernel
theorem d_Pile_heightOfNew_21 : decode b_Pile_heightOfNew 21 = .ok (.invokevirtual 52, 3) := by decide +kernel
theorem d_Pile_heightOfNew_24 : decode b_Pile_heightOfNew 24 = .ok (.iaload, 1) := by decide +kernel
theorem d_Pile_heightOfNew_25 : decode b_Pile_heightOfNew 25 = .ok (.aload_n 0, 1) := by decide +kernel
theorem d_Pile_heightOfNew_26 : decode b_Pile_heightOfNew 26 = .ok (.getfield 21, 3) := by decide +kernel
theorem d_Pile_heightOfNew_29 : decode b_Pile_heightOfNew 29 = .ok (.aload_n 0, 1) := by decide +kernel
theorem d_Pile_heightOfNew_30 : decode b_Pile_heightOfNew 30 = .ok (.getfield 42, 3) := by decide +kernel
theorem d_Pile_heightOfNew_33 : decode b_Pile_heightOfNew 33 = .ok (.iconst 1, 1) := by decide +kernel
theorem d_Pile_heightOfNew_34 : decode b_Pile_heightOfNew 34 = .ok (.isub, 1) := by decide +kernel
theorem d_Pile_heightOfNew_35 : decode b_Pile_heightOfNew 35 = .ok (.iaload, 1) := by decide +kernel
theorem d_Pile_heightOfNew_36 : decode b_Pile_heightOfNew 36 = .ok (.invokestatic 56, 3) := by decide +kernel
theorem d_Pile_heightOfNew_39 : decode b_Pile_heightOfNew 39 = .ok (.iadd, 1) := by decide +kernel
theorem d_Pile_heightOfNew_40 : decode b_Pile_heightOfNew 40 = .ok (.ireturn, 1) := by decide +kernel
theorem d_Pile_firstKid_0 : decode b_Pile_firstKid 0 = .ok (.getstatic 49, 3) := by decide +kernel
theorem d_Pile_firstKid_3 : decode b_Pile_firstKid 3 = .ok (.iload_n 2, 1) := by decide +kernel
theorem d_Pile_firstKid_4 : decode b_Pile_firstKid 4 = .ok (.iaload, 1) := by decide +kernel
theorem d_Pile_firstKid_5 : decode b_Pile_firstKid 5 = .ok (.iconst 2, 1) := by decide +kernel
theorem d_Pile_firstKid_6 : decode b_Pile_firstKid 6 = .ok (.if_icmp .ne 18, 3) := by decide +kernel
theorem d_Pile_firstKid_9 : decode b_Pile_firstKid 9 = .ok (.iload_n 1, 1) := by decide +kernel
theorem d_Pile_firstKid_10 : decode b_Pile_firstKid 10 = .ok (.iconst 1, 1) := by decide +kernel
theorem d_Pile_firstKid_11 : decode b_Pile_firstKid 11 = .ok (.isub, 1) := by decide +kernel
theorem d_Pile_firstKid_12 : decode b_Pile_firstKid 12 = .ok (.aload_n 0, 1) := by decide +kernel
theorem d_Pile_firstKid_13 : decode b_Pile_firstKid 13 = .ok (.getfield 18, 3) := by decide +kernel
theorem d_Pile_firstKid_16 : decode b_Pile_firstKid 16 = .ok (.iload_n 1, 1) := by decide +kernel
theorem d_Pile_firstKid_17 : decode b_Pile_firstKid 17 = .ok (.iconst 1, 1) := by decide +kernel
theorem d_Pile_firstKid_18 : decode b_Pile_firstKid 18 = .ok (.isub, 1) := by decide +kernel
theorem d_Pile_firstKid_19 : decode b_Pile_firstKid 19 = .ok (.iaload, 1) := by decide +kernel
theorem d_Pile_firstKid_20 : decode b_Pile_firstKid 20 = .ok (.isub, 1) := by decide +kernel
theorem d_Pile_firstKid_21 : decode b_Pile_firstKid 21 = .ok (.goto 6, 3) := by decide +kernel
theorem d_Pile_firstKid_24 : decode b_Pile_firstKid 24 = .ok (.iload_n 1, 1) := by decide +kernel
theorem d_Pile_firstKid_25 : decode b_Pile_firstKid 25 = .ok (.iconst 1, 1) := by decide +kernel
theorem d_Pile_firstKid_26 : decode b_Pile_firstKid 26 = .ok (.isub, 1) := by decide +kernel
theorem d_Pile_firstKid_27 : decode b_Pile_firstKid 27 = .ok (.ireturn, 1) := by decide +kernel
theorem d_Pile_add_0 : decode b_Pile_add 0 = .ok (.iconst 1, 1) := by decide +kernel
theorem d_Pile_add_1 : decode b_Pile_add 1 = .ok (.istore_n 3, 1) := by decide +kernel
theorem d_Pile_add_2 : decode b_Pile_add 2 = .ok (.getstatic 49, 3) := by decide +kernel
theorem d_Pile_add_5 : decode b_Pile_add 5 = .ok (.iload_n 1, 1) := by decide +kernel
theorem d_Pile_add_6 : decode b_Pile_add 6 = .ok (.iaload, 1) := by decide +kernel
theorem d_Pile_add_7 : decode b_Pile_add 7 = .ok (.iconst 1, 1) := by decide +kernel
theorem d_Pile_add_8 : decode b_Pile_add 8 = .ok (.if_icmp .lt 34, 3) := by decide +kernel
theorem d_Pile_add_11 : decode b_Pile_add 11 = .ok (.aload_n 0, 1) := by decide +kernel
theorem d_Pile_add_12 : decode b_Pile_add 12 = .ok (.aload_n 0, 1) := by decide +kernel
theorem d_Pile_add_13 : decode b_Pile_add 13 = .ok (.getfield 42, 3) := by decide +kernel
theorem d_Pile_add_16 : decode b_Pile_add 16 = .ok (.iload_n 1, 1) := by decide +kernel
theorem d_Pile_add_17 : decode b_Pile_add 17 = .ok (.invokevirtual 52, 3) := by decide +kernel
theorem d_Pile_add_20 : decode b_Pile_add 20 = .ok (.istore 4, 2) := by decide +kernel
theorem d_Pile_add_22 : decode b_Pile_add 22 = .ok (.iload_n 3, 1) := by decide +kernel
theorem d_Pile_add_23 : decode b_Pile_add 23 = .ok (.aload_n 0, 1) := by decide +kernel
theorem d_Pile_add_24 : decode b_Pile_add 24 = .ok (.getfield 42, 3) := by decide +kernel
theorem d_Pile_add_27 : decode b_Pile_add 27 = .ok (.iload 4, 2) := by decide +kernel
theorem d_Pile_add_29 : decode b_Pile_add 29 = .ok (.isub, 1) := by decide +kernel
theorem d_Pile_add_30 : decode b_Pile_add 30 = .ok (.iconst 1, 1) := by decide +kernel
theorem d_Pile_add_31 : decode b_Pile_add 31 = .ok (.isub, 1) := by decide +kernel
theorem d_Pile_add_32 : decode b_Pile_add 32 = .ok (.aload_n 0, 1) := by decide +kernel
theorem d_Pile_add_33 : decode b_Pile_add 33 = .ok (.getfield 18, 3) := by decide +kernel
theorem d_Pile_add_36 : decode b_Pile_add 36 = .ok (.iload 4, 2) := by decide +kernel
theorem d_Pile_add_38 : decode b_Pile_add 38 = .ok (.iaload, 1) := by decide +kernel
theorem d_Pile_add_39 : decode b_Pile_add 39 = .ok (.iadd, 1) := by decide +kernel
theorem d_Pile_add_40 : decode b_Pile_add 40 = .ok (.iadd, 1) := by decide +kernel
theorem d_Pile_add_41 : decode b_Pile_add 41 = .ok (.istore_n 3, 1) := by decide +kernel
theorem d_Pile_add_42 : decode b_Pile_add 42 = .ok (.aload_n 0, 1) := by decide +kernel
theorem d_Pile_add_43 : decode b_Pile_add 43 = .ok (.getfield 21, 3) := by decide +kernel
theorem d_Pile_add_46 : decode b_Pile_add 46 = .ok (.aload_n 0, 1) := by decide +kernel
theorem d_Pile_add_47 : decode b_Pile_add 47 = .ok (.getfield 42, 3) := by decide +kernel
theorem d_Pile_add_50 : decode b_Pile_add 50 = .ok (.aload_n 0, 1) := by decide +kernel
theorem d_Pile_add_51 : decode b_Pile_add 51 = .ok (.iload_n 1, 1) := by decide +kernel
theorem d_Pile_add_52 : decode b_Pile_add 52 = .ok (.invokevirtual 61, 3) := by decide +kernel
theorem d_Pile_add_55 : decode b_Pile_add 55 = .ok (.iastore, 1) := by decide +kernel
theorem d_Pile_add_56 : decode b_Pile_add 56 = .ok (.aload_n 0, 1) := by decide +kernel
theorem d_Pile_add_57 : decode b_Pile_add 57 = .ok (.getfield 18, 3) := by decide +kernel
theorem d_Pile_add_60 : decode b_Pile_add 60 = .ok (.aload_n 0, 1) := by decide +kernel
theorem d_Pile_add_61 : decode b_Pile_add 61 = .ok (.getfield 42, 3) := by decide +kernel
theorem d_Pile_add_64 : decode b_Pile_add 64 = .ok (.iload_n 3, 1) := by decide +kernel
theorem d_Pile_add_65 : decode b_Pile_add 65 = .ok (.iastore, 1) := by decide +kernel
theorem d_Pile_add_66 : decode b_Pile_add 66 = .ok (.aload_n 0, 1) := by decide +kernel
theorem d_Pile_add_67 : decode b_Pile_add 67 = .ok (.getfield 9, 3) := by decide +kernel
theorem d_Pile_add_70 : decode b_Pile_add 70 = .ok (.aload_n 0, 1) := by decide +kernel
theorem d_Pile_add_71 : decode b_Pile_add 71 = .ok (.getfield 42, 3) := by decide +kernel
theorem d_Pile_add_74 : decode b_Pile_add 74 = .ok (.iload_n 1, 1) := by decide +kernel
theorem d_Pile_add_75 : decode b_Pile_add 75 = .ok (.iastore, 1) := by decide +kernel
theorem d_Pile_add_76 : decode b_Pile_add 76 = .ok (.aload_n 0, 1) := by decide +kernel
theorem d_Pile_add_77 : decode b_Pile_add 77 = .ok (.getfield 15, 3) := by decide +kernel
theorem d_Pile_add_80 : decode b_Pile_add 80 = .ok (.aload_n 0, 1) := by decide +kernel
theorem d_Pile_add_81 : decode b_Pile_add 81 = .ok (.getfield 42, 3) := by decide +kernel
theorem d_Pile_add_84 : decode b_Pile_add 84 = .ok (.iload_n 2, 1) := by decide +kernel
theorem d_Pile_add_85 : decode b_Pile_add 85 = .ok (.iastore, 1) := by decide +kernel
theorem d_Pile_add_86 : decode b_Pile_add 86 = .ok (.aload_n 0, 1) := by decide +kernel
theorem d_Pile_add_87 : decode b_Pile_add 87 = .ok (.dup, 1) := by decide +kernel
theorem d_Pile_add_88 : decode b_Pile_add 88 = .ok (.getfield 42, 3) := by decide +kernel
theorem d_Pile_add_91 : decode b_Pile_add 91 = .ok (.iconst 1, 1) := by decide +kernel
theorem d_Pile_add_92 : decode b_Pile_add 92 = .ok (.iadd, 1) := by decide +kernel
theorem d_Pile_add_93 : decode b_Pile_add 93 = .ok (.putfield 42, 3) := by decide +kernel
theorem d_Pile_add_96 : decode b_Pile_add 96 = .ok (.aload_n 0, 1) := by decide +kernel
theorem d_Pile_add_97 : decode b_Pile_add 97 = .ok (.dup, 1) := by decide +kernel
theorem d_Pile_add_98 : decode b_Pile_add 98 = .ok (.getfield 38, 3) := by decide +kernel
theorem d_Pile_add_101 : decode b_Pile_add 101 = .ok (.iconst 1, 1) := by decide +kernel
theorem d_Pile_add_102 : decode b_Pile_add 102 = .ok (.getstatic 49, 3) := by decide +kernel
theorem d_Pile_add_105 : decode b_Pile_add 105 = .ok (.iload_n 1, 1) := by decide +kernel
theorem d_Pile_add_106 : decode b_Pile_add 106 = .ok (.iaload, 1) := by decide +kernel
theorem d_Pile_add_107 : decode b_Pile_add 107 = .ok (.isub, 1) := by decide +kernel
theorem d_Pile_add_108 : decode b_Pile_add 108 = .ok (.iadd, 1) := by decide +kernel
theorem d_Pile_add_109 : decode b_Pile_add 109 = .ok (.putfield 38, 3) := by decide +kernel
theorem d_Pile_add_112 : decode b_Pile_add 112 = .ok (.return_, 1) := by decide +kernel
theorem d_Pile_removeTop_0 : decode b_Pile_removeTop 0 = .ok (.aload_n 0, 1) := by decide +kernel
theorem d_Pile_removeTop_1 : decode b_Pile_removeTop 1 = .ok (.dup, 1) := by decide +kernel
theorem d_Pile_removeTop_2 : decode b_Pile_removeTop 2 = .ok (.getfield 42, 3) := by decide +kernel
theorem d_Pile_removeTop_5 : decode b_Pile_removeTop 5 = .ok (.aload_n 0, 1) := by decide +kernel
theorem d_Pile_removeTop_6 : decode b_Pile_removeTop 6 = .ok (.invokevirtual 45, 3) := by decide +kernel
theorem d_Pile_removeTop_9 : decode b_Pile_removeTop 9 = .ok (.isub, 1) := by decide +kernel
theorem d_Pile_removeTop_10 : decode b_Pile_removeTop 10 = .ok (.putfield 42, 3) := by decide +kernel
theorem d_Pile_removeTop_13 : decode b_Pile_removeTop 13 = .ok (.aload_n 0, 1) := by decide +kernel
theorem d_Pile_removeTop_14 : decode b_Pile_removeTop 14 = .ok (.dup, 1) := by decide +kernel
theorem d_Pile_removeTop_15 : decode b_Pile_removeTop 15 = .ok (.getfield 38, 3) := by decide +kernel
theorem d_Pile_removeTop_18 : decode b_Pile_removeTop 18 = .ok (.iconst 1, 1) := by decide +kernel
theorem d_Pile_removeTop_19 : decode b_Pile_removeTop 19 = .ok (.isub, 1) := by decide +kernel
theorem d_Pile_removeTop_20 : decode b_Pile_removeTop 20 = .ok (.putfield 38, 3) := by decide +kernel
theorem d_Pile_removeTop_23 : decode b_Pile_removeTop 23 = .ok (.aload_n 0, 1) := by decide +kernel
theorem d_Pile_removeTop_24 : decode b_Pile_removeTop 24 = .ok (.aload_n 0, 1) := by decide +kernel
theorem d_Pile_removeTop_25 : decode b_Pile_removeTop 25 = .ok (.getfield 65, 3) := by decide +kernel
theorem d_Pile_removeTop_28 : decode b_Pile_removeTop 28 = .ok (.aload_n 0, 1) := by decide +kernel
theorem d_Pile_removeTop_29 : decode b_Pile_removeTop 29 = .ok (.getfield 42, 3) := by decide +kernel
theorem d_Pile_removeTop_32 : decode b_Pile_removeTop 32 = .ok (.invokestatic 68, 3) := by decide +kernel
theorem d_Pile_removeTop_35 : decode b_Pile_removeTop 35 = .ok (.putfield 65, 3) := by decide +kernel
theorem d_Pile_removeTop_38 : decode b_Pile_removeTop 38 = .ok (.return_, 1) := by decide +kernel
theorem d_Pile_topSize_0 : decode b_Pile_topSize 0 = .ok (.aload_n 0, 1) := by decide +kernel
theorem d_Pile_topSize_1 : decode b_Pile_topSize 1 = .ok (.getfield 38, 3) := by decide +kernel
theorem d_Pile_topSize_4 : decode b_Pile_topSize 4 = .ok (.ifCond .ne 7, 3) := by decide +kernel
theorem d_Pile_topSize_7 : decode b_Pile_topSize 7 = .ok (.iconst 0, 1) := by decide +kernel
theorem d_Pile_topSize_8 : decode b_Pile_topSize 8 = .ok (.goto 14, 3) := by decide +kernel
theorem d_Pile_topSize_11 : decode b_Pile_topSize 11 = .ok (.aload_n 0, 1) := by decide +kernel
theorem d_Pile_topSize_12 : decode b_Pile_topSize 12 = .ok (.getfield 18, 3) := by decide +kernel
theorem d_Pile_topSize_15 : decode b_Pile_topSize 15 = .ok (.aload_n 0, 1) := by decide +kernel
theorem d_Pile_topSize_16 : decode b_Pile_topSize 16 = .ok (.getfield 42, 3) := by decide +kernel
theorem d_Pile_topSize_19 : decode b_Pile_topSize 19 = .ok (.iconst 1, 1) := by decide +kernel
theorem d_Pile_topSize_20 : decode b_Pile_topSize 20 = .ok (.isub, 1) := by decide +kernel
theorem d_Pile_topSize_21 : decode b_Pile_topSize 21 = .ok (.iaload, 1) := by decide +kernel
theorem d_Pile_topSize_22 : decode b_Pile_topSize 22 = .ok (.ireturn, 1) := by decide +kernel
theorem d_Pile_labelOf_0 : decode b_Pile_labelOf 0 = .ok (.aload_n 0, 1) := by decide +kernel
theorem d_Pile_labelOf_1 : decode b_Pile_labelOf 1 = .ok (.getfield 65, 3) := by decide +kernel
theorem d_Pile_labelOf_4 : decode b_Pile_labelOf 4 = .ok (.istore_n 3, 1) := by decide +kernel
theorem d_Pile_labelOf_5 : decode b_Pile_labelOf 5 = .ok (.iload_n 3, 1) := by decide +kernel
theorem d_Pile_labelOf_6 : decode b_Pile_labelOf 6 = .ok (.aload_n 0, 1) := by decide +kernel
theorem d_Pile_labelOf_7 : decode b_Pile_labelOf 7 = .ok (.getfield 42, 3) := by decide +kernel
theorem d_Pile_labelOf_10 : decode b_Pile_labelOf 10 = .ok (.if_icmp .ge 94, 3) := by decide +kernel
theorem d_Pile_labelOf_13 : decode b_Pile_labelOf 13 = .ok (.getstatic 49, 3) := by decide +kernel
theorem d_Pile_labelOf_16 : decode b_Pile_labelOf 16 = .ok (.aload_n 0, 1) := by decide +kernel
theorem d_Pile_labelOf_17 : decode b_Pile_labelOf 17 = .ok (.getfield 9, 3) := by decide +kernel
theorem d_Pile_labelOf_20 : decode b_Pile_labelOf 20 = .ok (.iload_n 3, 1) := by decide +kernel
theorem d_Pile_labelOf_21 : decode b_Pile_labelOf 21 = .ok (.iaload, 1) := by decide +kernel
theorem d_Pile_labelOf_22 : decode b_Pile_labelOf 22 = .ok (.iaload, 1) := by decide +kernel
theorem d_Pile_labelOf_23 : decode b_Pile_labelOf 23 = .ok (.istore 4, 2) := by decide +kernel
theorem d_Pile_labelOf_25 : decode b_Pile_labelOf 25 = .ok (.iload 4, 2) := by decide +kernel
theorem d_Pile_labelOf_27 : decode b_Pile_labelOf 27 = .ok (.ifCond .ne 10, 3) := by decide +kernel
theorem d_Pile_labelOf_30 : decode b_Pile_labelOf 30 = .ok (.aload_n 0, 1) := by decide +kernel
theorem d_Pile_labelOf_31 : decode b_Pile_labelOf 31 = .ok (.getfield 34, 3) := by decide +kernel
theorem d_Pile_labelOf_34 : decode b_Pile_labelOf 34 = .ok (.goto 19, 3) := by decide +kernel
theorem d_Pile_labelOf_37 : decode b_Pile_labelOf 37 = .ok (.aload_n 0, 1) := by decide +kernel
theorem d_Pile_labelOf_38 : decode b_Pile_labelOf 38 = .ok (.getfield 29, 3) := by decide +kernel
theorem d_Pile_labelOf_41 : decode b_Pile_labelOf 41 = .ok (.aload_n 0, 1) := by decide +kernel
theorem d_Pile_labelOf_42 : decode b_Pile_labelOf 42 = .ok (.iload_n 3, 1) := by decide +kernel
theorem d_Pile_labelOf_43 : decode b_Pile_labelOf 43 = .ok (.aload_n 0, 1) := by decide +kernel
theorem d_Pile_labelOf_44 : decode b_Pile_labelOf 44 = .ok (.getfield 9, 3) := by decide +kernel
theorem d_Pile_labelOf_47 : decode b_Pile_labelOf 47 = .ok (.iload_n 3, 1) := by decide +kernel
theorem d_Pile_labelOf_48 : decode b_Pile_labelOf 48 = .ok (.iaload, 1) := by decide +kernel
theorem d_Pile_labelOf_49 : decode b_Pile_labelOf 49 = .ok (.invokevirtual 52, 3) := by decide +kernel
theorem d_Pile_labelOf_52 : decode b_Pile_labelOf 52 = .ok (.aaload, 1) := by decide +kernel
theorem d_Pile_labelOf_53 : decode b_Pile_labelOf 53 = .ok (.astore 5, 2) := by decide +kernel
theorem d_Pile_labelOf_55 : decode b_Pile_labelOf 55 = .ok (.iload 4, 2) := by decide +kernel
theorem d_Pile_labelOf_57 : decode b_Pile_labelOf 57 = .ok (.iconst 2, 1) := by decide +kernel
theorem d_Pile_labelOf_58 : decode b_Pile_labelOf 58 = .ok (.if_icmp .ne 14, 3) := by decide +kernel
theorem d_Pile_labelOf_61 : decode b_Pile_labelOf 61 = .ok (.aload_n 0, 1) := by decide +kernel
theorem d_Pile_labelOf_62 : decode b_Pile_labelOf 62 = .ok (.getfield 29, 3) := by decide +kernel
theorem d_Pile_labelOf_65 : decode b_Pile_labelOf 65 = .ok (.iload_n 3, 1) := by decide +kernel
theorem d_Pile_labelOf_66 : decode b_Pile_labelOf 66 = .ok (.iconst 1, 1) := by decide +kernel
theorem d_Pile_labelOf_67 : decode b_Pile_labelOf 67 = .ok (.isub, 1) := by decide +kernel
theorem d_Pile_labelOf_68 : decode b_Pile_labelOf 68 = .ok (.aaload, 1) := by decide +kernel
theorem d_Pile_labelOf_69 : decode b_Pile_labelOf 69 = .ok (.goto 7, 3) := by decide +kernel
theorem d_Pile_labelOf_72 : decode b_Pile_labelOf 72 = .ok (.aload_n 0, 1) := by decide +kernel
theorem d_Pile_labelOf_73 : decode b_Pile_labelOf 73 = .ok (.getfield 34, 3) := by decide +kernel
theorem d_Pile_labelOf_76 : decode b_Pile_labelOf 76 = .ok (.astore 6, 2) := by decide +kernel
theorem d_Pile_labelOf_78 : decode b_Pile_labelOf 78 = .ok (.aload_n 0, 1) := by decide +kernel
theorem d_Pile_labelOf_79 : decode b_Pile_labelOf 79 = .ok (.getfield 29, 3) := by decide +kernel
theorem d_Pile_labelOf_82 : decode b_Pile_labelOf 82 = .ok (.iload_n 3, 1) := by decide +kernel
theorem d_Pile_labelOf_83 : decode b_Pile_labelOf 83 = .ok (.aaload, 1) := by decide +kernel
theorem d_Pile_labelOf_84 : decode b_Pile_labelOf 84 = .ok (.aload_n 1, 1) := by decide +kernel
theorem d_Pile_labelOf_85 : decode b_Pile_labelOf 85 = .ok (.aload_n 0, 1) := by decide +kernel
theorem d_Pile_labelOf_86 : decode b_Pile_labelOf 86 = .ok (.getfield 9, 3) := by decide +kernel
theorem d_Pile_labelOf_89 : decode b_Pile_labelOf 89 = .ok (.iload_n 3, 1) := by decide +kernel
theorem d_Pile_labelOf_90 : decode b_Pile_labelOf 90 = .ok (.iaload, 1) := by decide +kernel
theorem d_Pile_labelOf_91 : decode b_Pile_labelOf 91 = .ok (.aload 5, 2) := by decide +kernel
theorem d_Pile_labelOf_93 : decode b_Pile_labelOf 93 = .ok (.aload 6, 2) := by decide +kernel
theorem d_Pile_labelOf_95 : decode b_Pile_labelOf 95 = .ok (.invokevirtual 71, 3) := by decide +kernel
theorem d_Pile_labelOf_98 : decode b_Pile_labelOf 98 = .ok (.iinc 3 1, 3) := by decide +kernel
theorem d_Pile_labelOf_101 : decode b_Pile_labelOf 101 = .ok (.goto (-96), 3) := by decide +kernel
theorem d_Pile_labelOf_104 : decode b_Pile_labelOf 104 = .ok (.aload_n 0, 1) := by decide +kernel
theorem d_Pile_labelOf_105 : decode b_Pile_labelOf 105 = .ok (.aload_n 0, 1) := by decide +kernel
theorem d_Pile_labelOf_106 : decode b_Pile_labelOf 106 = .ok (.getfield 42, 3) := by decide +kernel
theorem d_Pile_labelOf_109 : decode b_Pile_labelOf 109 = .ok (.putfield 65, 3) := by decide +kernel
theorem d_Pile_labelOf_112 : decode b_Pile_labelOf 112 = .ok (.aload_n 0, 1) := by decide +kernel
theorem d_Pile_labelOf_113 : decode b_Pile_labelOf 113 = .ok (.getfield 29, 3) := by decide +kernel
theorem d_Pile_labelOf_116 : decode b_Pile_labelOf 116 = .ok (.aload_n 0, 1) := by decide +kernel
theorem d_Pile_labelOf_117 : decode b_Pile_labelOf 117 = .ok (.invokevirtual 75, 3) := by decide +kernel
theorem d_Pile_labelOf_120 : decode b_Pile_labelOf 120 = .ok (.iload_n 2, 1) := by decide +kernel
theorem d_Pile_labelOf_121 : decode b_Pile_labelOf 121 = .ok (.iadd, 1) := by decide +kernel
theorem d_Pile_labelOf_122 : decode b_Pile_labelOf 122 = .ok (.aaload, 1) := by decide +kernel
theorem d_Pile_labelOf_123 : decode b_Pile_labelOf 123 = .ok (.areturn, 1) := by decide +kernel
theorem d_Pile_topStart_0 : decode b_Pile_topStart 0 = .ok (.aload_n 0, 1) := by decide +kernel
theorem d_Pile_topStart_1 : decode b_Pile_topStart 1 = .ok (.getfield 42, 3) := by decide +kernel
theorem d_Pile_topStart_4 : decode b_Pile_topStart 4 = .ok (.aload_n 0, 1) := by decide +kernel
theorem d_Pile_topStart_5 : decode b_Pile_topStart 5 = .ok (.invokevirtual 45, 3) := by decide +kernel
theorem d_Pile_topStart_8 : decode b_Pile_topStart 8 = .ok (.isub, 1) := by decide +kernel
theorem d_Pile_topStart_9 : decode b_Pile_topStart 9 = .ok (.ireturn, 1) := by decide +kernel
theorem d_Code_write_0 : decode b_Code_write 0 = .ok (.aload_n 0, 1) := by decide +kernel
theorem d_Code_write_1 : decode b_Code_write 1 = .ok (.iconst 0, 1) := by decide +kernel
theorem d_Code_write_2 : decode b_Code_write 2 = .ok (.putfield 51, 3) := by decide +kernel
theorem d_Code_write_5 : decode b_Code_write 5 = .ok (.aload_n 0, 1) := by decide +kernel
theorem d_Code_write_6 : decode b_Code_write 6 = .ok (.aload_n 1, 1) := by decide +kernel
theorem d_Code_write_7 : decode b_Code_write 7 = .ok (.aload_n 2, 1) := by decide +kernel
theorem d_Code_write_8 : decode b_Code_write 8 = .ok (.invokevirtual 55, 3) := by decide +kernel
theorem d_Code_write_11 : decode b_Code_write 11 = .ok (.aload_n 2, 1) := by decide +kernel
theorem d_Code_write_12 : decode b_Code_write 12 = .ok (.invokevirtual 59, 3) := by decide +kernel
theorem d_Code_write_15 : decode b_Code_write 15 = .ok (.istore_n 3, 1) := by decide +kernel
theorem d_Code_write_16 : decode b_Code_write 16 = .ok (.iload_n 3, 1) := by decide +kernel
theorem d_Code_write_17 : decode b_Code_write 17 = .ok (.aload_n 2, 1) := by decide +kernel
theorem d_Code_write_18 : decode b_Code_write 18 = .ok (.getfield 65, 3) := by decide +kernel
theorem d_Code_write_21 : decode b_Code_write 21 = .ok (.if_icmp .ge 90, 3) := by decide +kernel
theorem d_Code_write_24 : decode b_Code_write 24 = .ok (.aload_n 0, 1) := by decide +kernel
theorem d_Code_write_25 : decode b_Code_write 25 = .ok (.aload_n 1, 1) := by decide +kernel
theorem d_Code_write_26 : decode b_Code_write 26 = .ok (.aload_n 2, 1) := by decide +kernel
theorem d_Code_write_27 : decode b_Code_write 27 = .ok (.iload_n 3, 1) := by decide +kernel
theorem d_Code_write_28 : decode b_Code_write 28 = .ok (.invokevirtual 68, 3) := by decide +kernel
theorem d_Code_write_31 : decode b_Code_write 31 = .ok (.istore 4, 2) := by decide +kernel
theorem d_Code_write_33 : decode b_Code_write 33 = .ok (.aload_n 0, 1) := by decide +kernel
theorem d_Code_write_34 : decode b_Code_write 34 = .ok (.aload_n 2, 1) := by decide +kernel
theorem d_Code_write_35 : decode b_Code_write 35 = .ok (.iload_n 3, 1) := by decide +kernel
theorem d_Code_write_36 : decode b_Code_write 36 = .ok (.aload_n 0, 1) := by decide +kernel
theorem d_Code_write_37 : decode b_Code_write 37 = .ok (.getfield 48, 3) := by decide +kernel
theorem d_Code_write_40 : decode b_Code_write 40 = .ok (.iload 4, 2) := by decide +kernel
theorem d_Code_write_42 : decode b_Code_write 42 = .ok (.iconst 1, 1) := by decide +kernel
theorem d_Code_write_43 : decode b_Code_write 43 = .ok (.isub, 1) := by decide +kernel
theorem d_Code_write_44 : decode b_Code_write 44 = .ok (.iaload, 1) := by decide +kernel
theorem d_Code_write_45 : decode b_Code_write 45 = .ok (.invokevirtual 72, 3) := by decide +kernel
theorem d_Code_write_48 : decode b_Code_write 48 = .ok (.iload 4, 2) := by decide +kernel
theorem d_Code_write_50 : decode b_Code_write 50 = .ok (.iconst 2, 1) := by decide +kernel
theorem d_Code_write_51 : decode b_Code_write 51 = .ok (.isub, 1) := by decide +kernel
theorem d_Code_write_52 : decode b_Code_write 52 = .ok (.istore 5, 2) := by decide +kernel
theorem d_Code_write_54 : decode b_Code_write 54 = .ok (.iload 5, 2) := by decide +kernel
theorem d_Code_write_56 : decode b_Code_write 56 = .ok (.ifCond .lt 37, 3) := by decide +kernel
theorem d_Code_write_59 : decode b_Code_write 59 = .ok (.aload_n 0, 1) := by decide +kernel
theorem d_Code_write_60 : decode b_Code_write 60 = .ok (.aload_n 0, 1) := by decide +kernel
theorem d_Code_write_61 : decode b_Code_write 61 = .ok (.getfield 48, 3) := by decide +kernel
theorem d_Code_write_64 : decode b_Code_write 64 = .ok (.iload 5, 2) := by decide +kernel
theorem d_Code_write_66 : decode b_Code_write 66 = .ok (.iaload, 1) := by decide +kernel
theorem d_Code_write_67 : decode b_Code_write 67 = .ok (.iload_n 3, 1) := by decide +kernel
theorem d_Code_write_68 : decode b_Code_write 68 = .ok (.aload_n 2, 1) := by decide +kernel
theorem d_Code_write_69 : decode b_Code_write 69 = .ok (.invokevirtual 59, 3) := by decide +kernel
theorem d_Code_write_72 : decode b_Code_write 72 = .ok (.isub, 1) := by decide +kernel
theorem d_Code_write_73 : decode b_Code_write 73 = .ok (.bipush 8, 2) := by decide +kernel
theorem d_Code_write_75 : decode b_Code_write 75 = .ok (.iconst 0, 1) := by decide +kernel
theorem d_Code_write_76 : decode b_Code_write 76 = .ok (.aload_n 0, 1) := by decide +kernel
theorem d_Code_write_77 : decode b_Code_write 77 = .ok (.getfield 51, 3) := by decide +kernel
theorem d_Code_write_80 : decode b_Code_write 80 = .ok (.iconst 1, 1) := by decide +kernel
theorem d_Code_write_81 : decode b_Code_write 81 = .ok (.isub, 1) := by decide +kernel
theorem d_Code_write_82 : decode b_Code_write 82 = .ok (.bipush (-3), 2) := by decide +kernel
theorem d_Code_write_84 : decode b_Code_write 84 = .ok (.invokevirtual 76, 3) := by decide +kernel
theorem d_Code_write_87 : decode b_Code_write 87 = .ok (.iinc 5 (-1), 3) := by decide +kernel
theorem d_Code_write_90 : decode b_Code_write 90 = .ok (.goto (-36), 3) := by decide +kernel
theorem d_Code_write_93 : decode b_Code_write 93 = .ok (.aload_n 0, 1) := by decide +kernel
theorem d_Code_write_94 : decode b_Code_write 94 = .ok (.getfield 45, 3) := by decide +kernel
theorem d_Code_write_97 : decode b_Code_write 97 = .ok (.iload_n 3, 1) := by decide +kernel
theorem d_Code_write_98 : decode b_Code_write 98 = .ok (.aload_n 0, 1) := by decide +kernel
theorem d_Code_write_99 : decode b_Code_write 99 = .ok (.getfield 51, 3) := by decide +kernel
theorem d_Code_write_102 : decode b_Code_write 102 = .ok (.iconst 1, 1) := by decide +kernel
theorem d_Code_write_103 : decode b_Code_write 103 = .ok (.isub, 1) := by decide +kernel
theorem d_Code_write_104 : decode b_Code_write 104 = .ok (.iastore, 1) := by decide +kernel
theorem d_Code_write_105 : decode b_Code_write 105 = .ok (.iinc 3 1, 3) := by decide +kernel
theorem d_Code_write_108 : decode b_Code_write 108 = .ok (.goto (-92), 3) := by decide +kernel
theorem d_Code_write_111 : decode b_Code_write 111 = .ok (.return_, 1) := by decide +kernel
theorem d_Code_chooseKinds_0 : decode b_Code_chooseKinds 0 = .ok (.aload_n 0, 1) := by decide +kernel
theorem d_Code_chooseKinds_1 : decode b_Code_chooseKinds 1 = .ok (.getfield 42, 3) := by decide +kernel
theorem d_Code_chooseKinds_4 : decode b_Code_chooseKinds 4 = .ok (.aload_n 2, 1) := by decide +kernel
theorem d_Code_chooseKinds_5 : decode b_Code_chooseKinds 5 = .ok (.getfield 65, 3) := by decide +kernel
theorem d_Code_chooseKinds_8 : decode b_Code_chooseKinds 8 = .ok (.iconst 1, 1) := by decide +kernel
theorem d_Code_chooseKinds_9 : decode b_Code_chooseKinds 9 = .ok (.isub, 1) := by decide +kernel
theorem d_Code_chooseKinds_10 : decode b_Code_chooseKinds 10 = .ok (.iconst 0, 1) := by decide +kernel
theorem d_Code_chooseKinds_11 : decode b_Code_chooseKinds 11 = .ok (.iastore, 1) := by decide +kernel
theorem d_Code_chooseKinds_12 : decode b_Code_chooseKinds 12 = .ok (.aload_n 2, 1) := by decide +kernel
theorem d_Code_chooseKinds_13 : decode b_Code_chooseKinds 13 = .ok (.getfield 65, 3) := by decide +kernel
theorem d_Code_chooseKinds_16 : decode b_Code_chooseKinds 16 = .ok (.iconst 1, 1) := by decide +kernel
theorem d_Code_chooseKinds_17 : decode b_Code_chooseKinds 17 = .ok (.isub, 1) := by decide +kernel
theorem d_Code_chooseKinds_18 : decode b_Code_chooseKinds 18 = .ok (.istore_n 3, 1) := by decide +kernel
theorem d_Code_chooseKinds_19 : decode b_Code_chooseKinds 19 = .ok (.iload_n 3, 1) := by decide +kernel
theorem d_Code_chooseKinds_20 : decode b_Code_chooseKinds 20 = .ok (.aload_n 2, 1) := by decide +kernel
theorem d_Code_chooseKinds_21 : decode b_Code_chooseKinds 21 = .ok (.invokevirtual 59, 3) := by decide +kernel
theorem d_Code_chooseKinds_24 : decode b_Code_chooseKinds 24 = .ok (.if_icmp .lt 87, 3) := by decide +kernel
theorem d_Code_chooseKinds_27 : decode b_Code_chooseKinds 27 = .ok (.aload_n 0, 1) := by decide +kernel
theorem d_Code_chooseKinds_28 : decode b_Code_chooseKinds 28 = .ok (.getfield 48, 3) := by decide +kernel
theorem d_Code_chooseKinds_31 : decode b_Code_chooseKinds 31 = .ok (.aload_n 0, 1) := by decide +kernel
theorem d_Code_chooseKinds_32 : decode b_Code_chooseKinds 32 = .ok (.aload_n 1, 1) := by decide +kernel
theorem d_Code_chooseKinds_33 : decode b_Code_chooseKinds 33 = .ok (.aload_n 2, 1) := by decide +kernel
theorem d_Code_chooseKinds_34 : decode b_Code_chooseKinds 34 = .ok (.iload_n 3, 1) := by decide +kernel
theorem d_Code_chooseKinds_35 : decode b_Code_chooseKinds 35 = .ok (.invokevirtual 68, 3) := by decide +kernel
theorem d_Code_chooseKinds_38 : decode b_Code_chooseKinds 38 = .ok (.iconst 1, 1) := by decide +kernel
theorem d_Code_chooseKinds_39 : decode b_Code_chooseKinds 39 = .ok (.isub, 1) := by decide +kernel
theorem d_Code_chooseKinds_40 : decode b_Code_chooseKinds 40 = .ok (.iaload, 1) := by decide +kernel
theorem d_Code_chooseKinds_41 : decode b_Code_chooseKinds 41 = .ok (.istore 4, 2) := by decide +kernel
theorem d_Code_chooseKinds_43 : decode b_Code_chooseKinds 43 = .ok (.aload_n 2, 1) := by decide +kernel
theorem d_Code_chooseKinds_44 : decode b_Code_chooseKinds 44 = .ok (.getfield 80, 3) := by decide +kernel
theorem d_Code_chooseKinds_47 : decode b_Code_chooseKinds 47 = .ok (.iload_n 3, 1) := by decide +kernel
theorem d_Code_chooseKinds_48 : decode b_Code_chooseKinds 48 = .ok (.iaload, 1) := by decide +kernel
theorem d_Code_chooseKinds_49 : decode b_Code_chooseKinds 49 = .ok (.istore 5, 2) := by decide +kernel
theorem d_Code_chooseKinds_51 : decode b_Code_chooseKinds 51 = .ok (.getstatic 81, 3) := by decide +kernel
theorem d_Code_chooseKinds_54 : decode b_Code_chooseKinds 54 = .ok (.iload 5, 2) := by decide +kernel
theorem d_Code_chooseKinds_56 : decode b_Code_chooseKinds 56 = .ok (.iaload, 1) := by decide +kernel
theorem d_Code_chooseKinds_57 : decode b_Code_chooseKinds 57 = .ok (.iconst 1, 1) := by decide +kernel
theorem d_Code_chooseKinds_58 : decode b_Code_chooseKinds 58 = .ok (.if_icmp .lt 22, 3) := by decide +kernel
theorem d_Code_chooseKinds_61 : decode b_Code_chooseKinds 61 = .ok (.aload_n 0, 1) := by decide +kernel
theorem d_Code_chooseKinds_62 : decode b_Code_chooseKinds 62 = .ok (.getfield 42, 3) := by decide +kernel
theorem d_Code_chooseKinds_65 : decode b_Code_chooseKinds 65 = .ok (.aload_n 2, 1) := by decide +kernel
theorem d_Code_chooseKinds_66 : decode b_Code_chooseKinds 66 = .ok (.iload_n 3, 1) := by decide +kernel
theorem d_Code_chooseKinds_67 : decode b_Code_chooseKinds 67 = .ok (.iload 5, 2) := by decide +kernel
theorem d_Code_chooseKinds_69 : decode b_Code_chooseKinds 69 = .ok (.invokevirtual 84, 3) := by decide +kernel
theorem d_Code_chooseKinds_72 : decode b_Code_chooseKinds 72 = .ok (.aload_n 1, 1) := by decide +kernel
theorem d_Code_chooseKinds_73 : decode b_Code_chooseKinds 73 = .ok (.getfield 88, 3) := by decide +kernel
theorem d_Code_chooseKinds_76 : decode b_Code_chooseKinds 76 = .ok (.iload 4, 2) := by decide +kernel
theorem d_Code_chooseKinds_78 : decode b_Code_chooseKinds 78 = .ok (.iaload, 1) := by decide +kernel
theorem d_Code_chooseKinds_79 : decode b_Code_chooseKinds 79 = .ok (.iastore, 1) := by decide +kernel
theorem d_Code_chooseKinds_80 : decode b_Code_chooseKinds 80 = .ok (.getstatic 81, 3) := by decide +kernel
theorem d_Code_chooseKinds_83 : decode b_Code_chooseKinds 83 = .ok (.iload 5, 2) := by decide +kernel
theorem d_Code_chooseKinds_85 : decode b_Code_chooseKinds 85 = .ok (.iaload, 1) := by decide +kernel
theorem d_Code_chooseKinds_86 : decode b_Code_chooseKinds 86 = .ok (.iconst 2, 1) := by decide +kernel
theorem d_Code_chooseKinds_87 : decode b_Code_chooseKinds 87 = .ok (.if_icmp .ne 18, 3) := by decide +kernel
theorem d_Code_chooseKinds_90 : decode b_Code_chooseKinds 90 = .ok (.aload_n 0, 1) := by decide +kernel
theorem d_Code_chooseKinds_91 : decode b_Code_chooseKinds 91 = .ok (.getfield 42, 3) := by decide +kernel
theorem d_Code_chooseKinds_94 : decode b_Code_chooseKinds 94 = .ok (.iload_n 3, 1) := by decide +kernel
theorem d_Code_chooseKinds_95 : decode b_Code_chooseKinds 95 = .ok (.iconst 1, 1) := by decide +kernel
theorem d_Code_chooseKinds_96 : decode b_Code_chooseKinds 96 = .ok (.isub, 1) := by decide +kernel
theorem d_Code_chooseKinds_97 : decode b_Code_chooseKinds 97 = .ok (.aload_n 1, 1) := by decide +kernel
theorem d_Code_chooseKinds_98 : decode b_Code_chooseKinds 98 = .ok (.getfield 91, 3) := by decide +kernel
theorem d_Code_chooseKinds_101 : decode b_Code_chooseKinds 101 = .ok (.iload 4, 2) := by decide +kernel
theorem d_Code_chooseKinds_103 : decode b_Code_chooseKinds 103 = .ok (.iaload, 1) := by decide +kernel
theorem d_Code_chooseKinds_104 : decode b_Code_chooseKinds 104 = .ok (.iastore, 1) := by decide +kernel
theorem d_Code_chooseKinds_105 : decode b_Code_chooseKinds 105 = .ok (.iinc 3 (-1), 3) := by decide +kernel
theorem d_Code_chooseKinds_108 : decode b_Code_chooseKinds 108 = .ok (.goto (-89), 3) := by decide +kernel
theorem d_Code_chooseKinds_111 : decode b_Code_chooseKinds 111 = .ok (.return_, 1) := by decide +kernel
theorem d_Code_followChoices_0 : decode b_Code_followChoices 0 = .ok (.aload_n 0, 1) := by decide +kernel
theorem d_Code_followChoices_1 : decode b_Code_followChoices 1 = .ok (.getfield 42, 3) := by decide +kernel
theorem d_Code_followChoices_4 : decode b_Code_followChoices 4 = .ok (.iload_n 3, 1) := by decide +kernel
theorem d_Code_followChoices_5 : decode b_Code_followChoices 5 = .ok (.iaload, 1) := by decide +kernel
theorem d_Code_followChoices_6 : decode b_Code_followChoices 6 = .ok (.istore 4, 2) := by decide +kernel
theorem d_Code_followChoices_8 : decode b_Code_followChoices 8 = .ok (.iconst 0, 1) := by decide +kernel
theorem d_Code_followChoices_9 : decode b_Code_followChoices 9 = .ok (.istore 5, 2) := by decide +kernel
theorem d_Code_followChoices_11 : decode b_Code_followChoices 11 = .ok (.iconst 1, 1) := by decide +kernel
theorem d_Code_followChoices_12 : decode b_Code_followChoices 12 = .ok (.istore 6, 2) := by decide +kernel
theorem d_Code_followChoices_14 : decode b_Code_followChoices 14 = .ok (.iload 6, 2) := by decide +kernel
theorem d_Code_followChoices_16 : decode b_Code_followChoices 16 = .ok (.ifCond .eq 66, 3) := by decide +kernel
theorem d_Code_followChoices_19 : decode b_Code_followChoices 19 = .ok (.iload 5, 2) := by decide +kernel
theorem d_Code_followChoices_21 : decode b_Code_followChoices 21 = .ok (.iconst 4, 1) := by decide +kernel
theorem d_Code_followChoices_22 : decode b_Code_followChoices 22 = .ok (.if_icmp .ge 60, 3) := by decide +kernel
theorem d_Code_followChoices_25 : decode b_Code_followChoices 25 = .ok (.aload_n 2, 1) := by decide +kernel
theorem d_Code_followChoices_26 : decode b_Code_followChoices 26 = .ok (.getfield 92, 3) := by decide +kernel
theorem d_Code_followChoices_29 : decode b_Code_followChoices 29 = .ok (.iload_n 3, 1) := by decide +kernel
theorem d_Code_followChoices_30 : decode b_Code_followChoices 30 = .ok (.aaload, 1) := by decide +kernel
theorem d_Code_followChoices_31 : decode b_Code_followChoices 31 = .ok (.getfield 96, 3) := by decide +kernel
theorem d_Code_followChoices_34 : decode b_Code_followChoices 34 = .ok (.iload 4, 2) := by decide +kernel
theorem d_Code_followChoices_36 : decode b_Code_followChoices 36 = .ok (.iaload, 1) := by decide +kernel
theorem d_Code_followChoices_37 : decode b_Code_followChoices 37 = .ok (.istore 7, 2) := by decide +kernel
theorem d_Code_followChoices_39 : decode b_Code_followChoices 39 = .ok (.aload_n 0, 1) := by decide +kernel
theorem d_Code_followChoices_40 : decode b_Code_followChoices 40 = .ok (.getfield 48, 3) := by decide +kernel
theorem d_Code_followChoices_43 : decode b_Code_followChoices 43 = .ok (.iload 5, 2) := by decide +kernel
theorem d_Code_followChoices_45 : decode b_Code_followChoices 45 = .ok (.iload 7, 2) := by decide +kernel
theorem d_Code_followChoices_47 : decode b_Code_followChoices 47 = .ok (.iastore, 1) := by decide +kernel
theorem d_Code_followChoices_48 : decode b_Code_followChoices 48 = .ok (.iinc 5 1, 3) := by decide +kernel
theorem d_Code_followChoices_51 : decode b_Code_followChoices 51 = .ok (.aload_n 1, 1) := by decide +kernel
theorem d_Code_followChoices_52 : decode b_Code_followChoices 52 = .ok (.getfield 101, 3) := by decide +kernel
theorem d_Code_followChoices_55 : decode b_Code_followChoices 55 = .ok (.iload 7, 2) := by decide +kernel
theorem d_Code_followChoices_57 : decode b_Code_followChoices 57 = .ok (.iaload, 1) := by decide +kernel
theorem d_Code_followChoices_58 : decode b_Code_followChoices 58 = .ok (.bipush 8, 2) := by decide +kernel
theorem d_Code_followChoices_60 : decode b_Code_followChoices 60 = .ok (.if_icmp .ne 7, 3) := by decide +kernel
theorem d_Code_followChoices_63 : decode b_Code_followChoices 63 = .ok (.iconst 1, 1) := by decide +kernel
theorem d_Code_followChoices_64 : decode b_Code_followChoices 64 = .ok (.goto 4, 3) := by decide +kernel
theorem d_Code_followChoices_67 : decode b_Code_followChoices 67 = .ok (.iconst 0, 1) := by decide +kernel
theorem d_Code_followChoices_68 : decode b_Code_followChoices 68 = .ok (.istore 6, 2) := by decide +kernel
theorem d_Code_followChoices_70 : decode b_Code_followChoices 70 = .ok (.aload_n 1, 1) := by decide +kernel
theorem d_Code_followChoices_71 : decode b_Code_followChoices 71 = .ok (.getfield 88, 3) := by decide +kernel
theorem d_Code_followChoices_74 : decode b_Code_followChoices 74 = .ok (.iload 7, 2) := by decide +kernel
theorem d_Code_followChoices_76 : decode b_Code_followChoices 76 = .ok (.iaload, 1) := by decide +kernel
theorem d_Code_followChoices_77 : decode b_Code_followChoices 77 = .ok (.istore 4, 2) := by decide +kernel
theorem d_Code_followChoices_79 : decode b_Code_followChoices 79 = .ok (.goto (-65), 3) := by decide +kernel
theorem d_Code_followChoices_82 : decode b_Code_followChoices 82 = .ok (.iload 5, 2) := by decide +kernel
theorem d_Code_followChoices_84 : decode b_Code_followChoices 84 = .ok (.ireturn, 1) := by decide +kernel
theorem d_Code_writeOperator_0 : decode b_Code_writeOperator 0 = .ok (.aload_n 1, 1) := by decide +kernel
theorem d_Code_writeOperator_1 : decode b_Code_writeOperator 1 = .ok (.getfield 80, 3) := by decide +kernel
theorem d_Code_writeOperator_4 : decode b_Code_writeOperator 4 = .ok (.iload_n 2, 1) := by decide +kernel
theorem d_Code_writeOperator_5 : decode b_Code_writeOperator 5 = .ok (.iaload, 1) := by decide +kernel
theorem d_Code_writeOperator_6 : decode b_Code_writeOperator 6 = .ok (.istore 4, 2) := by decide +kernel
theorem d_Code_writeOperator_8 : decode b_Code_writeOperator 8 = .ok (.getstatic 81, 3) := by decide +kernel
theorem d_Code_writeOperator_11 : decode b_Code_writeOperator 11 = .ok (.iload 4, 2) := by decide +kernel
theorem d_Code_writeOperator_13 : decode b_Code_writeOperator 13 = .ok (.iaload, 1) := by decide +kernel
theorem d_Code_writeOperator_14 : decode b_Code_writeOperator 14 = .ok (.iconst 1, 1) := by decide +kernel
theorem d_Code_writeOperator_15 : decode b_Code_writeOperator 15 = .ok (.if_icmp .lt 18, 3) := by decide +kernel
theorem d_Code_writeOperator_18 : decode b_Code_writeOperator 18 = .ok (.aload_n 0, 1) := by decide +kernel
theorem d_Code_writeOperator_19 : decode b_Code_writeOperator 19 = .ok (.getfield 45, 3) := by decide +kernel
theorem d_Code_writeOperator_22 : decode b_Code_writeOperator 22 = .ok (.aload_n 1, 1) := by decide +kernel
theorem d_Code_writeOperator_23 : decode b_Code_writeOperator 23 = .ok (.iload_n 2, 1) := by decide +kernel
theorem d_Code_writeOperator_24 : decode b_Code_writeOperator 24 = .ok (.iload 4, 2) := by decide +kernel
theorem d_Code_writeOperator_26 : decode b_Code_writeOperator 26 = .ok (.invokevirtual 84, 3) := by decide +kernel
theorem d_Code_writeOperator_29 : decode b_Code_writeOperator 29 = .ok (.iaload, 1) := by decide +kernel
theorem d_Code_writeOperator_30 : decode b_Code_writeOperator 30 = .ok (.goto 5, 3) := by decide +kernel
theorem d_Code_writeOperator_33 : decode b_Code_writeOperator 33 = .ok (.bipush (-3), 2) := by decide +kernel
theorem d_Code_writeOperator_35 : decode b_Code_writeOperator 35 = .ok (.istore 5, 2) := by decide +kernel
theorem d_Code_writeOperator_37 : decode b_Code_writeOperator 37 = .ok (.getstatic 81, 3) := by decide +kernel
theorem d_Code_writeOperator_40 : decode b_Code_writeOperator 40 = .ok (.iload 4, 2) := by decide +kernel
theorem d_Code_writeOperator_42 : decode b_Code_writeOperator 42 = .ok (.iaload, 1) := by decide +kernel
theorem d_Code_writeOperator_43 : decode b_Code_writeOperator 43 = .ok (.iconst 2, 1) := by decide +kernel
theorem d_Code_writeOperator_44 : decode b_Code_writeOperator 44 = .ok (.if_icmp .ne 14, 3) := by decide +kernel
theorem d_Code_writeOperator_47 : decode b_Code_writeOperator 47 = .ok (.aload_n 0, 1) := by decide +kernel
theorem d_Code_writeOperator_48 : decode b_Code_writeOperator 48 = .ok (.getfield 45, 3) := by decide +kernel
theorem d_Code_writeOperator_51 : decode b_Code_writeOperator 51 = .ok (.iload_n 2, 1) := by decide +kernel
theorem d_Code_writeOperator_52 : decode b_Code_writeOperator 52 = .ok (.iconst 1, 1) := by decide +kernel
theorem d_Code_writeOperator_53 : decode b_Code_writeOperator 53 = .ok (.isub, 1) := by decide +kernel
theorem d_Code_writeOperator_54 : decode b_Code_writeOperator 54 = .ok (.iaload, 1) := by decide +kernel
theorem d_Code_writeOperator_55 : decode b_Code_writeOperator 55 = .ok (.goto 5, 3) := by decide +kernel
theorem d_Code_writeOperator_58 : decode b_Code_writeOperator 58 = .ok (.bipush (-3), 2) := by decide +kernel
theorem d_Code_writeOperator_60 : decode b_Code_writeOperator 60 = .ok (.istore 6, 2) := by decide +kernel
theorem d_Code_writeOperator_62 : decode b_Code_writeOperator 62 = .ok (.aload_n 0, 1) := by decide +kernel
theorem d_Code_writeOperator_63 : decode b_Code_writeOperator 63 = .ok (.iload_n 3, 1) := by decide +kernel
theorem d_Code_writeOperator_64 : decode b_Code_writeOperator 64 = .ok (.iload_n 2, 1) := by decide +kernel
theorem d_Code_writeOperator_65 : decode b_Code_writeOperator 65 = .ok (.aload_n 1, 1) := by decide +kernel
theorem d_Code_writeOperator_66 : decode b_Code_writeOperator 66 = .ok (.invokevirtual 59, 3) := by decide +kernel
theorem d_Code_writeOperator_69 : decode b_Code_writeOperator 69 = .ok (.isub, 1) := by decide +kernel
theorem d_Code_writeOperator_70 : decode b_Code_writeOperator 70 = .ok (.iload 4, 2) := by decide +kernel
theorem d_Code_writeOperator_72 : decode b_Code_writeOperator 72 = .ok (.aload_n 1, 1) := by decide +kernel
theorem d_Code_writeOperator_73 : decode b_Code_writeOperator 73 = .ok (.getfield 102, 3) := by decide +kernel
theorem d_Code_writeOperator_76 : decode b_Code_writeOperator 76 = .ok (.iload_n 2, 1) := by decide +kernel
theorem d_Code_writeOperator_77 : decode b_Code_writeOperator 77 = .ok (.iaload, 1) := by decide +kernel
theorem d_Code_writeOperator_78 : decode b_Code_writeOperator 78 = .ok (.iload 5, 2) := by decide +kernel
theorem d_Code_writeOperator_80 : decode b_Code_writeOperator 80 = .ok (.iload 6, 2) := by decide +kernel
theorem d_Code_writeOperator_82 : decode b_Code_writeOperator 82 = .ok (.invokevirtual 76, 3) := by decide +kernel
theorem d_Code_writeOperator_85 : decode b_Code_writeOperator 85 = .ok (.return_, 1) := by decide +kernel
theorem d_Code_append_0 : decode b_Code_append 0 = .ok (.aload_n 0, 1) := by decide +kernel
theorem d_Code_append_1 : decode b_Code_append 1 = .ok (.getfield 9, 3) := by decide +kernel
theorem d_Code_append_4 : decode b_Code_append 4 = .ok (.aload_n 0, 1) := by decide +kernel
theorem d_Code_append_5 : decode b_Code_append 5 = .ok (.getfield 51, 3) := by decide +kernel
theorem d_Code_append_8 : decode b_Code_append 8 = .ok (.iload_n 1, 1) := by decide +kernel
theorem d_Code_append_9 : decode b_Code_append 9 = .ok (.iastore, 1) := by decide +kernel
theorem d_Code_append_10 : decode b_Code_append 10 = .ok (.aload_n 0, 1) := by decide +kernel
theorem d_Code_append_11 : decode b_Code_append 11 = .ok (.getfield 15, 3) := by decide +kernel
theorem d_Code_append_14 : decode b_Code_append 14 = .ok (.aload_n 0, 1) := by decide +kernel
theorem d_Code_append_15 : decode b_Code_append 15 = .ok (.getfield 51, 3) := by decide +kernel
theorem d_Code_append_18 : decode b_Code_append 18 = .ok (.iload_n 2, 1) := by decide +kernel
theorem d_Code_append_19 : decode b_Code_append 19 = .ok (.iastore, 1) := by decide +kernel
theorem d_Code_append_20 : decode b_Code_append 20 = .ok (.aload_n 0, 1) := by decide +kernel
theorem d_Code_append_21 : decode b_Code_append 21 = .ok (.getfield 18, 3) := by decide +kernel
theorem d_Code_append_24 : decode b_Code_append 24 = .ok (.aload_n 0, 1) := by decide +kernel
theorem d_Code_append_25 : decode b_Code_append 25 = .ok (.getfield 51, 3) := by decide +kernel
theorem d_Code_append_28 : decode b_Code_append 28 = .ok (.iload_n 3, 1) := by decide +kernel
theorem d_Code_append_29 : decode b_Code_append 29 = .ok (.iastore, 1) := by decide +kernel
theorem d_Code_append_30 : decode b_Code_append 30 = .ok (.aload_n 0, 1) := by decide +kernel
theorem d_Code_append_31 : decode b_Code_append 31 = .ok (.getfield 21, 3) := by decide +kernel
theorem d_Code_append_34 : decode b_Code_append 34 = .ok (.aload_n 0, 1) := by decide +kernel
theorem d_Code_append_35 : decode b_Code_append 35 = .ok (.getfield 51, 3) := by decide +kernel
theorem d_Code_append_38 : decode b_Code_append 38 = .ok (.iload 4, 2) := by decide +kernel
theorem d_Code_append_40 : decode b_Code_append 40 = .ok (.iastore, 1) := by decide +kernel
theorem d_Code_append_41 : decode b_Code_append 41 = .ok (.aload_n 0, 1) := by decide +kernel
theorem d_Code_append_42 : decode b_Code_append 42 = .ok (.getfield 24, 3) := by decide +kernel
theorem d_Code_append_45 : decode b_Code_append 45 = .ok (.aload_n 0, 1) := by decide +kernel
theorem d_Code_append_46 : decode b_Code_append 46 = .ok (.getfield 51, 3) := by decide +kernel
theorem d_Code_append_49 : decode b_Code_append 49 = .ok (.iload 5, 2) := by decide +kernel
theorem d_Code_append_51 : decode b_Code_append 51 = .ok (.iastore, 1) := by decide +kernel
theorem d_Code_append_52 : decode b_Code_append 52 = .ok (.aload_n 0, 1) := by decide +kernel
theorem d_Code_append_53 : decode b_Code_append 53 = .ok (.getfield 27, 3) := by decide +kernel
theorem d_Code_append_56 : decode b_Code_append 56 = .ok (.aload_n 0, 1) := by decide +kernel
theorem d_Code_append_57 : decode b_Code_append 57 = .ok (.getfield 51, 3) := by decide +kernel
theorem d_Code_append_60 : decode b_Code_append 60 = .ok (.iload 6, 2) := by decide +kernel
theorem d_Code_append_62 : decode b_Code_append 62 = .ok (.iastore, 1) := by decide +kernel
theorem d_Code_append_63 : decode b_Code_append 63 = .ok (.aload_n 0, 1) := by decide +kernel
theorem d_Code_append_64 : decode b_Code_append 64 = .ok (.getfield 30, 3) := by decide +kernel
theorem d_Code_append_67 : decode b_Code_append 67 = .ok (.aload_n 0, 1) := by decide +kernel
theorem d_Code_append_68 : decode b_Code_append 68 = .ok (.getfield 51, 3) := by decide +kernel
theorem d_Code_append_71 : decode b_Code_append 71 = .ok (.aload_n 0, 1) := by decide +kernel
theorem d_Code_append_72 : decode b_Code_append 72 = .ok (.getfield 51, 3) := by decide +kernel
theorem d_Code_append_75 : decode b_Code_append 75 = .ok (.iastore, 1) := by decide +kernel
theorem d_Code_append_76 : decode b_Code_append 76 = .ok (.iload 5, 2) := by decide +kernel
theorem d_Code_append_78 : decode b_Code_append 78 = .ok (.bipush (-3), 2) := by decide +kernel
theorem d_Code_append_80 : decode b_Code_append 80 = .ok (.if_icmp .eq 14, 3) := by decide +kernel
theorem d_Code_append_83 : decode b_Code_append 83 = .ok (.aload_n 0, 1) := by decide +kernel
theorem d_Code_append_84 : decode b_Code_append 84 = .ok (.getfield 30, 3) := by decide +kernel
theorem d_Code_append_87 : decode b_Code_append 87 = .ok (.iload 5, 2) := by decide +kernel
theorem d_Code_append_89 : decode b_Code_append 89 = .ok (.aload_n 0, 1) := by decide +kernel
theorem d_Code_append_90 : decode b_Code_append 90 = .ok (.getfield 51, 3) := by decide +kernel
theorem d_Code_append_93 : decode b_Code_append 93 = .ok (.iastore, 1) := by decide +kernel
theorem d_Code_append_94 : decode b_Code_append 94 = .ok (.iload 6, 2) := by decide +kernel
theorem d_Code_append_96 : decode b_Code_append 96 = .ok (.bipush (-3), 2) := by decide +kernel
theorem d_Code_append_98 : decode b_Code_append 98 = .ok (.if_icmp .eq 14, 3) := by decide +kernel
theorem d_Code_append_101 : decode b_Code_append 101 = .ok (.aload_n 0, 1) := by decide +kernel
theorem d_Code_append_102 : decode b_Code_append 102 = .ok (.getfield 30, 3) := by decide +kernel
theorem d_Code_append_105 : decode b_Code_append 105 = .ok (.iload 6, 2) := by decide +kernel
theorem d_Code_append_107 : decode b_Code_append 107 = .ok (.aload_n 0, 1) := by decide +kernel
theorem d_Code_append_108 : decode b_Code_append 108 = .ok (.getfield 51, 3) := by decide +kernel
theorem d_Code_append_111 : decode b_Code_append 111 = .ok (.iastore, 1) := by decide +kernel
theorem d_Code_append_112 : decode b_Code_append 112 = .ok (.aload_n 0, 1) := by decide +kernel
theorem d_Code_append_113 : decode b_Code_append 113 = .ok (.dup, 1) := by decide +kernel
theorem d_Code_append_114 : decode b_Code_append 114 = .ok (.getfield 51, 3) := by decide +kernel
theorem d_Code_append_117 : decode b_Code_append 117 = .ok (.iconst 1, 1) := by decide +kernel
theorem d_Code_append_118 : decode b_Code_append 118 = .ok (.iadd, 1) := by decide +kernel
theorem d_Code_append_119 : decode b_Code_append 119 = .ok (.putfield 51, 3) := by decide +kernel
theorem d_Code_append_122 : decode b_Code_append 122 = .ok (.return_, 1) := by decide +kernel
theorem d_Code_givePlaces_0 : decode b_Code_givePlaces 0 = .ok (.aload_n 0, 1) := by decide +kernel
theorem d_Code_givePlaces_1 : decode b_Code_givePlaces 1 = .ok (.iconst 0, 1) := by decide +kernel
theorem d_Code_givePlaces_2 : decode b_Code_givePlaces 2 = .ok (.putfield 103, 3) := by decide +kernel
theorem d_Code_givePlaces_5 : decode b_Code_givePlaces 5 = .ok (.aload_n 0, 1) := by decide +kernel
theorem d_Code_givePlaces_6 : decode b_Code_givePlaces 6 = .ok (.getfield 39, 3) := by decide +kernel
theorem d_Code_givePlaces_9 : decode b_Code_givePlaces 9 = .ok (.iconst (-1), 1) := by decide +kernel
theorem d_Code_givePlaces_10 : decode b_Code_givePlaces 10 = .ok (.invokestatic 106, 3) := by decide +kernel
theorem d_Code_givePlaces_13 : decode b_Code_givePlaces 13 = .ok (.iconst 0, 1) := by decide +kernel
theorem d_Code_givePlaces_14 : decode b_Code_givePlaces 14 = .ok (.istore_n 2, 1) := by decide +kernel
theorem d_Code_givePlaces_15 : decode b_Code_givePlaces 15 = .ok (.iload_n 2, 1) := by decide +kernel
theorem d_Code_givePlaces_16 : decode b_Code_givePlaces 16 = .ok (.aload_n 0, 1) := by decide +kernel
theorem d_Code_givePlaces_17 : decode b_Code_givePlaces 17 = .ok (.getfield 51, 3) := by decide +kernel
theorem d_Code_givePlaces_20 : decode b_Code_givePlaces 20 = .ok (.if_icmp .ge 49, 3) := by decide +kernel
theorem d_Code_givePlaces_23 : decode b_Code_givePlaces 23 = .ok (.aload_n 0, 1) := by decide +kernel
theorem d_Code_givePlaces_24 : decode b_Code_givePlaces 24 = .ok (.iload_n 2, 1) := by decide +kernel
theorem d_Code_givePlaces_25 : decode b_Code_givePlaces 25 = .ok (.iload_n 1, 1) := by decide +kernel
theorem d_Code_givePlaces_26 : decode b_Code_givePlaces 26 = .ok (.invokevirtual 112, 3) := by decide +kernel
theorem d_Code_givePlaces_29 : decode b_Code_givePlaces 29 = .ok (.aload_n 0, 1) := by decide +kernel
theorem d_Code_givePlaces_30 : decode b_Code_givePlaces 30 = .ok (.iload_n 1, 1) := by decide +kernel
theorem d_Code_givePlaces_31 : decode b_Code_givePlaces 31 = .ok (.invokevirtual 116, 3) := by decide +kernel
theorem d_Code_givePlaces_34 : decode b_Code_givePlaces 34 = .ok (.istore_n 3, 1) := by decide +kernel
theorem d_Code_givePlaces_35 : decode b_Code_givePlaces 35 = .ok (.iload_n 3, 1) := by decide +kernel
theorem d_Code_givePlaces_36 : decode b_Code_givePlaces 36 = .ok (.iconst (-1), 1) := by decide +kernel
theorem d_Code_givePlaces_37 : decode b_Code_givePlaces 37 = .ok (.if_icmp .ne 12, 3) := by decide +kernel
theorem d_Code_givePlaces_40 : decode b_Code_givePlaces 40 = .ok (.aload_n 0, 1) := by decide +kernel
theorem d_Code_givePlaces_41 : decode b_Code_givePlaces 41 = .ok (.iload_n 2, 1) := by decide +kernel
theorem d_Code_givePlaces_42 : decode b_Code_givePlaces 42 = .ok (.iload_n 1, 1) := by decide +kernel
theorem d_Code_givePlaces_43 : decode b_Code_givePlaces 43 = .ok (.invokevirtual 120, 3) := by decide +kernel
theorem d_Code_givePlaces_46 : decode b_Code_givePlaces 46 = .ok (.goto 17, 3) := by decide +kernel
theorem d_Code_givePlaces_49 : decode b_Code_givePlaces 49 = .ok (.aload_n 0, 1) := by decide +kernel
theorem d_Code_givePlaces_50 : decode b_Code_givePlaces 50 = .ok (.getfield 39, 3) := by decide +kernel
theorem d_Code_givePlaces_53 : decode b_Code_givePlaces 53 = .ok (.iload_n 3, 1) := by decide +kernel
theorem d_Code_givePlaces_54 : decode b_Code_givePlaces 54 = .ok (.iload_n 2, 1) := by decide +kernel
theorem d_Code_givePlaces_55 : decode b_Code_givePlaces 55 = .ok (.iastore, 1) := by decide +kernel
theorem d_Code_givePlaces_56 : decode b_Code_givePlaces 56 = .ok (.aload_n 0, 1) := by decide +kernel
theorem d_Code_givePlaces_57 : decode b_Code_givePlaces 57 = .ok (.getfield 33, 3) := by decide +kernel
theorem d_Code_givePlaces_60 : decode b_Code_givePlaces 60 = .ok (.iload_n 2, 1) := by decide +kernel
theorem d_Code_givePlaces_61 : decode b_Code_givePlaces 61 = .ok (.iload_n 3, 1) := by decide +kernel
theorem d_Code_givePlaces_62 : decode b_Code_givePlaces 62 = .ok (.iastore, 1) := by decide +kernel
theorem d_Code_givePlaces_63 : decode b_Code_givePlaces 63 = .ok (.iinc 2 1, 3) := by decide +kernel
theorem d_Code_givePlaces_66 : decode b_Code_givePlaces 66 = .ok (.goto (-51), 3) := by decide +kernel
theorem d_Code_givePlaces_69 : decode b_Code_givePlaces 69 = .ok (.return_, 1) := by decide +kernel
theorem d_Code_releaseUntil_0 : decode b_Code_releaseUntil 0 = .ok (.iconst 0, 1) := by decide +kernel
theorem d_Code_releaseUntil_1 : decode b_Code_releaseUntil 1 = .ok (.istore_n 3, 1) := by decide +kernel
theorem d_Code_releaseUntil_2 : decode b_Code_releaseUntil 2 = .ok (.iload_n 3, 1) := by decide +kernel
theorem d_Code_releaseUntil_3 : decode b_Code_releaseUntil 3 = .ok (.iload_n 2, 1) := by decide +kernel
theorem d_Code_releaseUntil_4 : decode b_Code_releaseUntil 4 = .ok (.if_icmp .ge 41, 3) := by decide +kernel
theorem d_Code_releaseUntil_7 : decode b_Code_releaseUntil 7 = .ok (.aload_n 0, 1) := by decide +kernel
theorem d_Code_releaseUntil_8 : decode b_Code_releaseUntil 8 = .ok (.getfield 39, 3) := by decide +kernel
theorem d_Code_releaseUntil_11 : decode b_Code_releaseUntil 11 = .ok (.iload_n 3, 1) := by decide +kernel
theorem d_Code_releaseUntil_12 : decode b_Code_releaseUntil 12 = .ok (.iaload, 1) := by decide +kernel
theorem d_Code_releaseUntil_13 : decode b_Code_releaseUntil 13 = .ok (.iconst (-1), 1) := by decide +kernel
theorem d_Code_releaseUntil_14 : decode b_Code_releaseUntil 14 = .ok (.if_icmp .eq 25, 3) := by decide +kernel
theorem d_Code_releaseUntil_17 : decode b_Code_releaseUntil 17 = .ok (.aload_n 0, 1) := by decide +kernel
theorem d_Code_releaseUntil_18 : decode b_Code_releaseUntil 18 = .ok (.getfield 30, 3) := by decide +kernel
theorem d_Code_releaseUntil_21 : decode b_Code_releaseUntil 21 = .ok (.aload_n 0, 1) := by decide +kernel
theorem d_Code_releaseUntil_22 : decode b_Code_releaseUntil 22 = .ok (.getfield 39, 3) := by decide +kernel
theorem d_Code_releaseUntil_25 : decode b_Code_releaseUntil 25 = .ok (.iload_n 3, 1) := by decide +kernel
theorem d_Code_releaseUntil_26 : decode b_Code_releaseUntil 26 = .ok (.iaload, 1) := by decide +kernel
theorem d_Code_releaseUntil_27 : decode b_Code_releaseUntil 27 = .ok (.iaload, 1) := by decide +kernel
theorem d_Code_releaseUntil_28 : decode b_Code_releaseUntil 28 = .ok (.iload_n 1, 1) := by decide +kernel
theorem d_Code_releaseUntil_29 : decode b_Code_releaseUntil 29 = .ok (.if_icmp .gt 10, 3) := by decide +kernel
theorem d_Code_releaseUntil_32 : decode b_Code_releaseUntil 32 = .ok (.aload_n 0, 1) := by decide +kernel
theorem d_Code_releaseUntil_33 : decode b_Code_releaseUntil 33 = .ok (.getfield 39, 3) := by decide +kernel
theorem d_Code_releaseUntil_36 : decode b_Code_releaseUntil 36 = .ok (.iload_n 3, 1) := by decide +kernel
theorem d_Code_releaseUntil_37 : decode b_Code_releaseUntil 37 = .ok (.iconst (-1), 1) := by decide +kernel
theorem d_Code_releaseUntil_38 : decode b_Code_releaseUntil 38 = .ok (.iastore, 1) := by decide +kernel
theorem d_Code_releaseUntil_39 : decode b_Code_releaseUntil 39 = .ok (.iinc 3 1, 3) := by decide +kernel
theorem d_Code_releaseUntil_42 : decode b_Code_releaseUntil 42 = .ok (.goto (-40), 3) := by decide +kernel
theorem d_Code_releaseUntil_45 : decode b_Code_releaseUntil 45 = .ok (.return_, 1) := by decide +kernel
theorem d_Code_leastFree_0 : decode b_Code_leastFree 0 = .ok (.iconst 0, 1) := by decide +kernel
theorem d_Code_leastFree_1 : decode b_Code_leastFree 1 = .ok (.istore_n 2, 1) := by decide +kernel
theorem d_Code_leastFree_2 : decode b_Code_leastFree 2 = .ok (.iload_n 2, 1) := by decide +kernel
theorem d_Code_leastFree_3 : decode b_Code_leastFree 3 = .ok (.iload_n 1, 1) := by decide +kernel
theorem d_Code_leastFree_4 : decode b_Code_leastFree 4 = .ok (.if_icmp .ge 21, 3) := by decide +kernel
theorem d_Code_leastFree_7 : decode b_Code_leastFree 7 = .ok (.aload_n 0, 1) := by decide +kernel
theorem d_Code_leastFree_8 : decode b_Code_leastFree 8 = .ok (.getfield 39, 3) := by decide +kernel
theorem d_Code_leastFree_11 : decode b_Code_leastFree 11 = .ok (.iload_n 2, 1) := by decide +kernel
theorem d_Code_leastFree_12 : decode b_Code_leastFree 12 = .ok (.iaload, 1) := by decide +kernel
theorem d_Code_leastFree_13 : decode b_Code_leastFree 13 = .ok (.iconst (-1), 1) := by decide +kernel
theorem d_Code_leastFree_14 : decode b_Code_leastFree 14 = .ok (.if_icmp .ne 5, 3) := by decide +kernel
theorem d_Code_leastFree_17 : decode b_Code_leastFree 17 = .ok (.iload_n 2, 1) := by decide +kernel
theorem d_Code_leastFree_18 : decode b_Code_leastFree 18 = .ok (.ireturn, 1) := by decide +kernel
theorem d_Code_leastFree_19 : decode b_Code_leastFree 19 = .ok (.iinc 2 1, 3) := by decide +kernel
theorem d_Code_leastFree_22 : decode b_Code_leastFree 22 = .ok (.goto (-20), 3) := by decide +kernel
theorem d_Code_leastFree_25 : decode b_Code_leastFree 25 = .ok (.iconst (-1), 1) := by decide +kernel
theorem d_Code_leastFree_26 : decode b_Code_leastFree 26 = .ok (.ireturn, 1) := by decide +kernel
theorem d_Code_spillFor_0 : decode b_Code_spillFor 0 = .ok (.iload_n 1, 1) := by decide +kernel
theorem d_Code_spillFor_1 : decode b_Code_spillFor 1 = .ok (.istore_n 3, 1) := by decide +kernel
theorem d_Code_spillFor_2 : decode b_Code_spillFor 2 = .ok (.iconst 0, 1) := by decide +kernel
theorem d_Code_spillFor_3 : decode b_Code_spillFor 3 = .ok (.istore 4, 2) := by decide +kernel
theorem d_Code_spillFor_5 : decode b_Code_spillFor 5 = .ok (.iload 4, 2) := by decide +kernel
theorem d_Code_spillFor_7 : decode b_Code_spillFor 7 = .ok (.iload_n 2, 1) := by decide +kernel
theorem d_Code_spillFor_8 : decode b_Code_spillFor 8 = .ok (.if_icmp .ge 32, 3) := by decide +kernel
theorem d_Code_spillFor_11 : decode b_Code_spillFor 11 = .ok (.aload_n 0, 1) := by decide +kernel
theorem d_Code_spillFor_12 : decode b_Code_spillFor 12 = .ok (.aload_n 0, 1) := by decide +kernel
theorem d_Code_spillFor_13 : decode b_Code_spillFor 13 = .ok (.getfield 39, 3) := by decide +kernel
theorem d_Code_spillFor_16 : decode b_Code_spillFor 16 = .ok (.iload 4, 2) := by decide +kernel
theorem d_Code_spillFor_18 : decode b_Code_spillFor 18 = .ok (.iaload, 1) := by decide +kernel
theorem d_Code_spillFor_19 : decode b_Code_spillFor 19 = .ok (.iload_n 3, 1) := by decide +kernel
theorem d_Code_spillFor_20 : decode b_Code_spillFor 20 = .ok (.invokevirtual 123, 3) := by decide +kernel
theorem d_Code_spillFor_23 : decode b_Code_spillFor 23 = .ok (.ifCond .eq 11, 3) := by decide +kernel
theorem d_Code_spillFor_26 : decode b_Code_spillFor 26 = .ok (.aload_n 0, 1) := by decide +kernel
theorem d_Code_spillFor_27 : decode b_Code_spillFor 27 = .ok (.getfield 39, 3) := by decide +kernel
theorem d_Code_spillFor_30 : decode b_Code_spillFor 30 = .ok (.iload 4, 2) := by decide +kernel
theorem d_Code_spillFor_32 : decode b_Code_spillFor 32 = .ok (.iaload, 1) := by decide +kernel
theorem d_Code_spillFor_33 : decode b_Code_spillFor 33 = .ok (.istore_n 3, 1) := by decide +kernel
theorem d_Code_spillFor_34 : decode b_Code_spillFor 34 = .ok (.iinc 4 1, 3) := by decide +kernel
theorem d_Code_spillFor_37 : decode b_Code_spillFor 37 = .ok (.goto (-32), 3) := by decide +kernel
theorem d_Code_spillFor_40 : decode b_Code_spillFor 40 = .ok (.iload_n 3, 1) := by decide +kernel
theorem d_Code_spillFor_41 : decode b_Code_spillFor 41 = .ok (.iload_n 1, 1) := by decide +kernel
theorem d_Code_spillFor_42 : decode b_Code_spillFor 42 = .ok (.if_icmp .eq 27, 3) := by decide +kernel
theorem d_Code_spillFor_45 : decode b_Code_spillFor 45 = .ok (.aload_n 0, 1) := by decide +kernel
theorem d_Code_spillFor_46 : decode b_Code_spillFor 46 = .ok (.getfield 33, 3) := by decide +kernel
theorem d_Code_spillFor_49 : decode b_Code_spillFor 49 = .ok (.iload_n 1, 1) := by decide +kernel
theorem d_Code_spillFor_50 : decode b_Code_spillFor 50 = .ok (.aload_n 0, 1) := by decide +kernel
theorem d_Code_spillFor_51 : decode b_Code_spillFor 51 = .ok (.getfield 33, 3) := by decide +kernel
theorem d_Code_spillFor_54 : decode b_Code_spillFor 54 = .ok (.iload_n 3, 1) := by decide +kernel
theorem d_Code_spillFor_55 : decode b_Code_spillFor 55 = .ok (.iaload, 1) := by decide +kernel
theorem d_Code_spillFor_56 : decode b_Code_spillFor 56 = .ok (.iastore, 1) := by decide +kernel
theorem d_Code_spillFor_57 : decode b_Code_spillFor 57 = .ok (.aload_n 0, 1) := by decide +kernel
theorem d_Code_spillFor_58 : decode b_Code_spillFor 58 = .ok (.getfield 39, 3) := by decide +kernel
theorem d_Code_spillFor_61 : decode b_Code_spillFor 61 = .ok (.aload_n 0, 1) := by decide +kernel
theorem d_Code_spillFor_62 : decode b_Code_spillFor 62 = .ok (.getfield 33, 3) := by decide +kernel
theorem d_Code_spillFor_65 : decode b_Code_spillFor 65 = .ok (.iload_n 1, 1) := by decide +kernel
theorem d_Code_spillFor_66 : decode b_Code_spillFor 66 = .ok (.iaload, 1) := by decide +kernel
theorem d_Code_spillFor_67 : decode b_Code_spillFor 67 = .ok (.iload_n 1, 1) := by decide +kernel
theorem d_Code_spillFor_68 : decode b_Code_spillFor 68 = .ok (.iastore, 1) := by decide +kernel
theorem d_Code_spillFor_69 : decode b_Code_spillFor 69 = .ok (.aload_n 0, 1) := by decide +kernel
theorem d_Code_spillFor_70 : decode b_Code_spillFor 70 = .ok (.getfield 33, 3) := by decide +kernel
theorem d_Code_spillFor_73 : decode b_Code_spillFor 73 = .ok (.iload_n 3, 1) := by decide +kernel
theorem d_Code_spillFor_74 : decode b_Code_spillFor 74 = .ok (.iload_n 2, 1) := by decide +kernel
theorem d_Code_spillFor_75 : decode b_Code_spillFor 75 = .ok (.aload_n 0, 1) := by decide +kernel
theorem d_Code_spillFor_76 : decode b_Code_spillFor 76 = .ok (.getfield 103, 3) := by decide +kernel
theorem d_Code_spillFor_79 : decode b_Code_spillFor 79 = .ok (.iadd, 1) := by decide +kernel
theorem d_Code_spillFor_80 : decode b_Code_spillFor 80 = .ok (.iastore, 1) := by decide +kernel
theorem d_Code_spillFor_81 : decode b_Code_spillFor 81 = .ok (.aload_n 0, 1) := by decide +kernel
theorem d_Code_spillFor_82 : decode b_Code_spillFor 82 = .ok (.dup, 1) := by decide +kernel
theorem d_Code_spillFor_83 : decode b_Code_spillFor 83 = .ok (.getfield 103, 3) := by decide +kernel
theorem d_Code_spillFor_86 : decode b_Code_spillFor 86 = .ok (.iconst 1, 1) := by decide +kernel
theorem d_Code_spillFor_87 : decode b_Code_spillFor 87 = .ok (.iadd, 1) := by decide +kernel
theorem d_Code_spillFor_88 : decode b_Code_spillFor 88 = .ok (.putfield 103, 3) := by decide +kernel
theorem d_Code_spillFor_91 : decode b_Code_spillFor 91 = .ok (.return_, 1) := by decide +kernel
theorem d_Code_isNeededLonger_0 : decode b_Code_isNeededLonger 0 = .ok (.aload_n 0, 1) := by decide +kernel
theorem d_Code_isNeededLonger_1 : decode b_Code_isNeededLonger 1 = .ok (.getfield 30, 3) := by decide +kernel
theorem d_Code_isNeededLonger_4 : decode b_Code_isNeededLonger 4 = .ok (.iload_n 1, 1) := by decide +kernel
theorem d_Code_isNeededLonger_5 : decode b_Code_isNeededLonger 5 = .ok (.iaload, 1) := by decide +kernel
theorem d_Code_isNeededLonger_6 : decode b_Code_isNeededLonger 6 = .ok (.aload_n 0, 1) := by decide +kernel
theorem d_Code_isNeededLonger_7 : decode b_Code_isNeededLonger 7 = .ok (.getfield 30, 3) := by decide +kernel
theorem d_Code_isNeededLonger_10 : decode b_Code_isNeededLonger 10 = .ok (.iload_n 2, 1) := by decide +kernel
theorem d_Code_isNeededLonger_11 : decode b_Code_isNeededLonger 11 = .ok (.iaload, 1) := by decide +kernel
theorem d_Code_isNeededLonger_12 : decode b_Code_isNeededLonger 12 = .ok (.if_icmp .gt 23, 3) := by decide +kernel
theorem d_Code_isNeededLonger_15 : decode b_Code_isNeededLonger 15 = .ok (.aload_n 0, 1) := by decide +kernel
theorem d_Code_isNeededLonger_16 : decode b_Code_isNeededLonger 16 = .ok (.getfield 30, 3) := by decide +kernel
theorem d_Code_isNeededLonger_19 : decode b_Code_isNeededLonger 19 = .ok (.iload_n 1, 1) := by decide +kernel
theorem d_Code_isNeededLonger_20 : decode b_Code_isNeededLonger 20 = .ok (.iaload, 1) := by decide +kernel
theorem d_Code_isNeededLonger_21 : decode b_Code_isNeededLonger 21 = .ok (.aload_n 0, 1) := by decide +kernel
theorem d_Code_isNeededLonger_22 : decode b_Code_isNeededLonger 22 = .ok (.getfield 30, 3) := by decide +kernel
theorem d_Code_isNeededLonger_25 : decode b_Code_isNeededLonger 25 = .ok (.iload_n 2, 1) := by decide +kernel
theorem d_Code_isNeededLonger_26 : decode b_Code_isNeededLonger 26 = .ok (.iaload, 1) := by decide +kernel
theorem d_Code_isNeededLonger_27 : decode b_Code_isNeededLonger 27 = .ok (.if_icmp .ne 12, 3) := by decide +kernel
theorem d_Code_isNeededLonger_30 : decode b_Code_isNeededLonger 30 = .ok (.iload_n 1, 1) := by decide +kernel
theorem d_Code_isNeededLonger_31 : decode b_Code_isNeededLonger 31 = .ok (.iload_n 2, 1) := by decide +kernel
theorem d_Code_isNeededLonger_32 : decode b_Code_isNeededLonger 32 = .ok (.if_icmp .le 7, 3) := by decide +kernel
theorem d_Code_isNeededLonger_35 : decode b_Code_isNeededLonger 35 = .ok (.iconst 1, 1) := by decide +kernel
theorem d_Code_isNeededLonger_36 : decode b_Code_isNeededLonger 36 = .ok (.goto 4, 3) := by decide +kernel
theorem d_Code_isNeededLonger_39 : decode b_Code_isNeededLonger 39 = .ok (.iconst 0, 1) := by decide +kernel
theorem d_Code_isNeededLonger_40 : decode b_Code_isNeededLonger 40 = .ok (.ireturn, 1) := by decide +kernel
theorem d_Code_tell_0 : decode b_Code_tell 0 = .ok (.iload_n 2, 1) := by decide +kernel
theorem d_Code_tell_1 : decode b_Code_tell 1 = .ok (.tableswitch 63 0 3 #[31, 38, 45, 52], 31) := by decide +kernel
theorem d_Code_tell_32 : decode b_Code_tell 32 = .ok (.aload_n 0, 1) := by decide +kernel
theorem d_Code_tell_33 : decode b_Code_tell 33 = .ok (.getfield 9, 3) := by decide +kernel
theorem d_Code_tell_36 : decode b_Code_tell 36 = .ok (.iload_n 1, 1) := by decide +kernel
theorem d_Code_tell_37 : decode b_Code_tell 37 = .ok (.iaload, 1) := by decide +kernel
theorem d_Code_tell_38 : decode b_Code_tell 38 = .ok (.ireturn, 1) := by decide +kernel
theorem d_Code_tell_39 : decode b_Code_tell 39 = .ok (.aload_n 0, 1) := by decide +kernel
theorem d_Code_tell_40 : decode b_Code_tell 40 = .ok (.getfield 15, 3) := by decide +kernel
theorem d_Code_tell_43 : decode b_Code_tell 43 = .ok (.iload_n 1, 1) := by decide +kernel
theorem d_Code_tell_44 : decode b_Code_tell 44 = .ok (.iaload, 1) := by decide +kernel
theorem d_Code_tell_45 : decode b_Code_tell 45 = .ok (.ireturn, 1) := by decide +kernel
theorem d_Code_tell_46 : decode b_Code_tell 46 = .ok (.aload_n 0, 1) := by decide +kernel
theorem d_Code_tell_47 : decode b_Code_tell 47 = .ok (.getfield 33, 3) := by decide +kernel
theorem d_Code_tell_50 : decode b_Code_tell 50 = .ok (.iload_n 1, 1) := by decide +kernel
theorem d_Code_tell_51 : decode b_Code_tell 51 = .ok (.iaload, 1) := by decide +kernel
theorem d_Code_tell_52 : decode b_Code_tell 52 = .ok (.ireturn, 1) := by decide +kernel
theorem d_Code_tell_53 : decode b_Code_tell 53 = .ok (.aload_n 0, 1) := by decide +kernel
theorem d_Code_tell_54 : decode b_Code_tell 54 = .ok (.aload_n 0, 1) := by decide +kernel
theorem d_Code_tell_55 : decode b_Code_tell 55 = .ok (.getfield 24, 3) := by decide +kernel
theorem d_Code_tell_58 : decode b_Code_tell 58 = .ok (.iload_n 1, 1) := by decide +kernel
theorem d_Code_tell_59 : decode b_Code_tell 59 = .ok (.iaload, 1) := by decide +kernel
theorem d_Code_tell_60 : decode b_Code_tell 60 = .ok (.invokevirtual 127, 3) := by decide +kernel
theorem d_Code_tell_63 : decode b_Code_tell 63 = .ok (.ireturn, 1) := by decide +kernel
theorem d_Code_tell_64 : decode b_Code_tell 64 = .ok (.aload_n 0, 1) := by decide +kernel
theorem d_Code_tell_65 : decode b_Code_tell 65 = .ok (.aload_n 0, 1) := by decide +kernel
theorem d_Code_tell_66 : decode b_Code_tell 66 = .ok (.getfield 27, 3) := by decide +kernel
theorem d_Code_tell_69 : decode b_Code_tell 69 = .ok (.iload_n 1, 1) := by decide +kernel
theorem d_Code_tell_70 : decode b_Code_tell 70 = .ok (.iaload, 1) := by decide +kernel
theorem d_Code_tell_71 : decode b_Code_tell 71 = .ok (.invokevirtual 127, 3) := by decide +kernel
theorem d_Code_tell_74 : decode b_Code_tell 74 = .ok (.ireturn, 1) := by decide +kernel
theorem d_Code_placeOf_0 : decode b_Code_placeOf 0 = .ok (.iload_n 1, 1) := by decide +kernel
theorem d_Code_placeOf_1 : decode b_Code_placeOf 1 = .ok (.bipush (-3), 2) := by decide +kernel
theorem d_Code_placeOf_3 : decode b_Code_placeOf 3 = .ok (.if_icmp .ne 8, 3) := by decide +kernel
theorem d_Code_placeOf_6 : decode b_Code_placeOf 6 = .ok (.bipush (-3), 2) := by decide +kernel
theorem d_Code_placeOf_8 : decode b_Code_placeOf 8 = .ok (.goto 9, 3) := by decide +kernel
theorem d_Code_placeOf_11 : decode b_Code_placeOf 11 = .ok (.aload_n 0, 1) := by decide +kernel
theorem d_Code_placeOf_12 : decode b_Code_placeOf 12 = .ok (.getfield 33, 3) := by decide +kernel
theorem d_Code_placeOf_15 : decode b_Code_placeOf 15 = .ok (.iload_n 1, 1) := by decide +kernel
theorem d_Code_placeOf_16 : decode b_Code_placeOf 16 = .ok (.iaload, 1) := by decide +kernel
theorem d_Code_placeOf_17 : decode b_Code_placeOf 17 = .ok (.ireturn, 1) := by decide +kernel
theorem d_Code_execute_0 : decode b_Code_execute 0 = .ok (.aload_n 0, 1) := by decide +kernel
theorem d_Code_execute_1 : decode b_Code_execute 1 = .ok (.getfield 51, 3) := by decide +kernel
theorem d_Code_execute_4 : decode b_Code_execute 4 = .ok (.ifCond .ne 5, 3) := by decide +kernel
theorem d_Code_execute_7 : decode b_Code_execute 7 = .ok (.iconst 0, 1) := by decide +kernel
theorem d_Code_execute_8 : decode b_Code_execute 8 = .ok (.ireturn, 1) := by decide +kernel
theorem d_Code_execute_9 : decode b_Code_execute 9 = .ok (.iconst 0, 1) := by decide +kernel
theorem d_Code_execute_10 : decode b_Code_execute 10 = .ok (.istore_n 2, 1) := by decide +kernel
theorem d_Code_execute_11 : decode b_Code_execute 11 = .ok (.iload_n 2, 1) := by decide +kernel
theorem d_Code_execute_12 : decode b_Code_execute 12 = .ok (.aload_n 0, 1) := by decide +kernel
theorem d_Code_execute_13 : decode b_Code_execute 13 = .ok (.getfield 51, 3) := by decide +kernel
theorem d_Code_execute_16 : decode b_Code_execute 16 = .ok (.if_icmp .ge 104, 3) := by decide +kernel
theorem d_Code_execute_19 : decode b_Code_execute 19 = .ok (.aload_n 0, 1) := by decide +kernel
theorem d_Code_execute_20 : decode b_Code_execute 20 = .ok (.getfield 24, 3) := by decide +kernel
theorem d_Code_execute_23 : decode b_Code_execute 23 = .ok (.iload_n 2, 1) := by decide +kernel
theorem d_Code_execute_24 : decode b_Code_execute 24 = .ok (.iaload, 1) := by decide +kernel
theorem d_Code_execute_25 : decode b_Code_execute 25 = .ok (.bipush (-3), 2) := by decide +kernel
theorem d_Code_execute_27 : decode b_Code_execute 27 = .ok (.if_icmp .ne 7, 3) := by decide +kernel
theorem d_Code_execute_30 : decode b_Code_execute 30 = .ok (.iconst 0, 1) := by decide +kernel
theorem d_Code_execute_31 : decode b_Code_execute 31 = .ok (.goto 19, 3) := by decide +kernel
theorem d_Code_execute_34 : decode b_Code_execute 34 = .ok (.aload_n 0, 1) := by decide +kernel
theorem d_Code_execute_35 : decode b_Code_execute 35 = .ok (.getfield 36, 3) := by decide +kernel
theorem d_Code_execute_38 : decode b_Code_execute 38 = .ok (.aload_n 0, 1) := by decide +kernel
theorem d_Code_execute_39 : decode b_Code_execute 39 = .ok (.getfield 33, 3) := by decide +kernel
theorem d_Code_execute_42 : decode b_Code_execute 42 = .ok (.aload_n 0, 1) := by decide +kernel
theorem d_Code_execute_43 : decode b_Code_execute 43 = .ok (.getfield 24, 3) := by decide +kernel
theorem d_Code_execute_46 : decode b_Code_execute 46 = .ok (.iload_n 2, 1) := by decide +kernel
theorem d_Code_execute_47 : decode b_Code_execute 47 = .ok (.iaload, 1) := by decide +kernel
theorem d_Code_execute_48 : decode b_Code_execute 48 = .ok (.iaload, 1) := by decide +kernel
theorem d_Code_execute_49 : decode b_Code_execute 49 = .ok (.iaload, 1) := by decide +kernel
theorem d_Code_execute_50 : decode b_Code_execute 50 = .ok (.istore_n 3, 1) := by decide +kernel
theorem d_Code_execute_51 : decode b_Code_execute 51 = .ok (.aload_n 0, 1) := by decide +kernel
theorem d_Code_execute_52 : decode b_Code_execute 52 = .ok (.getfield 27, 3) := by decide +kernel
theorem d_Code_execute_55 : decode b_Code_execute 55 = .ok (.iload_n 2, 1) := by decide +kernel
theorem d_Code_execute_56 : decode b_Code_execute 56 = .ok (.iaload, 1) := by decide +kernel
theorem d_Code_execute_57 : decode b_Code_execute 57 = .ok (.bipush (-3), 2) := by decide +kernel
theorem d_Code_execute_59 : decode b_Code_execute 59 = .ok (.if_icmp .ne 7, 3) := by decide +kernel
theorem d_Code_execute_62 : decode b_Code_execute 62 = .ok (.iconst 0, 1) := by decide +kernel
theorem d_Code_execute_63 : decode b_Code_execute 63 = .ok (.goto 19, 3) := by decide +kernel
theorem d_Code_execute_66 : decode b_Code_execute 66 = .ok (.aload_n 0, 1) := by decide +kernel
theorem d_Code_execute_67 : decode b_Code_execute 67 = .ok (.getfield 36, 3) := by decide +kernel
theorem d_Code_execute_70 : decode b_Code_execute 70 = .ok (.aload_n 0, 1) := by decide +kernel
theorem d_Code_execute_71 : decode b_Code_execute 71 = .ok (.getfield 33, 3) := by decide +kernel
theorem d_Code_execute_74 : decode b_Code_execute 74 = .ok (.aload_n 0, 1) := by decide +kernel
theorem d_Code_execute_75 : decode b_Code_execute 75 = .ok (.getfield 27, 3) := by decide +kernel
theorem d_Code_execute_78 : decode b_Code_execute 78 = .ok (.iload_n 2, 1) := by decide +kernel
theorem d_Code_execute_79 : decode b_Code_execute 79 = .ok (.iaload, 1) := by decide +kernel
theorem d_Code_execute_80 : decode b_Code_execute 80 = .ok (.iaload, 1) := by decide +kernel
theorem d_Code_execute_81 : decode b_Code_execute 81 = .ok (.iaload, 1) := by decide +kernel
theorem d_Code_execute_82 : decode b_Code_execute 82 = .ok (.istore 4, 2) := by decide +kernel
theorem d_Code_execute_84 : decode b_Code_execute 84 = .ok (.aload_n 0, 1) := by decide +kernel
theorem d_Code_execute_85 : decode b_Code_execute 85 = .ok (.getfield 36, 3) := by decide +kernel
theorem d_Code_execute_88 : decode b_Code_execute 88 = .ok (.aload_n 0, 1) := by decide +kernel
theorem d_Code_execute_89 : decode b_Code_execute 89 = .ok (.getfield 33, 3) := by decide +kernel
theorem d_Code_execute_92 : decode b_Code_execute 92 = .ok (.iload_n 2, 1) := by decide +kernel
theorem d_Code_execute_93 : decode b_Code_execute 93 = .ok (.iaload, 1) := by decide +kernel
theorem d_Code_execute_94 : decode b_Code_execute 94 = .ok (.aload_n 0, 1) := by decide +kernel
theorem d_Code_execute_95 : decode b_Code_execute 95 = .ok (.getfield 18, 3) := by decide +kernel
theorem d_Code_execute_98 : decode b_Code_execute 98 = .ok (.iload_n 2, 1) := by decide +kernel
theorem d_Code_execute_99 : decode b_Code_execute 99 = .ok (.iaload, 1) := by decide +kernel
theorem d_Code_execute_100 : decode b_Code_execute 100 = .ok (.aload_n 0, 1) := by decide +kernel
theorem d_Code_execute_101 : decode b_Code_execute 101 = .ok (.getfield 21, 3) := by decide +kernel
theorem d_Code_execute_104 : decode b_Code_execute 104 = .ok (.iload_n 2, 1) := by decide +kernel
theorem d_Code_execute_105 : decode b_Code_execute 105 = .ok (.iaload, 1) := by decide +kernel
theorem d_Code_execute_106 : decode b_Code_execute 106 = .ok (.iload_n 3, 1) := by decide +kernel
theorem d_Code_execute_107 : decode b_Code_execute 107 = .ok (.iload 4, 2) := by decide +kernel
theorem d_Code_execute_109 : decode b_Code_execute 109 = .ok (.aload_n 1, 1) := by decide +kernel
theorem d_Code_execute_110 : decode b_Code_execute 110 = .ok (.invokestatic 130, 3) := by decide +kernel
theorem d_Code_execute_113 : decode b_Code_execute 113 = .ok (.iastore, 1) := by decide +kernel
theorem d_Code_execute_114 : decode b_Code_execute 114 = .ok (.iinc 2 1, 3) := by decide +kernel
theorem d_Code_execute_117 : decode b_Code_execute 117 = .ok (.goto (-106), 3) := by decide +kernel
theorem d_Code_execute_120 : decode b_Code_execute 120 = .ok (.aload_n 0, 1) := by decide +kernel
theorem d_Code_execute_121 : decode b_Code_execute 121 = .ok (.getfield 36, 3) := by decide +kernel
theorem d_Code_execute_124 : decode b_Code_execute 124 = .ok (.aload_n 0, 1) := by decide +kernel
theorem d_Code_execute_125 : decode b_Code_execute 125 = .ok (.getfield 33, 3) := by decide +kernel
theorem d_Code_execute_128 : decode b_Code_execute 128 = .ok (.aload_n 0, 1) := by decide +kernel
theorem d_Code_execute_129 : decode b_Code_execute 129 = .ok (.getfield 51, 3) := by decide +kernel
theorem d_Code_execute_132 : decode b_Code_execute 132 = .ok (.iconst 1, 1) := by decide +kernel
theorem d_Code_execute_133 : decode b_Code_execute 133 = .ok (.isub, 1) := by decide +kernel
theorem d_Code_execute_134 : decode b_Code_execute 134 = .ok (.iaload, 1) := by decide +kernel
theorem d_Code_execute_135 : decode b_Code_execute 135 = .ok (.iaload, 1) := by decide +kernel
theorem d_Code_execute_136 : decode b_Code_execute 136 = .ok (.ireturn, 1) := by decide +kernel
theorem d_Pile_evaluateTop_0 : decode b_Pile_evaluateTop 0 = .ok (.aload_n 0, 1) := by decide +kernel
theorem d_Pile_evaluateTop_1 : decode b_Pile_evaluateTop 1 = .ok (.getfield 38, 3) := by decide +kernel
theorem d_Pile_evaluateTop_4 : decode b_Pile_evaluateTop 4 = .ok (.ifCond .ne 5, 3) := by decide +kernel
theorem d_Pile_evaluateTop_7 : decode b_Pile_evaluateTop 7 = .ok (.iconst 0, 1) := by decide +kernel
theorem d_Pile_evaluateTop_8 : decode b_Pile_evaluateTop 8 = .ok (.ireturn, 1) := by decide +kernel
theorem d_Pile_evaluateTop_9 : decode b_Pile_evaluateTop 9 = .ok (.aload_n 0, 1) := by decide +kernel
theorem d_Pile_evaluateTop_10 : decode b_Pile_evaluateTop 10 = .ok (.invokevirtual 75, 3) := by decide +kernel
theorem d_Pile_evaluateTop_13 : decode b_Pile_evaluateTop 13 = .ok (.istore_n 2, 1) := by decide +kernel
theorem d_Pile_evaluateTop_14 : decode b_Pile_evaluateTop 14 = .ok (.iload_n 2, 1) := by decide +kernel
theorem d_Pile_evaluateTop_15 : decode b_Pile_evaluateTop 15 = .ok (.aload_n 0, 1) := by decide +kernel
theorem d_Pile_evaluateTop_16 : decode b_Pile_evaluateTop 16 = .ok (.getfield 42, 3) := by decide +kernel
theorem d_Pile_evaluateTop_19 : decode b_Pile_evaluateTop 19 = .ok (.if_icmp .ge 91, 3) := by decide +kernel
theorem d_Pile_evaluateTop_22 : decode b_Pile_evaluateTop 22 = .ok (.getstatic 49, 3) := by decide +kernel
theorem d_Pile_evaluateTop_25 : decode b_Pile_evaluateTop 25 = .ok (.aload_n 0, 1) := by decide +kernel
theorem d_Pile_evaluateTop_26 : decode b_Pile_evaluateTop 26 = .ok (.getfield 9, 3) := by decide +kernel
theorem d_Pile_evaluateTop_29 : decode b_Pile_evaluateTop 29 = .ok (.iload_n 2, 1) := by decide +kernel
theorem d_Pile_evaluateTop_30 : decode b_Pile_evaluateTop 30 = .ok (.iaload, 1) := by decide +kernel
theorem d_Pile_evaluateTop_31 : decode b_Pile_evaluateTop 31 = .ok (.iaload, 1) := by decide +kernel
theorem d_Pile_evaluateTop_32 : decode b_Pile_evaluateTop 32 = .ok (.istore_n 3, 1) := by decide +kernel
theorem d_Pile_evaluateTop_33 : decode b_Pile_evaluateTop 33 = .ok (.iload_n 3, 1) := by decide +kernel
theorem d_Pile_evaluateTop_34 : decode b_Pile_evaluateTop 34 = .ok (.ifCond .ne 7, 3) := by decide +kernel
theorem d_Pile_evaluateTop_37 : decode b_Pile_evaluateTop 37 = .ok (.iconst 0, 1) := by decide +kernel
theorem d_Pile_evaluateTop_38 : decode b_Pile_evaluateTop 38 = .ok (.goto 19, 3) := by decide +kernel
theorem d_Pile_evaluateTop_41 : decode b_Pile_evaluateTop 41 = .ok (.aload_n 0, 1) := by decide +kernel
theorem d_Pile_evaluateTop_42 : decode b_Pile_evaluateTop 42 = .ok (.getfield 24, 3) := by decide +kernel
theorem d_Pile_evaluateTop_45 : decode b_Pile_evaluateTop 45 = .ok (.aload_n 0, 1) := by decide +kernel
theorem d_Pile_evaluateTop_46 : decode b_Pile_evaluateTop 46 = .ok (.iload_n 2, 1) := by decide +kernel
theorem d_Pile_evaluateTop_47 : decode b_Pile_evaluateTop 47 = .ok (.aload_n 0, 1) := by decide +kernel
theorem d_Pile_evaluateTop_48 : decode b_Pile_evaluateTop 48 = .ok (.getfield 9, 3) := by decide +kernel
theorem d_Pile_evaluateTop_51 : decode b_Pile_evaluateTop 51 = .ok (.iload_n 2, 1) := by decide +kernel
theorem d_Pile_evaluateTop_52 : decode b_Pile_evaluateTop 52 = .ok (.iaload, 1) := by decide +kernel
theorem d_Pile_evaluateTop_53 : decode b_Pile_evaluateTop 53 = .ok (.invokevirtual 52, 3) := by decide +kernel
theorem d_Pile_evaluateTop_56 : decode b_Pile_evaluateTop 56 = .ok (.iaload, 1) := by decide +kernel
theorem d_Pile_evaluateTop_57 : decode b_Pile_evaluateTop 57 = .ok (.istore 4, 2) := by decide +kernel
theorem d_Pile_evaluateTop_59 : decode b_Pile_evaluateTop 59 = .ok (.iload_n 3, 1) := by decide +kernel
theorem d_Pile_evaluateTop_60 : decode b_Pile_evaluateTop 60 = .ok (.iconst 2, 1) := by decide +kernel
theorem d_Pile_evaluateTop_61 : decode b_Pile_evaluateTop 61 = .ok (.if_icmp .ne 14, 3) := by decide +kernel
theorem d_Pile_evaluateTop_64 : decode b_Pile_evaluateTop 64 = .ok (.aload_n 0, 1) := by decide +kernel
theorem d_Pile_evaluateTop_65 : decode b_Pile_evaluateTop 65 = .ok (.getfield 24, 3) := by decide +kernel
theorem d_Pile_evaluateTop_68 : decode b_Pile_evaluateTop 68 = .ok (.iload_n 2, 1) := by decide +kernel
theorem d_Pile_evaluateTop_69 : decode b_Pile_evaluateTop 69 = .ok (.iconst 1, 1) := by decide +kernel
theorem d_Pile_evaluateTop_70 : decode b_Pile_evaluateTop 70 = .ok (.isub, 1) := by decide +kernel
theorem d_Pile_evaluateTop_71 : decode b_Pile_evaluateTop 71 = .ok (.iaload, 1) := by decide +kernel
theorem d_Pile_evaluateTop_72 : decode b_Pile_evaluateTop 72 = .ok (.goto 4, 3) := by decide +kernel
theorem d_Pile_evaluateTop_75 : decode b_Pile_evaluateTop 75 = .ok (.iconst 0, 1) := by decide +kernel
theorem d_Pile_evaluateTop_76 : decode b_Pile_evaluateTop 76 = .ok (.istore 5, 2) := by decide +kernel
theorem d_Pile_evaluateTop_78 : decode b_Pile_evaluateTop 78 = .ok (.aload_n 0, 1) := by decide +kernel
theorem d_Pile_evaluateTop_79 : decode b_Pile_evaluateTop 79 = .ok (.getfield 24, 3) := by decide +kernel
theorem d_Pile_evaluateTop_82 : decode b_Pile_evaluateTop 82 = .ok (.iload_n 2, 1) := by decide +kernel
theorem d_Pile_evaluateTop_83 : decode b_Pile_evaluateTop 83 = .ok (.aload_n 0, 1) := by decide +kernel
theorem d_Pile_evaluateTop_84 : decode b_Pile_evaluateTop 84 = .ok (.getfield 9, 3) := by decide +kernel
theorem d_Pile_evaluateTop_87 : decode b_Pile_evaluateTop 87 = .ok (.iload_n 2, 1) := by decide +kernel
theorem d_Pile_evaluateTop_88 : decode b_Pile_evaluateTop 88 = .ok (.iaload, 1) := by decide +kernel
theorem d_Pile_evaluateTop_89 : decode b_Pile_evaluateTop 89 = .ok (.aload_n 0, 1) := by decide +kernel
theorem d_Pile_evaluateTop_90 : decode b_Pile_evaluateTop 90 = .ok (.getfield 15, 3) := by decide +kernel
theorem d_Pile_evaluateTop_93 : decode b_Pile_evaluateTop 93 = .ok (.iload_n 2, 1) := by decide +kernel
theorem d_Pile_evaluateTop_94 : decode b_Pile_evaluateTop 94 = .ok (.iaload, 1) := by decide +kernel
theorem d_Pile_evaluateTop_95 : decode b_Pile_evaluateTop 95 = .ok (.iload 4, 2) := by decide +kernel
theorem d_Pile_evaluateTop_97 : decode b_Pile_evaluateTop 97 = .ok (.iload 5, 2) := by decide +kernel
theorem d_Pile_evaluateTop_99 : decode b_Pile_evaluateTop 99 = .ok (.aload_n 1, 1) := by decide +kernel
theorem d_Pile_evaluateTop_100 : decode b_Pile_evaluateTop 100 = .ok (.invokestatic 78, 3) := by decide +kernel
theorem d_Pile_evaluateTop_103 : decode b_Pile_evaluateTop 103 = .ok (.iastore, 1) := by decide +kernel
theorem d_Pile_evaluateTop_104 : decode b_Pile_evaluateTop 104 = .ok (.iinc 2 1, 3) := by decide +kernel
theorem d_Pile_evaluateTop_107 : decode b_Pile_evaluateTop 107 = .ok (.goto (-93), 3) := by decide +kernel
theorem d_Pile_evaluateTop_110 : decode b_Pile_evaluateTop 110 = .ok (.aload_n 0, 1) := by decide +kernel
theorem d_Pile_evaluateTop_111 : decode b_Pile_evaluateTop 111 = .ok (.getfield 24, 3) := by decide +kernel
theorem d_Pile_evaluateTop_114 : decode b_Pile_evaluateTop 114 = .ok (.aload_n 0, 1) := by decide +kernel
theorem d_Pile_evaluateTop_115 : decode b_Pile_evaluateTop 115 = .ok (.getfield 42, 3) := by decide +kernel
theorem d_Pile_evaluateTop_118 : decode b_Pile_evaluateTop 118 = .ok (.iconst 1, 1) := by decide +kernel
theorem d_Pile_evaluateTop_119 : decode b_Pile_evaluateTop 119 = .ok (.isub, 1) := by decide +kernel
theorem d_Pile_evaluateTop_120 : decode b_Pile_evaluateTop 120 = .ok (.iaload, 1) := by decide +kernel
theorem d_Pile_evaluateTop_121 : decode b_Pile_evaluateTop 121 = .ok (.ireturn, 1) := by decide +kernel
