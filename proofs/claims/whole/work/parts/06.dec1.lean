/-! What stands at each place of the code. -/
theorem d_Forge_init_0 : decode b_Forge_init 0 = .ok (.aload_n 0, 1) := by decide +kernel
theorem d_Forge_init_1 : decode b_Forge_init 1 = .ok (.invokespecial 3, 3) := by decide +kernel
theorem d_Forge_init_4 : decode b_Forge_init 4 = .ok (.aload_n 0, 1) := by decide +kernel
theorem d_Forge_init_5 : decode b_Forge_init 5 = .ok (.new 9, 3) := by decide +kernel
theorem d_Forge_init_8 : decode b_Forge_init 8 = .ok (.dup, 1) := by decide +kernel
theorem d_Forge_init_9 : decode b_Forge_init 9 = .ok (.invokespecial 11, 3) := by decide +kernel
theorem d_Forge_init_12 : decode b_Forge_init 12 = .ok (.putfield 12, 3) := by decide +kernel
theorem d_Forge_init_15 : decode b_Forge_init 15 = .ok (.aload_n 0, 1) := by decide +kernel
theorem d_Forge_init_16 : decode b_Forge_init 16 = .ok (.new 16, 3) := by decide +kernel
theorem d_Forge_init_19 : decode b_Forge_init 19 = .ok (.dup, 1) := by decide +kernel
theorem d_Forge_init_20 : decode b_Forge_init 20 = .ok (.invokespecial 18, 3) := by decide +kernel
theorem d_Forge_init_23 : decode b_Forge_init 23 = .ok (.putfield 19, 3) := by decide +kernel
theorem d_Forge_init_26 : decode b_Forge_init 26 = .ok (.aload_n 0, 1) := by decide +kernel
theorem d_Forge_init_27 : decode b_Forge_init 27 = .ok (.new 23, 3) := by decide +kernel
theorem d_Forge_init_30 : decode b_Forge_init 30 = .ok (.dup, 1) := by decide +kernel
theorem d_Forge_init_31 : decode b_Forge_init 31 = .ok (.invokespecial 25, 3) := by decide +kernel
theorem d_Forge_init_34 : decode b_Forge_init 34 = .ok (.putfield 26, 3) := by decide +kernel
theorem d_Forge_init_37 : decode b_Forge_init 37 = .ok (.aload_n 0, 1) := by decide +kernel
theorem d_Forge_init_38 : decode b_Forge_init 38 = .ok (.new 30, 3) := by decide +kernel
theorem d_Forge_init_41 : decode b_Forge_init 41 = .ok (.dup, 1) := by decide +kernel
theorem d_Forge_init_42 : decode b_Forge_init 42 = .ok (.invokespecial 32, 3) := by decide +kernel
theorem d_Forge_init_45 : decode b_Forge_init 45 = .ok (.putfield 33, 3) := by decide +kernel
theorem d_Forge_init_48 : decode b_Forge_init 48 = .ok (.aload_n 0, 1) := by decide +kernel
theorem d_Forge_init_49 : decode b_Forge_init 49 = .ok (.bipush 8, 2) := by decide +kernel
theorem d_Forge_init_51 : decode b_Forge_init 51 = .ok (.newarray .int, 2) := by decide +kernel
theorem d_Forge_init_53 : decode b_Forge_init 53 = .ok (.putfield 37, 3) := by decide +kernel
theorem d_Forge_init_56 : decode b_Forge_init 56 = .ok (.aload_n 0, 1) := by decide +kernel
theorem d_Forge_init_57 : decode b_Forge_init 57 = .ok (.iconst 3, 1) := by decide +kernel
theorem d_Forge_init_58 : decode b_Forge_init 58 = .ok (.putfield 41, 3) := by decide +kernel
theorem d_Forge_init_61 : decode b_Forge_init 61 = .ok (.return_, 1) := by decide +kernel
theorem d_Book_init_0 : decode b_Book_init 0 = .ok (.aload_n 0, 1) := by decide +kernel
theorem d_Book_init_1 : decode b_Book_init 1 = .ok (.invokespecial 3, 3) := by decide +kernel
theorem d_Book_init_4 : decode b_Book_init 4 = .ok (.aload_n 0, 1) := by decide +kernel
theorem d_Book_init_5 : decode b_Book_init 5 = .ok (.bipush 24, 2) := by decide +kernel
theorem d_Book_init_7 : decode b_Book_init 7 = .ok (.newarray .int, 2) := by decide +kernel
theorem d_Book_init_9 : decode b_Book_init 9 = .ok (.putfield 9, 3) := by decide +kernel
theorem d_Book_init_12 : decode b_Book_init 12 = .ok (.aload_n 0, 1) := by decide +kernel
theorem d_Book_init_13 : decode b_Book_init 13 = .ok (.bipush 24, 2) := by decide +kernel
theorem d_Book_init_15 : decode b_Book_init 15 = .ok (.newarray .int, 2) := by decide +kernel
theorem d_Book_init_17 : decode b_Book_init 17 = .ok (.putfield 15, 3) := by decide +kernel
theorem d_Book_init_20 : decode b_Book_init 20 = .ok (.aload_n 0, 1) := by decide +kernel
theorem d_Book_init_21 : decode b_Book_init 21 = .ok (.bipush 24, 2) := by decide +kernel
theorem d_Book_init_23 : decode b_Book_init 23 = .ok (.newarray .int, 2) := by decide +kernel
theorem d_Book_init_25 : decode b_Book_init 25 = .ok (.putfield 18, 3) := by decide +kernel
theorem d_Book_init_28 : decode b_Book_init 28 = .ok (.aload_n 0, 1) := by decide +kernel
theorem d_Book_init_29 : decode b_Book_init 29 = .ok (.bipush 24, 2) := by decide +kernel
theorem d_Book_init_31 : decode b_Book_init 31 = .ok (.newarray .int, 2) := by decide +kernel
theorem d_Book_init_33 : decode b_Book_init 33 = .ok (.putfield 21, 3) := by decide +kernel
theorem d_Book_init_36 : decode b_Book_init 36 = .ok (.aload_n 0, 1) := by decide +kernel
theorem d_Book_init_37 : decode b_Book_init 37 = .ok (.bipush 24, 2) := by decide +kernel
theorem d_Book_init_39 : decode b_Book_init 39 = .ok (.newarray .int, 2) := by decide +kernel
theorem d_Book_init_41 : decode b_Book_init 41 = .ok (.putfield 24, 3) := by decide +kernel
theorem d_Book_init_44 : decode b_Book_init 44 = .ok (.aload_n 0, 1) := by decide +kernel
theorem d_Book_init_45 : decode b_Book_init 45 = .ok (.bipush 9, 2) := by decide +kernel
theorem d_Book_init_47 : decode b_Book_init 47 = .ok (.bipush 24, 2) := by decide +kernel
theorem d_Book_init_49 : decode b_Book_init 49 = .ok (.multianewarray 27 2, 4) := by decide +kernel
theorem d_Book_init_53 : decode b_Book_init 53 = .ok (.putfield 29, 3) := by decide +kernel
theorem d_Book_init_56 : decode b_Book_init 56 = .ok (.aload_n 0, 1) := by decide +kernel
theorem d_Book_init_57 : decode b_Book_init 57 = .ok (.bipush 9, 2) := by decide +kernel
theorem d_Book_init_59 : decode b_Book_init 59 = .ok (.newarray .int, 2) := by decide +kernel
theorem d_Book_init_61 : decode b_Book_init 61 = .ok (.putfield 32, 3) := by decide +kernel
theorem d_Book_init_64 : decode b_Book_init 64 = .ok (.return_, 1) := by decide +kernel
theorem d_Label_init_0 : decode b_Label_init 0 = .ok (.aload_n 0, 1) := by decide +kernel
theorem d_Label_init_1 : decode b_Label_init 1 = .ok (.invokespecial 3, 3) := by decide +kernel
theorem d_Label_init_4 : decode b_Label_init 4 = .ok (.aload_n 0, 1) := by decide +kernel
theorem d_Label_init_5 : decode b_Label_init 5 = .ok (.iconst 4, 1) := by decide +kernel
theorem d_Label_init_6 : decode b_Label_init 6 = .ok (.newarray .long, 2) := by decide +kernel
theorem d_Label_init_8 : decode b_Label_init 8 = .ok (.putfield 9, 3) := by decide +kernel
theorem d_Label_init_11 : decode b_Label_init 11 = .ok (.aload_n 0, 1) := by decide +kernel
theorem d_Label_init_12 : decode b_Label_init 12 = .ok (.iconst 4, 1) := by decide +kernel
theorem d_Label_init_13 : decode b_Label_init 13 = .ok (.newarray .int, 2) := by decide +kernel
theorem d_Label_init_15 : decode b_Label_init 15 = .ok (.putfield 15, 3) := by decide +kernel
theorem d_Label_init_18 : decode b_Label_init 18 = .ok (.return_, 1) := by decide +kernel
theorem d_Table_init_0 : decode b_Table_init 0 = .ok (.aload_n 0, 1) := by decide +kernel
theorem d_Table_init_1 : decode b_Table_init 1 = .ok (.invokespecial 3, 3) := by decide +kernel
theorem d_Table_init_4 : decode b_Table_init 4 = .ok (.aload_n 0, 1) := by decide +kernel
theorem d_Table_init_5 : decode b_Table_init 5 = .ok (.bipush 41, 2) := by decide +kernel
theorem d_Table_init_7 : decode b_Table_init 7 = .ok (.anewarray 9, 3) := by decide +kernel
theorem d_Table_init_10 : decode b_Table_init 10 = .ok (.putfield 11, 3) := by decide +kernel
theorem d_Table_init_13 : decode b_Table_init 13 = .ok (.aload_n 0, 1) := by decide +kernel
theorem d_Table_init_14 : decode b_Table_init 14 = .ok (.new 9, 3) := by decide +kernel
theorem d_Table_init_17 : decode b_Table_init 17 = .ok (.dup, 1) := by decide +kernel
theorem d_Table_init_18 : decode b_Table_init 18 = .ok (.invokespecial 17, 3) := by decide +kernel
theorem d_Table_init_21 : decode b_Table_init 21 = .ok (.putfield 18, 3) := by decide +kernel
theorem d_Table_init_24 : decode b_Table_init 24 = .ok (.aload_n 0, 1) := by decide +kernel
theorem d_Table_init_25 : decode b_Table_init 25 = .ok (.iconst 0, 1) := by decide +kernel
theorem d_Table_init_26 : decode b_Table_init 26 = .ok (.putfield 22, 3) := by decide +kernel
theorem d_Table_init_29 : decode b_Table_init 29 = .ok (.iconst 0, 1) := by decide +kernel
theorem d_Table_init_30 : decode b_Table_init 30 = .ok (.istore_n 1, 1) := by decide +kernel
theorem d_Table_init_31 : decode b_Table_init 31 = .ok (.iload_n 1, 1) := by decide +kernel
theorem d_Table_init_32 : decode b_Table_init 32 = .ok (.aload_n 0, 1) := by decide +kernel
theorem d_Table_init_33 : decode b_Table_init 33 = .ok (.getfield 11, 3) := by decide +kernel
theorem d_Table_init_36 : decode b_Table_init 36 = .ok (.arraylength, 1) := by decide +kernel
theorem d_Table_init_37 : decode b_Table_init 37 = .ok (.if_icmp .ge 22, 3) := by decide +kernel
theorem d_Table_init_40 : decode b_Table_init 40 = .ok (.aload_n 0, 1) := by decide +kernel
theorem d_Table_init_41 : decode b_Table_init 41 = .ok (.getfield 11, 3) := by decide +kernel
theorem d_Table_init_44 : decode b_Table_init 44 = .ok (.iload_n 1, 1) := by decide +kernel
theorem d_Table_init_45 : decode b_Table_init 45 = .ok (.new 9, 3) := by decide +kernel
theorem d_Table_init_48 : decode b_Table_init 48 = .ok (.dup, 1) := by decide +kernel
theorem d_Table_init_49 : decode b_Table_init 49 = .ok (.invokespecial 17, 3) := by decide +kernel
theorem d_Table_init_52 : decode b_Table_init 52 = .ok (.aastore, 1) := by decide +kernel
theorem d_Table_init_53 : decode b_Table_init 53 = .ok (.iinc 1 1, 3) := by decide +kernel
theorem d_Table_init_56 : decode b_Table_init 56 = .ok (.goto (-25), 3) := by decide +kernel
theorem d_Table_init_59 : decode b_Table_init 59 = .ok (.return_, 1) := by decide +kernel
theorem d_Forge_rule_0 : decode b_Forge_rule 0 = .ok (.iload_n 1, 1) := by decide +kernel
theorem d_Forge_rule_1 : decode b_Forge_rule 1 = .ok (.invokestatic 45, 3) := by decide +kernel
theorem d_Forge_rule_4 : decode b_Forge_rule 4 = .ok (.ifCond .eq 48, 3) := by decide +kernel
theorem d_Forge_rule_7 : decode b_Forge_rule 7 = .ok (.iload_n 2, 1) := by decide +kernel
theorem d_Forge_rule_8 : decode b_Forge_rule 8 = .ok (.ifCond .lt 44, 3) := by decide +kernel
theorem d_Forge_rule_11 : decode b_Forge_rule 11 = .ok (.iload_n 2, 1) := by decide +kernel
theorem d_Forge_rule_12 : decode b_Forge_rule 12 = .ok (.bipush 8, 2) := by decide +kernel
theorem d_Forge_rule_14 : decode b_Forge_rule 14 = .ok (.if_icmp .gt 38, 3) := by decide +kernel
theorem d_Forge_rule_17 : decode b_Forge_rule 17 = .ok (.iload_n 3, 1) := by decide +kernel
theorem d_Forge_rule_18 : decode b_Forge_rule 18 = .ok (.invokestatic 45, 3) := by decide +kernel
theorem d_Forge_rule_21 : decode b_Forge_rule 21 = .ok (.ifCond .eq 31, 3) := by decide +kernel
theorem d_Forge_rule_24 : decode b_Forge_rule 24 = .ok (.iload 4, 2) := by decide +kernel
theorem d_Forge_rule_26 : decode b_Forge_rule 26 = .ok (.invokestatic 45, 3) := by decide +kernel
theorem d_Forge_rule_29 : decode b_Forge_rule 29 = .ok (.ifCond .eq 23, 3) := by decide +kernel
theorem d_Forge_rule_32 : decode b_Forge_rule 32 = .ok (.iload_n 1, 1) := by decide +kernel
theorem d_Forge_rule_33 : decode b_Forge_rule 33 = .ok (.iload_n 2, 1) := by decide +kernel
theorem d_Forge_rule_34 : decode b_Forge_rule 34 = .ok (.iload_n 3, 1) := by decide +kernel
theorem d_Forge_rule_35 : decode b_Forge_rule 35 = .ok (.iload 4, 2) := by decide +kernel
theorem d_Forge_rule_37 : decode b_Forge_rule 37 = .ok (.invokestatic 49, 3) := by decide +kernel
theorem d_Forge_rule_40 : decode b_Forge_rule 40 = .ok (.ifCond .eq 12, 3) := by decide +kernel
theorem d_Forge_rule_43 : decode b_Forge_rule 43 = .ok (.iload_n 2, 1) := by decide +kernel
theorem d_Forge_rule_44 : decode b_Forge_rule 44 = .ok (.iload 5, 2) := by decide +kernel
theorem d_Forge_rule_46 : decode b_Forge_rule 46 = .ok (.invokestatic 53, 3) := by decide +kernel
theorem d_Forge_rule_49 : decode b_Forge_rule 49 = .ok (.ifCond .ne 5, 3) := by decide +kernel
theorem d_Forge_rule_52 : decode b_Forge_rule 52 = .ok (.iconst (-1), 1) := by decide +kernel
theorem d_Forge_rule_53 : decode b_Forge_rule 53 = .ok (.ireturn, 1) := by decide +kernel
theorem d_Forge_rule_54 : decode b_Forge_rule 54 = .ok (.aload_n 0, 1) := by decide +kernel
theorem d_Forge_rule_55 : decode b_Forge_rule 55 = .ok (.getfield 12, 3) := by decide +kernel
theorem d_Forge_rule_58 : decode b_Forge_rule 58 = .ok (.getfield 57, 3) := by decide +kernel
theorem d_Forge_rule_61 : decode b_Forge_rule 61 = .ok (.bipush 24, 2) := by decide +kernel
theorem d_Forge_rule_63 : decode b_Forge_rule 63 = .ok (.if_icmp .ne 6, 3) := by decide +kernel
theorem d_Forge_rule_66 : decode b_Forge_rule 66 = .ok (.bipush (-2), 2) := by decide +kernel
theorem d_Forge_rule_68 : decode b_Forge_rule 68 = .ok (.ireturn, 1) := by decide +kernel
theorem d_Forge_rule_69 : decode b_Forge_rule 69 = .ok (.aload_n 0, 1) := by decide +kernel
theorem d_Forge_rule_70 : decode b_Forge_rule 70 = .ok (.invokevirtual 60, 3) := by decide +kernel
theorem d_Forge_rule_73 : decode b_Forge_rule 73 = .ok (.aload_n 0, 1) := by decide +kernel
theorem d_Forge_rule_74 : decode b_Forge_rule 74 = .ok (.getfield 12, 3) := by decide +kernel
theorem d_Forge_rule_77 : decode b_Forge_rule 77 = .ok (.iload_n 1, 1) := by decide +kernel
theorem d_Forge_rule_78 : decode b_Forge_rule 78 = .ok (.iload_n 2, 1) := by decide +kernel
theorem d_Forge_rule_79 : decode b_Forge_rule 79 = .ok (.iload_n 3, 1) := by decide +kernel
theorem d_Forge_rule_80 : decode b_Forge_rule 80 = .ok (.iload 4, 2) := by decide +kernel
theorem d_Forge_rule_82 : decode b_Forge_rule 82 = .ok (.iload 5, 2) := by decide +kernel
theorem d_Forge_rule_84 : decode b_Forge_rule 84 = .ok (.invokevirtual 63, 3) := by decide +kernel
theorem d_Forge_rule_87 : decode b_Forge_rule 87 = .ok (.ireturn, 1) := by decide +kernel
theorem d_Forge_isKind_0 : decode b_Forge_isKind 0 = .ok (.iload_n 0, 1) := by decide +kernel
theorem d_Forge_isKind_1 : decode b_Forge_isKind 1 = .ok (.ifCond .lt 12, 3) := by decide +kernel
theorem d_Forge_isKind_4 : decode b_Forge_isKind 4 = .ok (.iload_n 0, 1) := by decide +kernel
theorem d_Forge_isKind_5 : decode b_Forge_isKind 5 = .ok (.iconst 4, 1) := by decide +kernel
theorem d_Forge_isKind_6 : decode b_Forge_isKind 6 = .ok (.if_icmp .ge 7, 3) := by decide +kernel
theorem d_Forge_isKind_9 : decode b_Forge_isKind 9 = .ok (.iconst 1, 1) := by decide +kernel
theorem d_Forge_isKind_10 : decode b_Forge_isKind 10 = .ok (.goto 4, 3) := by decide +kernel
theorem d_Forge_isKind_13 : decode b_Forge_isKind 13 = .ok (.iconst 0, 1) := by decide +kernel
theorem d_Forge_isKind_14 : decode b_Forge_isKind 14 = .ok (.ireturn, 1) := by decide +kernel
theorem d_Forge_fitsOperator_0 : decode b_Forge_fitsOperator 0 = .ok (.iload_n 1, 1) := by decide +kernel
theorem d_Forge_fitsOperator_1 : decode b_Forge_fitsOperator 1 = .ok (.bipush 8, 2) := by decide +kernel
theorem d_Forge_fitsOperator_3 : decode b_Forge_fitsOperator 3 = .ok (.if_icmp .ne 18, 3) := by decide +kernel
theorem d_Forge_fitsOperator_6 : decode b_Forge_fitsOperator 6 = .ok (.iload_n 2, 1) := by decide +kernel
theorem d_Forge_fitsOperator_7 : decode b_Forge_fitsOperator 7 = .ok (.iload_n 0, 1) := by decide +kernel
theorem d_Forge_fitsOperator_8 : decode b_Forge_fitsOperator 8 = .ok (.if_icmp .eq 11, 3) := by decide +kernel
theorem d_Forge_fitsOperator_11 : decode b_Forge_fitsOperator 11 = .ok (.iload_n 3, 1) := by decide +kernel
theorem d_Forge_fitsOperator_12 : decode b_Forge_fitsOperator 12 = .ok (.ifCond .ne 7, 3) := by decide +kernel
theorem d_Forge_fitsOperator_15 : decode b_Forge_fitsOperator 15 = .ok (.iconst 1, 1) := by decide +kernel
theorem d_Forge_fitsOperator_16 : decode b_Forge_fitsOperator 16 = .ok (.goto 4, 3) := by decide +kernel
theorem d_Forge_fitsOperator_19 : decode b_Forge_fitsOperator 19 = .ok (.iconst 0, 1) := by decide +kernel
theorem d_Forge_fitsOperator_20 : decode b_Forge_fitsOperator 20 = .ok (.ireturn, 1) := by decide +kernel
theorem d_Forge_fitsOperator_21 : decode b_Forge_fitsOperator 21 = .ok (.getstatic 83, 3) := by decide +kernel
theorem d_Forge_fitsOperator_24 : decode b_Forge_fitsOperator 24 = .ok (.iload_n 1, 1) := by decide +kernel
theorem d_Forge_fitsOperator_25 : decode b_Forge_fitsOperator 25 = .ok (.iaload, 1) := by decide +kernel
theorem d_Forge_fitsOperator_26 : decode b_Forge_fitsOperator 26 = .ok (.iconst 1, 1) := by decide +kernel
theorem d_Forge_fitsOperator_27 : decode b_Forge_fitsOperator 27 = .ok (.if_icmp .ge 7, 3) := by decide +kernel
theorem d_Forge_fitsOperator_30 : decode b_Forge_fitsOperator 30 = .ok (.iload_n 2, 1) := by decide +kernel
theorem d_Forge_fitsOperator_31 : decode b_Forge_fitsOperator 31 = .ok (.ifCond .ne 20, 3) := by decide +kernel
theorem d_Forge_fitsOperator_34 : decode b_Forge_fitsOperator 34 = .ok (.getstatic 83, 3) := by decide +kernel
theorem d_Forge_fitsOperator_37 : decode b_Forge_fitsOperator 37 = .ok (.iload_n 1, 1) := by decide +kernel
theorem d_Forge_fitsOperator_38 : decode b_Forge_fitsOperator 38 = .ok (.iaload, 1) := by decide +kernel
theorem d_Forge_fitsOperator_39 : decode b_Forge_fitsOperator 39 = .ok (.iconst 2, 1) := by decide +kernel
theorem d_Forge_fitsOperator_40 : decode b_Forge_fitsOperator 40 = .ok (.if_icmp .eq 7, 3) := by decide +kernel
theorem d_Forge_fitsOperator_43 : decode b_Forge_fitsOperator 43 = .ok (.iload_n 3, 1) := by decide +kernel
theorem d_Forge_fitsOperator_44 : decode b_Forge_fitsOperator 44 = .ok (.ifCond .ne 7, 3) := by decide +kernel
theorem d_Forge_fitsOperator_47 : decode b_Forge_fitsOperator 47 = .ok (.iconst 1, 1) := by decide +kernel
theorem d_Forge_fitsOperator_48 : decode b_Forge_fitsOperator 48 = .ok (.goto 4, 3) := by decide +kernel
theorem d_Forge_fitsOperator_51 : decode b_Forge_fitsOperator 51 = .ok (.iconst 0, 1) := by decide +kernel
theorem d_Forge_fitsOperator_52 : decode b_Forge_fitsOperator 52 = .ok (.ireturn, 1) := by decide +kernel
theorem d_Forge_isCostFor_0 : decode b_Forge_isCostFor 0 = .ok (.iload_n 1, 1) := by decide +kernel
theorem d_Forge_isCostFor_1 : decode b_Forge_isCostFor 1 = .ok (.iload_n 0, 1) := by decide +kernel
theorem d_Forge_isCostFor_2 : decode b_Forge_isCostFor 2 = .ok (.bipush 8, 2) := by decide +kernel
theorem d_Forge_isCostFor_4 : decode b_Forge_isCostFor 4 = .ok (.if_icmp .ne 7, 3) := by decide +kernel
theorem d_Forge_isCostFor_7 : decode b_Forge_isCostFor 7 = .ok (.iconst 1, 1) := by decide +kernel
theorem d_Forge_isCostFor_8 : decode b_Forge_isCostFor 8 = .ok (.goto 4, 3) := by decide +kernel
theorem d_Forge_isCostFor_11 : decode b_Forge_isCostFor 11 = .ok (.iconst 0, 1) := by decide +kernel
theorem d_Forge_isCostFor_12 : decode b_Forge_isCostFor 12 = .ok (.if_icmp .lt 13, 3) := by decide +kernel
theorem d_Forge_isCostFor_15 : decode b_Forge_isCostFor 15 = .ok (.iload_n 1, 1) := by decide +kernel
theorem d_Forge_isCostFor_16 : decode b_Forge_isCostFor 16 = .ok (.bipush 9, 2) := by decide +kernel
theorem d_Forge_isCostFor_18 : decode b_Forge_isCostFor 18 = .ok (.if_icmp .gt 7, 3) := by decide +kernel
theorem d_Forge_isCostFor_21 : decode b_Forge_isCostFor 21 = .ok (.iconst 1, 1) := by decide +kernel
theorem d_Forge_isCostFor_22 : decode b_Forge_isCostFor 22 = .ok (.goto 4, 3) := by decide +kernel
theorem d_Forge_isCostFor_25 : decode b_Forge_isCostFor 25 = .ok (.iconst 0, 1) := by decide +kernel
theorem d_Forge_isCostFor_26 : decode b_Forge_isCostFor 26 = .ok (.ireturn, 1) := by decide +kernel
theorem d_Forge_forgetConclusions_0 : decode b_Forge_forgetConclusions 0 = .ok (.aload_n 0, 1) := by decide +kernel
theorem d_Forge_forgetConclusions_1 : decode b_Forge_forgetConclusions 1 = .ok (.getfield 26, 3) := by decide +kernel
theorem d_Forge_forgetConclusions_4 : decode b_Forge_forgetConclusions 4 = .ok (.iconst 0, 1) := by decide +kernel
theorem d_Forge_forgetConclusions_5 : decode b_Forge_forgetConclusions 5 = .ok (.putfield 70, 3) := by decide +kernel
theorem d_Forge_forgetConclusions_8 : decode b_Forge_forgetConclusions 8 = .ok (.aload_n 0, 1) := by decide +kernel
theorem d_Forge_forgetConclusions_9 : decode b_Forge_forgetConclusions 9 = .ok (.getfield 19, 3) := by decide +kernel
theorem d_Forge_forgetConclusions_12 : decode b_Forge_forgetConclusions 12 = .ok (.iconst 0, 1) := by decide +kernel
theorem d_Forge_forgetConclusions_13 : decode b_Forge_forgetConclusions 13 = .ok (.putfield 152, 3) := by decide +kernel
theorem d_Forge_forgetConclusions_16 : decode b_Forge_forgetConclusions 16 = .ok (.return_, 1) := by decide +kernel
theorem d_Book_add_0 : decode b_Book_add 0 = .ok (.aload_n 0, 1) := by decide +kernel
theorem d_Book_add_1 : decode b_Book_add 1 = .ok (.getfield 35, 3) := by decide +kernel
theorem d_Book_add_4 : decode b_Book_add 4 = .ok (.istore 6, 2) := by decide +kernel
theorem d_Book_add_6 : decode b_Book_add 6 = .ok (.aload_n 0, 1) := by decide +kernel
theorem d_Book_add_7 : decode b_Book_add 7 = .ok (.getfield 9, 3) := by decide +kernel
theorem d_Book_add_10 : decode b_Book_add 10 = .ok (.iload 6, 2) := by decide +kernel
theorem d_Book_add_12 : decode b_Book_add 12 = .ok (.iload_n 1, 1) := by decide +kernel
theorem d_Book_add_13 : decode b_Book_add 13 = .ok (.iastore, 1) := by decide +kernel
theorem d_Book_add_14 : decode b_Book_add 14 = .ok (.aload_n 0, 1) := by decide +kernel
theorem d_Book_add_15 : decode b_Book_add 15 = .ok (.getfield 15, 3) := by decide +kernel
theorem d_Book_add_18 : decode b_Book_add 18 = .ok (.iload 6, 2) := by decide +kernel
theorem d_Book_add_20 : decode b_Book_add 20 = .ok (.iload_n 2, 1) := by decide +kernel
theorem d_Book_add_21 : decode b_Book_add 21 = .ok (.iastore, 1) := by decide +kernel
theorem d_Book_add_22 : decode b_Book_add 22 = .ok (.aload_n 0, 1) := by decide +kernel
theorem d_Book_add_23 : decode b_Book_add 23 = .ok (.getfield 18, 3) := by decide +kernel
theorem d_Book_add_26 : decode b_Book_add 26 = .ok (.iload 6, 2) := by decide +kernel
theorem d_Book_add_28 : decode b_Book_add 28 = .ok (.iload_n 3, 1) := by decide +kernel
theorem d_Book_add_29 : decode b_Book_add 29 = .ok (.iastore, 1) := by decide +kernel
theorem d_Book_add_30 : decode b_Book_add 30 = .ok (.aload_n 0, 1) := by decide +kernel
theorem d_Book_add_31 : decode b_Book_add 31 = .ok (.getfield 21, 3) := by decide +kernel
theorem d_Book_add_34 : decode b_Book_add 34 = .ok (.iload 6, 2) := by decide +kernel
theorem d_Book_add_36 : decode b_Book_add 36 = .ok (.iload 4, 2) := by decide +kernel
theorem d_Book_add_38 : decode b_Book_add 38 = .ok (.iastore, 1) := by decide +kernel
theorem d_Book_add_39 : decode b_Book_add 39 = .ok (.aload_n 0, 1) := by decide +kernel
theorem d_Book_add_40 : decode b_Book_add 40 = .ok (.getfield 24, 3) := by decide +kernel
theorem d_Book_add_43 : decode b_Book_add 43 = .ok (.iload 6, 2) := by decide +kernel
theorem d_Book_add_45 : decode b_Book_add 45 = .ok (.iload 5, 2) := by decide +kernel
theorem d_Book_add_47 : decode b_Book_add 47 = .ok (.iastore, 1) := by decide +kernel
theorem d_Book_add_48 : decode b_Book_add 48 = .ok (.aload_n 0, 1) := by decide +kernel
theorem d_Book_add_49 : decode b_Book_add 49 = .ok (.getfield 29, 3) := by decide +kernel
theorem d_Book_add_52 : decode b_Book_add 52 = .ok (.iload_n 2, 1) := by decide +kernel
theorem d_Book_add_53 : decode b_Book_add 53 = .ok (.aaload, 1) := by decide +kernel
theorem d_Book_add_54 : decode b_Book_add 54 = .ok (.aload_n 0, 1) := by decide +kernel
theorem d_Book_add_55 : decode b_Book_add 55 = .ok (.getfield 32, 3) := by decide +kernel
theorem d_Book_add_58 : decode b_Book_add 58 = .ok (.iload_n 2, 1) := by decide +kernel
theorem d_Book_add_59 : decode b_Book_add 59 = .ok (.iaload, 1) := by decide +kernel
theorem d_Book_add_60 : decode b_Book_add 60 = .ok (.iload 6, 2) := by decide +kernel
theorem d_Book_add_62 : decode b_Book_add 62 = .ok (.iastore, 1) := by decide +kernel
theorem d_Book_add_63 : decode b_Book_add 63 = .ok (.aload_n 0, 1) := by decide +kernel
theorem d_Book_add_64 : decode b_Book_add 64 = .ok (.getfield 32, 3) := by decide +kernel
theorem d_Book_add_67 : decode b_Book_add 67 = .ok (.iload_n 2, 1) := by decide +kernel
theorem d_Book_add_68 : decode b_Book_add 68 = .ok (.dup2, 1) := by decide +kernel
theorem d_Book_add_69 : decode b_Book_add 69 = .ok (.iaload, 1) := by decide +kernel
theorem d_Book_add_70 : decode b_Book_add 70 = .ok (.iconst 1, 1) := by decide +kernel
theorem d_Book_add_71 : decode b_Book_add 71 = .ok (.iadd, 1) := by decide +kernel
theorem d_Book_add_72 : decode b_Book_add 72 = .ok (.iastore, 1) := by decide +kernel
theorem d_Book_add_73 : decode b_Book_add 73 = .ok (.aload_n 0, 1) := by decide +kernel
theorem d_Book_add_74 : decode b_Book_add 74 = .ok (.dup, 1) := by decide +kernel
theorem d_Book_add_75 : decode b_Book_add 75 = .ok (.getfield 35, 3) := by decide +kernel
theorem d_Book_add_78 : decode b_Book_add 78 = .ok (.iconst 1, 1) := by decide +kernel
theorem d_Book_add_79 : decode b_Book_add 79 = .ok (.iadd, 1) := by decide +kernel
theorem d_Book_add_80 : decode b_Book_add 80 = .ok (.putfield 35, 3) := by decide +kernel
theorem d_Book_add_83 : decode b_Book_add 83 = .ok (.iload 6, 2) := by decide +kernel
theorem d_Book_add_85 : decode b_Book_add 85 = .ok (.ireturn, 1) := by decide +kernel
theorem d_Forge_clear_0 : decode b_Forge_clear 0 = .ok (.aload_n 0, 1) := by decide +kernel
theorem d_Forge_clear_1 : decode b_Forge_clear 1 = .ok (.invokevirtual 60, 3) := by decide +kernel
theorem d_Forge_clear_4 : decode b_Forge_clear 4 = .ok (.aload_n 0, 1) := by decide +kernel
theorem d_Forge_clear_5 : decode b_Forge_clear 5 = .ok (.getfield 12, 3) := by decide +kernel
theorem d_Forge_clear_8 : decode b_Forge_clear 8 = .ok (.invokevirtual 67, 3) := by decide +kernel
theorem d_Forge_clear_11 : decode b_Forge_clear 11 = .ok (.return_, 1) := by decide +kernel
theorem d_Book_removeAll_0 : decode b_Book_removeAll 0 = .ok (.aload_n 0, 1) := by decide +kernel
theorem d_Book_removeAll_1 : decode b_Book_removeAll 1 = .ok (.iconst 0, 1) := by decide +kernel
theorem d_Book_removeAll_2 : decode b_Book_removeAll 2 = .ok (.putfield 35, 3) := by decide +kernel
theorem d_Book_removeAll_5 : decode b_Book_removeAll 5 = .ok (.aload_n 0, 1) := by decide +kernel
theorem d_Book_removeAll_6 : decode b_Book_removeAll 6 = .ok (.getfield 32, 3) := by decide +kernel
theorem d_Book_removeAll_9 : decode b_Book_removeAll 9 = .ok (.iconst 0, 1) := by decide +kernel
theorem d_Book_removeAll_10 : decode b_Book_removeAll 10 = .ok (.invokestatic 39, 3) := by decide +kernel
theorem d_Book_removeAll_13 : decode b_Book_removeAll 13 = .ok (.return_, 1) := by decide +kernel
theorem d_Arrays_fillI_0 : decode b_Arrays_fillI 0 = .ok (.iconst 0, 1) := by decide +kernel
theorem d_Arrays_fillI_1 : decode b_Arrays_fillI 1 = .ok (.istore_n 2, 1) := by decide +kernel
theorem d_Arrays_fillI_2 : decode b_Arrays_fillI 2 = .ok (.aload_n 0, 1) := by decide +kernel
theorem d_Arrays_fillI_3 : decode b_Arrays_fillI 3 = .ok (.arraylength, 1) := by decide +kernel
theorem d_Arrays_fillI_4 : decode b_Arrays_fillI 4 = .ok (.istore_n 3, 1) := by decide +kernel
theorem d_Arrays_fillI_5 : decode b_Arrays_fillI 5 = .ok (.iload_n 2, 1) := by decide +kernel
theorem d_Arrays_fillI_6 : decode b_Arrays_fillI 6 = .ok (.iload_n 3, 1) := by decide +kernel
theorem d_Arrays_fillI_7 : decode b_Arrays_fillI 7 = .ok (.if_icmp .ge 13, 3) := by decide +kernel
theorem d_Arrays_fillI_10 : decode b_Arrays_fillI 10 = .ok (.aload_n 0, 1) := by decide +kernel
theorem d_Arrays_fillI_11 : decode b_Arrays_fillI 11 = .ok (.iload_n 2, 1) := by decide +kernel
theorem d_Arrays_fillI_12 : decode b_Arrays_fillI 12 = .ok (.iload_n 1, 1) := by decide +kernel
theorem d_Arrays_fillI_13 : decode b_Arrays_fillI 13 = .ok (.iastore, 1) := by decide +kernel
theorem d_Arrays_fillI_14 : decode b_Arrays_fillI 14 = .ok (.iinc 2 1, 3) := by decide +kernel
theorem d_Arrays_fillI_17 : decode b_Arrays_fillI 17 = .ok (.goto (-12), 3) := by decide +kernel
theorem d_Arrays_fillI_20 : decode b_Arrays_fillI 20 = .ok (.return_, 1) := by decide +kernel
theorem d_Forge_states_0 : decode b_Forge_states 0 = .ok (.aload_n 0, 1) := by decide +kernel
theorem d_Forge_states_1 : decode b_Forge_states 1 = .ok (.getfield 26, 3) := by decide +kernel
theorem d_Forge_states_4 : decode b_Forge_states 4 = .ok (.getfield 70, 3) := by decide +kernel
theorem d_Forge_states_7 : decode b_Forge_states 7 = .ok (.ifCond .ne 14, 3) := by decide +kernel
theorem d_Forge_states_10 : decode b_Forge_states 10 = .ok (.aload_n 0, 1) := by decide +kernel
theorem d_Forge_states_11 : decode b_Forge_states 11 = .ok (.getfield 26, 3) := by decide +kernel
theorem d_Forge_states_14 : decode b_Forge_states 14 = .ok (.aload_n 0, 1) := by decide +kernel
theorem d_Forge_states_15 : decode b_Forge_states 15 = .ok (.getfield 12, 3) := by decide +kernel
theorem d_Forge_states_18 : decode b_Forge_states 18 = .ok (.invokevirtual 73, 3) := by decide +kernel
theorem d_Forge_states_21 : decode b_Forge_states 21 = .ok (.aload_n 0, 1) := by decide +kernel
theorem d_Forge_states_22 : decode b_Forge_states 22 = .ok (.getfield 26, 3) := by decide +kernel
theorem d_Forge_states_25 : decode b_Forge_states 25 = .ok (.getfield 70, 3) := by decide +kernel
theorem d_Forge_states_28 : decode b_Forge_states 28 = .ok (.ireturn, 1) := by decide +kernel
theorem d_Table_findAll_0 : decode b_Table_findAll 0 = .ok (.aload_n 0, 1) := by decide +kernel
theorem d_Table_findAll_1 : decode b_Table_findAll 1 = .ok (.iconst 0, 1) := by decide +kernel
theorem d_Table_findAll_2 : decode b_Table_findAll 2 = .ok (.putfield 26, 3) := by decide +kernel
theorem d_Table_findAll_5 : decode b_Table_findAll 5 = .ok (.iconst 0, 1) := by decide +kernel
theorem d_Table_findAll_6 : decode b_Table_findAll 6 = .ok (.istore_n 2, 1) := by decide +kernel
theorem d_Table_findAll_7 : decode b_Table_findAll 7 = .ok (.iload_n 2, 1) := by decide +kernel
theorem d_Table_findAll_8 : decode b_Table_findAll 8 = .ok (.iconst 2, 1) := by decide +kernel
theorem d_Table_findAll_9 : decode b_Table_findAll 9 = .ok (.if_icmp .gt 23, 3) := by decide +kernel
theorem d_Table_findAll_12 : decode b_Table_findAll 12 = .ok (.aload_n 0, 1) := by decide +kernel
theorem d_Table_findAll_13 : decode b_Table_findAll 13 = .ok (.aload_n 1, 1) := by decide +kernel
theorem d_Table_findAll_14 : decode b_Table_findAll 14 = .ok (.iload_n 2, 1) := by decide +kernel
theorem d_Table_findAll_15 : decode b_Table_findAll 15 = .ok (.aload_n 0, 1) := by decide +kernel
theorem d_Table_findAll_16 : decode b_Table_findAll 16 = .ok (.getfield 18, 3) := by decide +kernel
theorem d_Table_findAll_19 : decode b_Table_findAll 19 = .ok (.aload_n 0, 1) := by decide +kernel
theorem d_Table_findAll_20 : decode b_Table_findAll 20 = .ok (.getfield 18, 3) := by decide +kernel
theorem d_Table_findAll_23 : decode b_Table_findAll 23 = .ok (.invokevirtual 29, 3) := by decide +kernel
theorem d_Table_findAll_26 : decode b_Table_findAll 26 = .ok (.iinc 2 1, 3) := by decide +kernel
theorem d_Table_findAll_29 : decode b_Table_findAll 29 = .ok (.goto (-22), 3) := by decide +kernel
theorem d_Table_findAll_32 : decode b_Table_findAll 32 = .ok (.iconst 0, 1) := by decide +kernel
theorem d_Table_findAll_33 : decode b_Table_findAll 33 = .ok (.istore_n 2, 1) := by decide +kernel
theorem d_Table_findAll_34 : decode b_Table_findAll 34 = .ok (.iload_n 2, 1) := by decide +kernel
theorem d_Table_findAll_35 : decode b_Table_findAll 35 = .ok (.aload_n 0, 1) := by decide +kernel
theorem d_Table_findAll_36 : decode b_Table_findAll 36 = .ok (.getfield 26, 3) := by decide +kernel
theorem d_Table_findAll_39 : decode b_Table_findAll 39 = .ok (.if_icmp .ge 67, 3) := by decide +kernel
theorem d_Table_findAll_42 : decode b_Table_findAll 42 = .ok (.aload_n 0, 1) := by decide +kernel
theorem d_Table_findAll_43 : decode b_Table_findAll 43 = .ok (.getfield 26, 3) := by decide +kernel
theorem d_Table_findAll_46 : decode b_Table_findAll 46 = .ok (.bipush 40, 2) := by decide +kernel
theorem d_Table_findAll_48 : decode b_Table_findAll 48 = .ok (.if_icmp .gt 58, 3) := by decide +kernel
theorem d_Table_findAll_51 : decode b_Table_findAll 51 = .ok (.iconst 3, 1) := by decide +kernel
theorem d_Table_findAll_52 : decode b_Table_findAll 52 = .ok (.istore_n 3, 1) := by decide +kernel
theorem d_Table_findAll_53 : decode b_Table_findAll 53 = .ok (.iload_n 3, 1) := by decide +kernel
theorem d_Table_findAll_54 : decode b_Table_findAll 54 = .ok (.iconst 4, 1) := by decide +kernel
theorem d_Table_findAll_55 : decode b_Table_findAll 55 = .ok (.if_icmp .gt 25, 3) := by decide +kernel
theorem d_Table_findAll_58 : decode b_Table_findAll 58 = .ok (.aload_n 0, 1) := by decide +kernel
theorem d_Table_findAll_59 : decode b_Table_findAll 59 = .ok (.aload_n 1, 1) := by decide +kernel
theorem d_Table_findAll_60 : decode b_Table_findAll 60 = .ok (.iload_n 3, 1) := by decide +kernel
theorem d_Table_findAll_61 : decode b_Table_findAll 61 = .ok (.aload_n 0, 1) := by decide +kernel
theorem d_Table_findAll_62 : decode b_Table_findAll 62 = .ok (.getfield 11, 3) := by decide +kernel
theorem d_Table_findAll_65 : decode b_Table_findAll 65 = .ok (.iload_n 2, 1) := by decide +kernel
theorem d_Table_findAll_66 : decode b_Table_findAll 66 = .ok (.aaload, 1) := by decide +kernel
theorem d_Table_findAll_67 : decode b_Table_findAll 67 = .ok (.aload_n 0, 1) := by decide +kernel
theorem d_Table_findAll_68 : decode b_Table_findAll 68 = .ok (.getfield 18, 3) := by decide +kernel
theorem d_Table_findAll_71 : decode b_Table_findAll 71 = .ok (.invokevirtual 29, 3) := by decide +kernel
theorem d_Table_findAll_74 : decode b_Table_findAll 74 = .ok (.iinc 3 1, 3) := by decide +kernel
theorem d_Table_findAll_77 : decode b_Table_findAll 77 = .ok (.goto (-24), 3) := by decide +kernel
theorem d_Table_findAll_80 : decode b_Table_findAll 80 = .ok (.iconst 0, 1) := by decide +kernel
theorem d_Table_findAll_81 : decode b_Table_findAll 81 = .ok (.istore_n 3, 1) := by decide +kernel
theorem d_Table_findAll_82 : decode b_Table_findAll 82 = .ok (.iload_n 3, 1) := by decide +kernel
theorem d_Table_findAll_83 : decode b_Table_findAll 83 = .ok (.iload_n 2, 1) := by decide +kernel
theorem d_Table_findAll_84 : decode b_Table_findAll 84 = .ok (.if_icmp .gt 16, 3) := by decide +kernel
theorem d_Table_findAll_87 : decode b_Table_findAll 87 = .ok (.aload_n 0, 1) := by decide +kernel
theorem d_Table_findAll_88 : decode b_Table_findAll 88 = .ok (.aload_n 1, 1) := by decide +kernel
theorem d_Table_findAll_89 : decode b_Table_findAll 89 = .ok (.iload_n 2, 1) := by decide +kernel
theorem d_Table_findAll_90 : decode b_Table_findAll 90 = .ok (.iload_n 3, 1) := by decide +kernel
theorem d_Table_findAll_91 : decode b_Table_findAll 91 = .ok (.invokevirtual 33, 3) := by decide +kernel
theorem d_Table_findAll_94 : decode b_Table_findAll 94 = .ok (.iinc 3 1, 3) := by decide +kernel
theorem d_Table_findAll_97 : decode b_Table_findAll 97 = .ok (.goto (-15), 3) := by decide +kernel
theorem d_Table_findAll_100 : decode b_Table_findAll 100 = .ok (.iinc 2 1, 3) := by decide +kernel
theorem d_Table_findAll_103 : decode b_Table_findAll 103 = .ok (.goto (-69), 3) := by decide +kernel
theorem d_Table_findAll_106 : decode b_Table_findAll 106 = .ok (.aload_n 0, 1) := by decide +kernel
theorem d_Table_findAll_107 : decode b_Table_findAll 107 = .ok (.aload_n 0, 1) := by decide +kernel
theorem d_Table_findAll_108 : decode b_Table_findAll 108 = .ok (.getfield 26, 3) := by decide +kernel
theorem d_Table_findAll_111 : decode b_Table_findAll 111 = .ok (.bipush 40, 2) := by decide +kernel
theorem d_Table_findAll_113 : decode b_Table_findAll 113 = .ok (.if_icmp .le 8, 3) := by decide +kernel
theorem d_Table_findAll_116 : decode b_Table_findAll 116 = .ok (.bipush (-4), 2) := by decide +kernel
theorem d_Table_findAll_118 : decode b_Table_findAll 118 = .ok (.goto 7, 3) := by decide +kernel
theorem d_Table_findAll_121 : decode b_Table_findAll 121 = .ok (.aload_n 0, 1) := by decide +kernel
theorem d_Table_findAll_122 : decode b_Table_findAll 122 = .ok (.getfield 26, 3) := by decide +kernel
theorem d_Table_findAll_125 : decode b_Table_findAll 125 = .ok (.putfield 22, 3) := by decide +kernel
theorem d_Table_findAll_128 : decode b_Table_findAll 128 = .ok (.return_, 1) := by decide +kernel
theorem d_Table_look_0 : decode b_Table_look 0 = .ok (.aload_n 0, 1) := by decide +kernel
theorem d_Table_look_1 : decode b_Table_look 1 = .ok (.getfield 26, 3) := by decide +kernel
theorem d_Table_look_4 : decode b_Table_look 4 = .ok (.bipush 40, 2) := by decide +kernel
theorem d_Table_look_6 : decode b_Table_look 6 = .ok (.if_icmp .le 4, 3) := by decide +kernel
theorem d_Table_look_9 : decode b_Table_look 9 = .ok (.return_, 1) := by decide +kernel
theorem d_Table_look_10 : decode b_Table_look 10 = .ok (.aload_n 0, 1) := by decide +kernel
theorem d_Table_look_11 : decode b_Table_look 11 = .ok (.getfield 11, 3) := by decide +kernel
theorem d_Table_look_14 : decode b_Table_look 14 = .ok (.aload_n 0, 1) := by decide +kernel
theorem d_Table_look_15 : decode b_Table_look 15 = .ok (.getfield 26, 3) := by decide +kernel
theorem d_Table_look_18 : decode b_Table_look 18 = .ok (.aaload, 1) := by decide +kernel
theorem d_Table_look_19 : decode b_Table_look 19 = .ok (.astore 5, 2) := by decide +kernel
theorem d_Table_look_21 : decode b_Table_look 21 = .ok (.aload 5, 2) := by decide +kernel
theorem d_Table_look_23 : decode b_Table_look 23 = .ok (.aload_n 1, 1) := by decide +kernel
theorem d_Table_look_24 : decode b_Table_look 24 = .ok (.iload_n 2, 1) := by decide +kernel
theorem d_Table_look_25 : decode b_Table_look 25 = .ok (.aload_n 3, 1) := by decide +kernel
theorem d_Table_look_26 : decode b_Table_look 26 = .ok (.aload 4, 2) := by decide +kernel
theorem d_Table_look_28 : decode b_Table_look 28 = .ok (.invokevirtual 37, 3) := by decide +kernel
theorem d_Table_look_31 : decode b_Table_look 31 = .ok (.aload 5, 2) := by decide +kernel
theorem d_Table_look_33 : decode b_Table_look 33 = .ok (.invokevirtual 40, 3) := by decide +kernel
theorem d_Table_look_36 : decode b_Table_look 36 = .ok (.iconst 0, 1) := by decide +kernel
theorem d_Table_look_37 : decode b_Table_look 37 = .ok (.istore 6, 2) := by decide +kernel
theorem d_Table_look_39 : decode b_Table_look 39 = .ok (.iload 6, 2) := by decide +kernel
theorem d_Table_look_41 : decode b_Table_look 41 = .ok (.aload_n 0, 1) := by decide +kernel
theorem d_Table_look_42 : decode b_Table_look 42 = .ok (.getfield 26, 3) := by decide +kernel
theorem d_Table_look_45 : decode b_Table_look 45 = .ok (.if_icmp .ge 25, 3) := by decide +kernel
theorem d_Table_look_48 : decode b_Table_look 48 = .ok (.aload_n 0, 1) := by decide +kernel
theorem d_Table_look_49 : decode b_Table_look 49 = .ok (.getfield 11, 3) := by decide +kernel
theorem d_Table_look_52 : decode b_Table_look 52 = .ok (.iload 6, 2) := by decide +kernel
theorem d_Table_look_54 : decode b_Table_look 54 = .ok (.aaload, 1) := by decide +kernel
theorem d_Table_look_55 : decode b_Table_look 55 = .ok (.aload 5, 2) := by decide +kernel
theorem d_Table_look_57 : decode b_Table_look 57 = .ok (.invokevirtual 43, 3) := by decide +kernel
theorem d_Table_look_60 : decode b_Table_look 60 = .ok (.ifCond .eq 4, 3) := by decide +kernel
theorem d_Table_look_63 : decode b_Table_look 63 = .ok (.return_, 1) := by decide +kernel
theorem d_Table_look_64 : decode b_Table_look 64 = .ok (.iinc 6 1, 3) := by decide +kernel
theorem d_Table_look_67 : decode b_Table_look 67 = .ok (.goto (-28), 3) := by decide +kernel
theorem d_Table_look_70 : decode b_Table_look 70 = .ok (.aload_n 0, 1) := by decide +kernel
theorem d_Table_look_71 : decode b_Table_look 71 = .ok (.dup, 1) := by decide +kernel
theorem d_Table_look_72 : decode b_Table_look 72 = .ok (.getfield 26, 3) := by decide +kernel
theorem d_Table_look_75 : decode b_Table_look 75 = .ok (.iconst 1, 1) := by decide +kernel
theorem d_Table_look_76 : decode b_Table_look 76 = .ok (.iadd, 1) := by decide +kernel
theorem d_Table_look_77 : decode b_Table_look 77 = .ok (.putfield 26, 3) := by decide +kernel
theorem d_Table_look_80 : decode b_Table_look 80 = .ok (.return_, 1) := by decide +kernel
theorem d_Label_derive_0 : decode b_Label_derive 0 = .ok (.aload_n 0, 1) := by decide +kernel
theorem d_Label_derive_1 : decode b_Label_derive 1 = .ok (.getfield 9, 3) := by decide +kernel
theorem d_Label_derive_4 : decode b_Label_derive 4 = .ok (.ldc2_w 19, 3) := by decide +kernel
theorem d_Label_derive_7 : decode b_Label_derive 7 = .ok (.invokestatic 21, 3) := by decide +kernel
theorem d_Label_derive_10 : decode b_Label_derive 10 = .ok (.aload_n 0, 1) := by decide +kernel
theorem d_Label_derive_11 : decode b_Label_derive 11 = .ok (.getfield 15, 3) := by decide +kernel
theorem d_Label_derive_14 : decode b_Label_derive 14 = .ok (.bipush (-3), 2) := by decide +kernel
theorem d_Label_derive_16 : decode b_Label_derive 16 = .ok (.invokestatic 27, 3) := by decide +kernel
theorem d_Label_derive_19 : decode b_Label_derive 19 = .ok (.aload_n 1, 1) := by decide +kernel
theorem d_Label_derive_20 : decode b_Label_derive 20 = .ok (.getfield 30, 3) := by decide +kernel
theorem d_Label_derive_23 : decode b_Label_derive 23 = .ok (.iload_n 2, 1) := by decide +kernel
theorem d_Label_derive_24 : decode b_Label_derive 24 = .ok (.iaload, 1) := by decide +kernel
theorem d_Label_derive_25 : decode b_Label_derive 25 = .ok (.istore 5, 2) := by decide +kernel
theorem d_Label_derive_27 : decode b_Label_derive 27 = .ok (.iconst 0, 1) := by decide +kernel
theorem d_Label_derive_28 : decode b_Label_derive 28 = .ok (.istore 6, 2) := by decide +kernel
theorem d_Label_derive_30 : decode b_Label_derive 30 = .ok (.iload 6, 2) := by decide +kernel
theorem d_Label_derive_32 : decode b_Label_derive 32 = .ok (.iload 5, 2) := by decide +kernel
theorem d_Label_derive_34 : decode b_Label_derive 34 = .ok (.if_icmp .ge 81, 3) := by decide +kernel
theorem d_Label_derive_37 : decode b_Label_derive 37 = .ok (.aload_n 1, 1) := by decide +kernel
theorem d_Label_derive_38 : decode b_Label_derive 38 = .ok (.getfield 35, 3) := by decide +kernel
theorem d_Label_derive_41 : decode b_Label_derive 41 = .ok (.iload_n 2, 1) := by decide +kernel
theorem d_Label_derive_42 : decode b_Label_derive 42 = .ok (.aaload, 1) := by decide +kernel
theorem d_Label_derive_43 : decode b_Label_derive 43 = .ok (.iload 6, 2) := by decide +kernel
theorem d_Label_derive_45 : decode b_Label_derive 45 = .ok (.iaload, 1) := by decide +kernel
theorem d_Label_derive_46 : decode b_Label_derive 46 = .ok (.istore 7, 2) := by decide +kernel
theorem d_Label_derive_48 : decode b_Label_derive 48 = .ok (.aload_n 1, 1) := by decide +kernel
theorem d_Label_derive_49 : decode b_Label_derive 49 = .ok (.getfield 39, 3) := by decide +kernel
theorem d_Label_derive_52 : decode b_Label_derive 52 = .ok (.iload 7, 2) := by decide +kernel
theorem d_Label_derive_54 : decode b_Label_derive 54 = .ok (.iaload, 1) := by decide +kernel
theorem d_Label_derive_55 : decode b_Label_derive 55 = .ok (.istore 8, 2) := by decide +kernel
theorem d_Label_derive_57 : decode b_Label_derive 57 = .ok (.aload_n 1, 1) := by decide +kernel
theorem d_Label_derive_58 : decode b_Label_derive 58 = .ok (.getfield 42, 3) := by decide +kernel
theorem d_Label_derive_61 : decode b_Label_derive 61 = .ok (.iload 7, 2) := by decide +kernel
theorem d_Label_derive_63 : decode b_Label_derive 63 = .ok (.iaload, 1) := by decide +kernel
theorem d_Label_derive_64 : decode b_Label_derive 64 = .ok (.istore 9, 2) := by decide +kernel
theorem d_Label_derive_66 : decode b_Label_derive 66 = .ok (.aload_n 3, 1) := by decide +kernel
theorem d_Label_derive_67 : decode b_Label_derive 67 = .ok (.iload 8, 2) := by decide +kernel
theorem d_Label_derive_69 : decode b_Label_derive 69 = .ok (.invokevirtual 45, 3) := by decide +kernel
theorem d_Label_derive_72 : decode b_Label_derive 72 = .ok (.ifCond .eq 37, 3) := by decide +kernel
theorem d_Label_derive_75 : decode b_Label_derive 75 = .ok (.aload 4, 2) := by decide +kernel
theorem d_Label_derive_77 : decode b_Label_derive 77 = .ok (.iload 9, 2) := by decide +kernel
theorem d_Label_derive_79 : decode b_Label_derive 79 = .ok (.invokevirtual 45, 3) := by decide +kernel
theorem d_Label_derive_82 : decode b_Label_derive 82 = .ok (.ifCond .eq 27, 3) := by decide +kernel
theorem d_Label_derive_85 : decode b_Label_derive 85 = .ok (.aload_n 0, 1) := by decide +kernel
theorem d_Label_derive_86 : decode b_Label_derive 86 = .ok (.aload_n 1, 1) := by decide +kernel
theorem d_Label_derive_87 : decode b_Label_derive 87 = .ok (.iload 7, 2) := by decide +kernel
theorem d_Label_derive_89 : decode b_Label_derive 89 = .ok (.aload_n 3, 1) := by decide +kernel
theorem d_Label_derive_90 : decode b_Label_derive 90 = .ok (.getfield 9, 3) := by decide +kernel
theorem d_Label_derive_93 : decode b_Label_derive 93 = .ok (.iload 8, 2) := by decide +kernel
theorem d_Label_derive_95 : decode b_Label_derive 95 = .ok (.laload, 1) := by decide +kernel
theorem d_Label_derive_96 : decode b_Label_derive 96 = .ok (.aload 4, 2) := by decide +kernel
theorem d_Label_derive_98 : decode b_Label_derive 98 = .ok (.getfield 9, 3) := by decide +kernel
theorem d_Label_derive_101 : decode b_Label_derive 101 = .ok (.iload 9, 2) := by decide +kernel
theorem d_Label_derive_103 : decode b_Label_derive 103 = .ok (.laload, 1) := by decide +kernel
theorem d_Label_derive_104 : decode b_Label_derive 104 = .ok (.ladd, 1) := by decide +kernel
theorem d_Label_derive_105 : decode b_Label_derive 105 = .ok (.invokevirtual 49, 3) := by decide +kernel
theorem d_Label_derive_108 : decode b_Label_derive 108 = .ok (.pop, 1) := by decide +kernel
theorem d_Label_derive_109 : decode b_Label_derive 109 = .ok (.iinc 6 1, 3) := by decide +kernel
theorem d_Label_derive_112 : decode b_Label_derive 112 = .ok (.goto (-82), 3) := by decide +kernel
theorem d_Label_derive_115 : decode b_Label_derive 115 = .ok (.aload_n 0, 1) := by decide +kernel
theorem d_Label_derive_116 : decode b_Label_derive 116 = .ok (.aload_n 1, 1) := by decide +kernel
theorem d_Label_derive_117 : decode b_Label_derive 117 = .ok (.invokevirtual 53, 3) := by decide +kernel
theorem d_Label_derive_120 : decode b_Label_derive 120 = .ok (.return_, 1) := by decide +kernel
theorem d_Arrays_fillJ_0 : decode b_Arrays_fillJ 0 = .ok (.iconst 0, 1) := by decide +kernel
theorem d_Arrays_fillJ_1 : decode b_Arrays_fillJ 1 = .ok (.istore_n 3, 1) := by decide +kernel
theorem d_Arrays_fillJ_2 : decode b_Arrays_fillJ 2 = .ok (.aload_n 0, 1) := by decide +kernel
theorem d_Arrays_fillJ_3 : decode b_Arrays_fillJ 3 = .ok (.arraylength, 1) := by decide +kernel
theorem d_Arrays_fillJ_4 : decode b_Arrays_fillJ 4 = .ok (.istore 4, 2) := by decide +kernel
theorem d_Arrays_fillJ_6 : decode b_Arrays_fillJ 6 = .ok (.iload_n 3, 1) := by decide +kernel
theorem d_Arrays_fillJ_7 : decode b_Arrays_fillJ 7 = .ok (.iload 4, 2) := by decide +kernel
theorem d_Arrays_fillJ_9 : decode b_Arrays_fillJ 9 = .ok (.if_icmp .ge 13, 3) := by decide +kernel
theorem d_Arrays_fillJ_12 : decode b_Arrays_fillJ 12 = .ok (.aload_n 0, 1) := by decide +kernel
theorem d_Arrays_fillJ_13 : decode b_Arrays_fillJ 13 = .ok (.iload_n 3, 1) := by decide +kernel
theorem d_Arrays_fillJ_14 : decode b_Arrays_fillJ 14 = .ok (.lload_n 1, 1) := by decide +kernel
theorem d_Arrays_fillJ_15 : decode b_Arrays_fillJ 15 = .ok (.lastore, 1) := by decide +kernel
theorem d_Arrays_fillJ_16 : decode b_Arrays_fillJ 16 = .ok (.iinc 3 1, 3) := by decide +kernel
theorem d_Arrays_fillJ_19 : decode b_Arrays_fillJ 19 = .ok (.goto (-13), 3) := by decide +kernel
theorem d_Arrays_fillJ_22 : decode b_Arrays_fillJ 22 = .ok (.return_, 1) := by decide +kernel
theorem d_Label_isCovered_0 : decode b_Label_isCovered 0 = .ok (.aload_n 0, 1) := by decide +kernel
theorem d_Label_isCovered_1 : decode b_Label_isCovered 1 = .ok (.getfield 9, 3) := by decide +kernel
theorem d_Label_isCovered_4 : decode b_Label_isCovered 4 = .ok (.iload_n 1, 1) := by decide +kernel
theorem d_Label_isCovered_5 : decode b_Label_isCovered 5 = .ok (.laload, 1) := by decide +kernel
theorem d_Label_isCovered_6 : decode b_Label_isCovered 6 = .ok (.ldc2_w 19, 3) := by decide +kernel
theorem d_Label_isCovered_9 : decode b_Label_isCovered 9 = .ok (.lcmp, 1) := by decide +kernel
theorem d_Label_isCovered_10 : decode b_Label_isCovered 10 = .ok (.ifCond .eq 7, 3) := by decide +kernel
theorem d_Label_isCovered_13 : decode b_Label_isCovered 13 = .ok (.iconst 1, 1) := by decide +kernel
theorem d_Label_isCovered_14 : decode b_Label_isCovered 14 = .ok (.goto 4, 3) := by decide +kernel
theorem d_Label_isCovered_17 : decode b_Label_isCovered 17 = .ok (.iconst 0, 1) := by decide +kernel
theorem d_Label_isCovered_18 : decode b_Label_isCovered 18 = .ok (.ireturn, 1) := by decide +kernel
theorem d_Label_offer_0 : decode b_Label_offer 0 = .ok (.aload_n 1, 1) := by decide +kernel
theorem d_Label_offer_1 : decode b_Label_offer 1 = .ok (.getfield 57, 3) := by decide +kernel
theorem d_Label_offer_4 : decode b_Label_offer 4 = .ok (.iload_n 2, 1) := by decide +kernel
theorem d_Label_offer_5 : decode b_Label_offer 5 = .ok (.iaload, 1) := by decide +kernel
theorem d_Label_offer_6 : decode b_Label_offer 6 = .ok (.istore 5, 2) := by decide +kernel
theorem d_Label_offer_8 : decode b_Label_offer 8 = .ok (.lload_n 3, 1) := by decide +kernel
theorem d_Label_offer_9 : decode b_Label_offer 9 = .ok (.aload_n 1, 1) := by decide +kernel
theorem d_Label_offer_10 : decode b_Label_offer 10 = .ok (.getfield 60, 3) := by decide +kernel
theorem d_Label_offer_13 : decode b_Label_offer 13 = .ok (.iload_n 2, 1) := by decide +kernel
theorem d_Label_offer_14 : decode b_Label_offer 14 = .ok (.iaload, 1) := by decide +kernel
theorem d_Label_offer_15 : decode b_Label_offer 15 = .ok (.i2l, 1) := by decide +kernel
theorem d_Label_offer_16 : decode b_Label_offer 16 = .ok (.ladd, 1) := by decide +kernel
theorem d_Label_offer_17 : decode b_Label_offer 17 = .ok (.lstore 6, 2) := by decide +kernel
theorem d_Label_offer_19 : decode b_Label_offer 19 = .ok (.aload_n 0, 1) := by decide +kernel
theorem d_Label_offer_20 : decode b_Label_offer 20 = .ok (.getfield 9, 3) := by decide +kernel
theorem d_Label_offer_23 : decode b_Label_offer 23 = .ok (.iload 5, 2) := by decide +kernel
theorem d_Label_offer_25 : decode b_Label_offer 25 = .ok (.laload, 1) := by decide +kernel
theorem d_Label_offer_26 : decode b_Label_offer 26 = .ok (.ldc2_w 19, 3) := by decide +kernel
theorem d_Label_offer_29 : decode b_Label_offer 29 = .ok (.lcmp, 1) := by decide +kernel
theorem d_Label_offer_30 : decode b_Label_offer 30 = .ok (.ifCond .eq 40, 3) := by decide +kernel
theorem d_Label_offer_33 : decode b_Label_offer 33 = .ok (.lload 6, 2) := by decide +kernel
theorem d_Label_offer_35 : decode b_Label_offer 35 = .ok (.aload_n 0, 1) := by decide +kernel
theorem d_Label_offer_36 : decode b_Label_offer 36 = .ok (.getfield 9, 3) := by decide +kernel
theorem d_Label_offer_39 : decode b_Label_offer 39 = .ok (.iload 5, 2) := by decide +kernel
theorem d_Label_offer_41 : decode b_Label_offer 41 = .ok (.laload, 1) := by decide +kernel
theorem d_Label_offer_42 : decode b_Label_offer 42 = .ok (.lcmp, 1) := by decide +kernel
theorem d_Label_offer_43 : decode b_Label_offer 43 = .ok (.ifCond .lt 27, 3) := by decide +kernel
theorem d_Label_offer_46 : decode b_Label_offer 46 = .ok (.lload 6, 2) := by decide +kernel
theorem d_Label_offer_48 : decode b_Label_offer 48 = .ok (.aload_n 0, 1) := by decide +kernel
theorem d_Label_offer_49 : decode b_Label_offer 49 = .ok (.getfield 9, 3) := by decide +kernel
theorem d_Label_offer_52 : decode b_Label_offer 52 = .ok (.iload 5, 2) := by decide +kernel
theorem d_Label_offer_54 : decode b_Label_offer 54 = .ok (.laload, 1) := by decide +kernel
theorem d_Label_offer_55 : decode b_Label_offer 55 = .ok (.lcmp, 1) := by decide +kernel
theorem d_Label_offer_56 : decode b_Label_offer 56 = .ok (.ifCond .ne 18, 3) := by decide +kernel
theorem d_Label_offer_59 : decode b_Label_offer 59 = .ok (.iload_n 2, 1) := by decide +kernel
theorem d_Label_offer_60 : decode b_Label_offer 60 = .ok (.aload_n 0, 1) := by decide +kernel
theorem d_Label_offer_61 : decode b_Label_offer 61 = .ok (.getfield 15, 3) := by decide +kernel
theorem d_Label_offer_64 : decode b_Label_offer 64 = .ok (.iload 5, 2) := by decide +kernel
theorem d_Label_offer_66 : decode b_Label_offer 66 = .ok (.iaload, 1) := by decide +kernel
theorem d_Label_offer_67 : decode b_Label_offer 67 = .ok (.if_icmp .ge 7, 3) := by decide +kernel
theorem d_Label_offer_70 : decode b_Label_offer 70 = .ok (.iconst 1, 1) := by decide +kernel
theorem d_Label_offer_71 : decode b_Label_offer 71 = .ok (.goto 4, 3) := by decide +kernel
theorem d_Label_offer_74 : decode b_Label_offer 74 = .ok (.iconst 0, 1) := by decide +kernel
theorem d_Label_offer_75 : decode b_Label_offer 75 = .ok (.istore 8, 2) := by decide +kernel
theorem d_Label_offer_77 : decode b_Label_offer 77 = .ok (.iload 8, 2) := by decide +kernel
theorem d_Label_offer_79 : decode b_Label_offer 79 = .ok (.ifCond .eq 20, 3) := by decide +kernel
theorem d_Label_offer_82 : decode b_Label_offer 82 = .ok (.aload_n 0, 1) := by decide +kernel
theorem d_Label_offer_83 : decode b_Label_offer 83 = .ok (.getfield 9, 3) := by decide +kernel
theorem d_Label_offer_86 : decode b_Label_offer 86 = .ok (.iload 5, 2) := by decide +kernel
theorem d_Label_offer_88 : decode b_Label_offer 88 = .ok (.lload 6, 2) := by decide +kernel
theorem d_Label_offer_90 : decode b_Label_offer 90 = .ok (.lastore, 1) := by decide +kernel
theorem d_Label_offer_91 : decode b_Label_offer 91 = .ok (.aload_n 0, 1) := by decide +kernel
theorem d_Label_offer_92 : decode b_Label_offer 92 = .ok (.getfield 15, 3) := by decide +kernel
theorem d_Label_offer_95 : decode b_Label_offer 95 = .ok (.iload 5, 2) := by decide +kernel
theorem d_Label_offer_97 : decode b_Label_offer 97 = .ok (.iload_n 2, 1) := by decide +kernel
theorem d_Label_offer_98 : decode b_Label_offer 98 = .ok (.iastore, 1) := by decide +kernel
theorem d_Label_offer_99 : decode b_Label_offer 99 = .ok (.iload 8, 2) := by decide +kernel
theorem d_Label_offer_101 : decode b_Label_offer 101 = .ok (.ireturn, 1) := by decide +kernel
theorem d_Label_applyChains_0 : decode b_Label_applyChains 0 = .ok (.aload_n 1, 1) := by decide +kernel
theorem d_Label_applyChains_1 : decode b_Label_applyChains 1 = .ok (.getfield 30, 3) := by decide +kernel
theorem d_Label_applyChains_4 : decode b_Label_applyChains 4 = .ok (.bipush 8, 2) := by decide +kernel
theorem d_Label_applyChains_6 : decode b_Label_applyChains 6 = .ok (.iaload, 1) := by decide +kernel
theorem d_Label_applyChains_7 : decode b_Label_applyChains 7 = .ok (.istore_n 2, 1) := by decide +kernel
theorem d_Label_applyChains_8 : decode b_Label_applyChains 8 = .ok (.iconst 1, 1) := by decide +kernel
theorem d_Label_applyChains_9 : decode b_Label_applyChains 9 = .ok (.istore_n 3, 1) := by decide +kernel
theorem d_Label_applyChains_10 : decode b_Label_applyChains 10 = .ok (.iconst 0, 1) := by decide +kernel
theorem d_Label_applyChains_11 : decode b_Label_applyChains 11 = .ok (.istore 4, 2) := by decide +kernel
theorem d_Label_applyChains_13 : decode b_Label_applyChains 13 = .ok (.iload 4, 2) := by decide +kernel
theorem d_Label_applyChains_15 : decode b_Label_applyChains 15 = .ok (.iconst 3, 1) := by decide +kernel
theorem d_Label_applyChains_16 : decode b_Label_applyChains 16 = .ok (.if_icmp .ge 79, 3) := by decide +kernel
theorem d_Label_applyChains_19 : decode b_Label_applyChains 19 = .ok (.iload_n 3, 1) := by decide +kernel
theorem d_Label_applyChains_20 : decode b_Label_applyChains 20 = .ok (.ifCond .eq 75, 3) := by decide +kernel
theorem d_Label_applyChains_23 : decode b_Label_applyChains 23 = .ok (.iconst 0, 1) := by decide +kernel
theorem d_Label_applyChains_24 : decode b_Label_applyChains 24 = .ok (.istore_n 3, 1) := by decide +kernel
theorem d_Label_applyChains_25 : decode b_Label_applyChains 25 = .ok (.iconst 0, 1) := by decide +kernel
theorem d_Label_applyChains_26 : decode b_Label_applyChains 26 = .ok (.istore 5, 2) := by decide +kernel
theorem d_Label_applyChains_28 : decode b_Label_applyChains 28 = .ok (.iload 5, 2) := by decide +kernel
theorem d_Label_applyChains_30 : decode b_Label_applyChains 30 = .ok (.iload_n 2, 1) := by decide +kernel
theorem d_Label_applyChains_31 : decode b_Label_applyChains 31 = .ok (.if_icmp .ge 58, 3) := by decide +kernel
theorem d_Label_applyChains_34 : decode b_Label_applyChains 34 = .ok (.aload_n 1, 1) := by decide +kernel
theorem d_Label_applyChains_35 : decode b_Label_applyChains 35 = .ok (.getfield 35, 3) := by decide +kernel
theorem d_Label_applyChains_38 : decode b_Label_applyChains 38 = .ok (.bipush 8, 2) := by decide +kernel
theorem d_Label_applyChains_40 : decode b_Label_applyChains 40 = .ok (.aaload, 1) := by decide +kernel
theorem d_Label_applyChains_41 : decode b_Label_applyChains 41 = .ok (.iload 5, 2) := by decide +kernel
theorem d_Label_applyChains_43 : decode b_Label_applyChains 43 = .ok (.iaload, 1) := by decide +kernel
theorem d_Label_applyChains_44 : decode b_Label_applyChains 44 = .ok (.istore 6, 2) := by decide +kernel
theorem d_Label_applyChains_46 : decode b_Label_applyChains 46 = .ok (.aload_n 1, 1) := by decide +kernel
theorem d_Label_applyChains_47 : decode b_Label_applyChains 47 = .ok (.getfield 39, 3) := by decide +kernel
theorem d_Label_applyChains_50 : decode b_Label_applyChains 50 = .ok (.iload 6, 2) := by decide +kernel
theorem d_Label_applyChains_52 : decode b_Label_applyChains 52 = .ok (.iaload, 1) := by decide +kernel
theorem d_Label_applyChains_53 : decode b_Label_applyChains 53 = .ok (.istore 7, 2) := by decide +kernel
theorem d_Label_applyChains_55 : decode b_Label_applyChains 55 = .ok (.aload_n 0, 1) := by decide +kernel
theorem d_Label_applyChains_56 : decode b_Label_applyChains 56 = .ok (.iload 7, 2) := by decide +kernel
theorem d_Label_applyChains_58 : decode b_Label_applyChains 58 = .ok (.invokevirtual 45, 3) := by decide +kernel
theorem d_Label_applyChains_61 : decode b_Label_applyChains 61 = .ok (.ifCond .eq 22, 3) := by decide +kernel
theorem d_Label_applyChains_64 : decode b_Label_applyChains 64 = .ok (.aload_n 0, 1) := by decide +kernel
theorem d_Label_applyChains_65 : decode b_Label_applyChains 65 = .ok (.aload_n 1, 1) := by decide +kernel
theorem d_Label_applyChains_66 : decode b_Label_applyChains 66 = .ok (.iload 6, 2) := by decide +kernel
theorem d_Label_applyChains_68 : decode b_Label_applyChains 68 = .ok (.aload_n 0, 1) := by decide +kernel
theorem d_Label_applyChains_69 : decode b_Label_applyChains 69 = .ok (.getfield 9, 3) := by decide +kernel
theorem d_Label_applyChains_72 : decode b_Label_applyChains 72 = .ok (.iload 7, 2) := by decide +kernel
theorem d_Label_applyChains_74 : decode b_Label_applyChains 74 = .ok (.laload, 1) := by decide +kernel
theorem d_Label_applyChains_75 : decode b_Label_applyChains 75 = .ok (.invokevirtual 49, 3) := by decide +kernel
theorem d_Label_applyChains_78 : decode b_Label_applyChains 78 = .ok (.ifCond .eq 5, 3) := by decide +kernel
theorem d_Label_applyChains_81 : decode b_Label_applyChains 81 = .ok (.iconst 1, 1) := by decide +kernel
theorem d_Label_applyChains_82 : decode b_Label_applyChains 82 = .ok (.istore_n 3, 1) := by decide +kernel
theorem d_Label_applyChains_83 : decode b_Label_applyChains 83 = .ok (.iinc 5 1, 3) := by decide +kernel
theorem d_Label_applyChains_86 : decode b_Label_applyChains 86 = .ok (.goto (-58), 3) := by decide +kernel
theorem d_Label_applyChains_89 : decode b_Label_applyChains 89 = .ok (.iinc 4 1, 3) := by decide +kernel
theorem d_Label_applyChains_92 : decode b_Label_applyChains 92 = .ok (.goto (-79), 3) := by decide +kernel
theorem d_Label_applyChains_95 : decode b_Label_applyChains 95 = .ok (.return_, 1) := by decide +kernel
theorem d_Label_makeRelative_0 : decode b_Label_makeRelative 0 = .ok (.aload_n 0, 1) := by decide +kernel
theorem d_Label_makeRelative_1 : decode b_Label_makeRelative 1 = .ok (.invokevirtual 62, 3) := by decide +kernel
theorem d_Label_makeRelative_4 : decode b_Label_makeRelative 4 = .ok (.lstore_n 1, 1) := by decide +kernel
theorem d_Label_makeRelative_5 : decode b_Label_makeRelative 5 = .ok (.iconst 0, 1) := by decide +kernel
theorem d_Label_makeRelative_6 : decode b_Label_makeRelative 6 = .ok (.istore_n 3, 1) := by decide +kernel
theorem d_Label_makeRelative_7 : decode b_Label_makeRelative 7 = .ok (.iload_n 3, 1) := by decide +kernel
theorem d_Label_makeRelative_8 : decode b_Label_makeRelative 8 = .ok (.iconst 4, 1) := by decide +kernel
theorem d_Label_makeRelative_9 : decode b_Label_makeRelative 9 = .ok (.if_icmp .ge 27, 3) := by decide +kernel
theorem d_Label_makeRelative_12 : decode b_Label_makeRelative 12 = .ok (.aload_n 0, 1) := by decide +kernel
theorem d_Label_makeRelative_13 : decode b_Label_makeRelative 13 = .ok (.iload_n 3, 1) := by decide +kernel
theorem d_Label_makeRelative_14 : decode b_Label_makeRelative 14 = .ok (.invokevirtual 45, 3) := by decide +kernel
theorem d_Label_makeRelative_17 : decode b_Label_makeRelative 17 = .ok (.ifCond .eq 13, 3) := by decide +kernel
theorem d_Label_makeRelative_20 : decode b_Label_makeRelative 20 = .ok (.aload_n 0, 1) := by decide +kernel
theorem d_Label_makeRelative_21 : decode b_Label_makeRelative 21 = .ok (.getfield 9, 3) := by decide +kernel
theorem d_Label_makeRelative_24 : decode b_Label_makeRelative 24 = .ok (.iload_n 3, 1) := by decide +kernel
theorem d_Label_makeRelative_25 : decode b_Label_makeRelative 25 = .ok (.dup2, 1) := by decide +kernel
theorem d_Label_makeRelative_26 : decode b_Label_makeRelative 26 = .ok (.laload, 1) := by decide +kernel
theorem d_Label_makeRelative_27 : decode b_Label_makeRelative 27 = .ok (.lload_n 1, 1) := by decide +kernel
theorem d_Label_makeRelative_28 : decode b_Label_makeRelative 28 = .ok (.lsub, 1) := by decide +kernel
theorem d_Label_makeRelative_29 : decode b_Label_makeRelative 29 = .ok (.lastore, 1) := by decide +kernel
theorem d_Label_makeRelative_30 : decode b_Label_makeRelative 30 = .ok (.iinc 3 1, 3) := by decide +kernel
theorem d_Label_makeRelative_33 : decode b_Label_makeRelative 33 = .ok (.goto (-26), 3) := by decide +kernel
theorem d_Label_makeRelative_36 : decode b_Label_makeRelative 36 = .ok (.return_, 1) := by decide +kernel
theorem d_Label_leastCost_0 : decode b_Label_leastCost 0 = .ok (.ldc2_w 19, 3) := by decide +kernel
theorem d_Label_leastCost_3 : decode b_Label_leastCost 3 = .ok (.lstore_n 1, 1) := by decide +kernel
theorem d_Label_leastCost_4 : decode b_Label_leastCost 4 = .ok (.iconst 0, 1) := by decide +kernel
theorem d_Label_leastCost_5 : decode b_Label_leastCost 5 = .ok (.istore_n 3, 1) := by decide +kernel
theorem d_Label_leastCost_6 : decode b_Label_leastCost 6 = .ok (.iload_n 3, 1) := by decide +kernel
theorem d_Label_leastCost_7 : decode b_Label_leastCost 7 = .ok (.iconst 4, 1) := by decide +kernel
theorem d_Label_leastCost_8 : decode b_Label_leastCost 8 = .ok (.if_icmp .ge 43, 3) := by decide +kernel
theorem d_Label_leastCost_11 : decode b_Label_leastCost 11 = .ok (.aload_n 0, 1) := by decide +kernel
theorem d_Label_leastCost_12 : decode b_Label_leastCost 12 = .ok (.iload_n 3, 1) := by decide +kernel
theorem d_Label_leastCost_13 : decode b_Label_leastCost 13 = .ok (.invokevirtual 45, 3) := by decide +kernel
theorem d_Label_leastCost_16 : decode b_Label_leastCost 16 = .ok (.ifCond .eq 29, 3) := by decide +kernel
theorem d_Label_leastCost_19 : decode b_Label_leastCost 19 = .ok (.lload_n 1, 1) := by decide +kernel
theorem d_Label_leastCost_20 : decode b_Label_leastCost 20 = .ok (.ldc2_w 19, 3) := by decide +kernel
theorem d_Label_leastCost_23 : decode b_Label_leastCost 23 = .ok (.lcmp, 1) := by decide +kernel
theorem d_Label_leastCost_24 : decode b_Label_leastCost 24 = .ok (.ifCond .eq 14, 3) := by decide +kernel
theorem d_Label_leastCost_27 : decode b_Label_leastCost 27 = .ok (.aload_n 0, 1) := by decide +kernel
theorem d_Label_leastCost_28 : decode b_Label_leastCost 28 = .ok (.getfield 9, 3) := by decide +kernel
theorem d_Label_leastCost_31 : decode b_Label_leastCost 31 = .ok (.iload_n 3, 1) := by decide +kernel
theorem d_Label_leastCost_32 : decode b_Label_leastCost 32 = .ok (.laload, 1) := by decide +kernel
theorem d_Label_leastCost_33 : decode b_Label_leastCost 33 = .ok (.lload_n 1, 1) := by decide +kernel
theorem d_Label_leastCost_34 : decode b_Label_leastCost 34 = .ok (.lcmp, 1) := by decide +kernel
theorem d_Label_leastCost_35 : decode b_Label_leastCost 35 = .ok (.ifCond .ge 10, 3) := by decide +kernel
theorem d_Label_leastCost_38 : decode b_Label_leastCost 38 = .ok (.aload_n 0, 1) := by decide +kernel
theorem d_Label_leastCost_39 : decode b_Label_leastCost 39 = .ok (.getfield 9, 3) := by decide +kernel
theorem d_Label_leastCost_42 : decode b_Label_leastCost 42 = .ok (.iload_n 3, 1) := by decide +kernel
theorem d_Label_leastCost_43 : decode b_Label_leastCost 43 = .ok (.laload, 1) := by decide +kernel
theorem d_Label_leastCost_44 : decode b_Label_leastCost 44 = .ok (.lstore_n 1, 1) := by decide +kernel
theorem d_Label_leastCost_45 : decode b_Label_leastCost 45 = .ok (.iinc 3 1, 3) := by decide +kernel
theorem d_Label_leastCost_48 : decode b_Label_leastCost 48 = .ok (.goto (-42), 3) := by decide +kernel
theorem d_Label_leastCost_51 : decode b_Label_leastCost 51 = .ok (.lload_n 1, 1) := by decide +kernel
theorem d_Label_leastCost_52 : decode b_Label_leastCost 52 = .ok (.lreturn, 1) := by decide +kernel
theorem d_Label_agreesWith_0 : decode b_Label_agreesWith 0 = .ok (.iconst 0, 1) := by decide +kernel
theorem d_Label_agreesWith_1 : decode b_Label_agreesWith 1 = .ok (.istore_n 2, 1) := by decide +kernel
theorem d_Label_agreesWith_2 : decode b_Label_agreesWith 2 = .ok (.iload_n 2, 1) := by decide +kernel
theorem d_Label_agreesWith_3 : decode b_Label_agreesWith 3 = .ok (.iconst 4, 1) := by decide +kernel
theorem d_Label_agreesWith_4 : decode b_Label_agreesWith 4 = .ok (.if_icmp .ge 42, 3) := by decide +kernel
theorem d_Label_agreesWith_7 : decode b_Label_agreesWith 7 = .ok (.aload_n 0, 1) := by decide +kernel
theorem d_Label_agreesWith_8 : decode b_Label_agreesWith 8 = .ok (.getfield 9, 3) := by decide +kernel
theorem d_Label_agreesWith_11 : decode b_Label_agreesWith 11 = .ok (.iload_n 2, 1) := by decide +kernel
theorem d_Label_agreesWith_12 : decode b_Label_agreesWith 12 = .ok (.laload, 1) := by decide +kernel
theorem d_Label_agreesWith_13 : decode b_Label_agreesWith 13 = .ok (.aload_n 1, 1) := by decide +kernel
theorem d_Label_agreesWith_14 : decode b_Label_agreesWith 14 = .ok (.getfield 9, 3) := by decide +kernel
theorem d_Label_agreesWith_17 : decode b_Label_agreesWith 17 = .ok (.iload_n 2, 1) := by decide +kernel
theorem d_Label_agreesWith_18 : decode b_Label_agreesWith 18 = .ok (.laload, 1) := by decide +kernel
theorem d_Label_agreesWith_19 : decode b_Label_agreesWith 19 = .ok (.lcmp, 1) := by decide +kernel
theorem d_Label_agreesWith_20 : decode b_Label_agreesWith 20 = .ok (.ifCond .ne 18, 3) := by decide +kernel
theorem d_Label_agreesWith_23 : decode b_Label_agreesWith 23 = .ok (.aload_n 0, 1) := by decide +kernel
theorem d_Label_agreesWith_24 : decode b_Label_agreesWith 24 = .ok (.getfield 15, 3) := by decide +kernel
theorem d_Label_agreesWith_27 : decode b_Label_agreesWith 27 = .ok (.iload_n 2, 1) := by decide +kernel
theorem d_Label_agreesWith_28 : decode b_Label_agreesWith 28 = .ok (.iaload, 1) := by decide +kernel
theorem d_Label_agreesWith_29 : decode b_Label_agreesWith 29 = .ok (.aload_n 1, 1) := by decide +kernel
theorem d_Label_agreesWith_30 : decode b_Label_agreesWith 30 = .ok (.getfield 15, 3) := by decide +kernel
theorem d_Label_agreesWith_33 : decode b_Label_agreesWith 33 = .ok (.iload_n 2, 1) := by decide +kernel
theorem d_Label_agreesWith_34 : decode b_Label_agreesWith 34 = .ok (.iaload, 1) := by decide +kernel
theorem d_Label_agreesWith_35 : decode b_Label_agreesWith 35 = .ok (.if_icmp .eq 5, 3) := by decide +kernel
theorem d_Label_agreesWith_38 : decode b_Label_agreesWith 38 = .ok (.iconst 0, 1) := by decide +kernel
theorem d_Label_agreesWith_39 : decode b_Label_agreesWith 39 = .ok (.ireturn, 1) := by decide +kernel
theorem d_Label_agreesWith_40 : decode b_Label_agreesWith 40 = .ok (.iinc 2 1, 3) := by decide +kernel
theorem d_Label_agreesWith_43 : decode b_Label_agreesWith 43 = .ok (.goto (-41), 3) := by decide +kernel
theorem d_Label_agreesWith_46 : decode b_Label_agreesWith 46 = .ok (.iconst 1, 1) := by decide +kernel
theorem d_Label_agreesWith_47 : decode b_Label_agreesWith 47 = .ok (.ireturn, 1) := by decide +kernel
theorem d_Table_lookAtPair_0 : decode b_Table_lookAtPair 0 = .ok (.iconst 5, 1) := by decide +kernel
theorem d_Table_lookAtPair_1 : decode b_Table_lookAtPair 1 = .ok (.istore 4, 2) := by decide +kernel
theorem d_Table_lookAtPair_3 : decode b_Table_lookAtPair 3 = .ok (.iload 4, 2) := by decide +kernel
theorem d_Table_lookAtPair_5 : decode b_Table_lookAtPair 5 = .ok (.bipush 7, 2) := by decide +kernel
theorem d_Table_lookAtPair_7 : decode b_Table_lookAtPair 7 = .ok (.if_icmp .gt 52, 3) := by decide +kernel
theorem d_Table_lookAtPair_10 : decode b_Table_lookAtPair 10 = .ok (.aload_n 0, 1) := by decide +kernel
theorem d_Table_lookAtPair_11 : decode b_Table_lookAtPair 11 = .ok (.aload_n 1, 1) := by decide +kernel
theorem d_Table_lookAtPair_12 : decode b_Table_lookAtPair 12 = .ok (.iload 4, 2) := by decide +kernel
theorem d_Table_lookAtPair_14 : decode b_Table_lookAtPair 14 = .ok (.aload_n 0, 1) := by decide +kernel
theorem d_Table_lookAtPair_15 : decode b_Table_lookAtPair 15 = .ok (.getfield 11, 3) := by decide +kernel
theorem d_Table_lookAtPair_18 : decode b_Table_lookAtPair 18 = .ok (.iload_n 2, 1) := by decide +kernel
theorem d_Table_lookAtPair_19 : decode b_Table_lookAtPair 19 = .ok (.aaload, 1) := by decide +kernel
theorem d_Table_lookAtPair_20 : decode b_Table_lookAtPair 20 = .ok (.aload_n 0, 1) := by decide +kernel
theorem d_Table_lookAtPair_21 : decode b_Table_lookAtPair 21 = .ok (.getfield 11, 3) := by decide +kernel
theorem d_Table_lookAtPair_24 : decode b_Table_lookAtPair 24 = .ok (.iload_n 3, 1) := by decide +kernel
theorem d_Table_lookAtPair_25 : decode b_Table_lookAtPair 25 = .ok (.aaload, 1) := by decide +kernel
theorem d_Table_lookAtPair_26 : decode b_Table_lookAtPair 26 = .ok (.invokevirtual 29, 3) := by decide +kernel
theorem d_Table_lookAtPair_29 : decode b_Table_lookAtPair 29 = .ok (.iload_n 2, 1) := by decide +kernel
theorem d_Table_lookAtPair_30 : decode b_Table_lookAtPair 30 = .ok (.iload_n 3, 1) := by decide +kernel
theorem d_Table_lookAtPair_31 : decode b_Table_lookAtPair 31 = .ok (.if_icmp .eq 22, 3) := by decide +kernel
theorem d_Table_lookAtPair_34 : decode b_Table_lookAtPair 34 = .ok (.aload_n 0, 1) := by decide +kernel
theorem d_Table_lookAtPair_35 : decode b_Table_lookAtPair 35 = .ok (.aload_n 1, 1) := by decide +kernel
theorem d_Table_lookAtPair_36 : decode b_Table_lookAtPair 36 = .ok (.iload 4, 2) := by decide +kernel
theorem d_Table_lookAtPair_38 : decode b_Table_lookAtPair 38 = .ok (.aload_n 0, 1) := by decide +kernel
theorem d_Table_lookAtPair_39 : decode b_Table_lookAtPair 39 = .ok (.getfield 11, 3) := by decide +kernel
theorem d_Table_lookAtPair_42 : decode b_Table_lookAtPair 42 = .ok (.iload_n 3, 1) := by decide +kernel
theorem d_Table_lookAtPair_43 : decode b_Table_lookAtPair 43 = .ok (.aaload, 1) := by decide +kernel
theorem d_Table_lookAtPair_44 : decode b_Table_lookAtPair 44 = .ok (.aload_n 0, 1) := by decide +kernel
theorem d_Table_lookAtPair_45 : decode b_Table_lookAtPair 45 = .ok (.getfield 11, 3) := by decide +kernel
theorem d_Table_lookAtPair_48 : decode b_Table_lookAtPair 48 = .ok (.iload_n 2, 1) := by decide +kernel
theorem d_Table_lookAtPair_49 : decode b_Table_lookAtPair 49 = .ok (.aaload, 1) := by decide +kernel
theorem d_Table_lookAtPair_50 : decode b_Table_lookAtPair 50 = .ok (.invokevirtual 29, 3) := by decide +kernel
theorem d_Table_lookAtPair_53 : decode b_Table_lookAtPair 53 = .ok (.iinc 4 1, 3) := by decide +kernel
theorem d_Table_lookAtPair_56 : decode b_Table_lookAtPair 56 = .ok (.goto (-53), 3) := by decide +kernel
theorem d_Table_lookAtPair_59 : decode b_Table_lookAtPair 59 = .ok (.return_, 1) := by decide +kernel
theorem d_Forge_push_0 : decode b_Forge_push 0 = .ok (.iload_n 1, 1) := by decide +kernel
theorem d_Forge_push_1 : decode b_Forge_push 1 = .ok (.ifCond .lt 32, 3) := by decide +kernel
theorem d_Forge_push_4 : decode b_Forge_push 4 = .ok (.iload_n 1, 1) := by decide +kernel
theorem d_Forge_push_5 : decode b_Forge_push 5 = .ok (.bipush 8, 2) := by decide +kernel
theorem d_Forge_push_7 : decode b_Forge_push 7 = .ok (.if_icmp .ge 26, 3) := by decide +kernel
theorem d_Forge_push_10 : decode b_Forge_push 10 = .ok (.iload_n 1, 1) := by decide +kernel
theorem d_Forge_push_11 : decode b_Forge_push 11 = .ok (.iload_n 2, 1) := by decide +kernel
theorem d_Forge_push_12 : decode b_Forge_push 12 = .ok (.invokestatic 77, 3) := by decide +kernel
theorem d_Forge_push_15 : decode b_Forge_push 15 = .ok (.ifCond .eq 18, 3) := by decide +kernel
theorem d_Forge_push_18 : decode b_Forge_push 18 = .ok (.aload_n 0, 1) := by decide +kernel
theorem d_Forge_push_19 : decode b_Forge_push 19 = .ok (.getfield 19, 3) := by decide +kernel
theorem d_Forge_push_22 : decode b_Forge_push 22 = .ok (.getfield 80, 3) := by decide +kernel
theorem d_Forge_push_25 : decode b_Forge_push 25 = .ok (.getstatic 83, 3) := by decide +kernel
theorem d_Forge_push_28 : decode b_Forge_push 28 = .ok (.iload_n 1, 1) := by decide +kernel
theorem d_Forge_push_29 : decode b_Forge_push 29 = .ok (.iaload, 1) := by decide +kernel
theorem d_Forge_push_30 : decode b_Forge_push 30 = .ok (.if_icmp .ge 5, 3) := by decide +kernel
theorem d_Forge_push_33 : decode b_Forge_push 33 = .ok (.iconst (-1), 1) := by decide +kernel
theorem d_Forge_push_34 : decode b_Forge_push 34 = .ok (.ireturn, 1) := by decide +kernel
theorem d_Forge_push_35 : decode b_Forge_push 35 = .ok (.aload_n 0, 1) := by decide +kernel
theorem d_Forge_push_36 : decode b_Forge_push 36 = .ok (.getfield 19, 3) := by decide +kernel
theorem d_Forge_push_39 : decode b_Forge_push 39 = .ok (.getfield 86, 3) := by decide +kernel
theorem d_Forge_push_42 : decode b_Forge_push 42 = .ok (.bipush 40, 2) := by decide +kernel
theorem d_Forge_push_44 : decode b_Forge_push 44 = .ok (.if_icmp .eq 16, 3) := by decide +kernel
theorem d_Forge_push_47 : decode b_Forge_push 47 = .ok (.aload_n 0, 1) := by decide +kernel
theorem d_Forge_push_48 : decode b_Forge_push 48 = .ok (.getfield 19, 3) := by decide +kernel
theorem d_Forge_push_51 : decode b_Forge_push 51 = .ok (.iload_n 1, 1) := by decide +kernel
theorem d_Forge_push_52 : decode b_Forge_push 52 = .ok (.invokevirtual 89, 3) := by decide +kernel
theorem d_Forge_push_55 : decode b_Forge_push 55 = .ok (.bipush 10, 2) := by decide +kernel
theorem d_Forge_push_57 : decode b_Forge_push 57 = .ok (.if_icmp .le 6, 3) := by decide +kernel
theorem d_Forge_push_60 : decode b_Forge_push 60 = .ok (.bipush (-2), 2) := by decide +kernel
theorem d_Forge_push_62 : decode b_Forge_push 62 = .ok (.ireturn, 1) := by decide +kernel
theorem d_Forge_push_63 : decode b_Forge_push 63 = .ok (.aload_n 0, 1) := by decide +kernel
theorem d_Forge_push_64 : decode b_Forge_push 64 = .ok (.getfield 19, 3) := by decide +kernel
theorem d_Forge_push_67 : decode b_Forge_push 67 = .ok (.iload_n 1, 1) := by decide +kernel
theorem d_Forge_push_68 : decode b_Forge_push 68 = .ok (.iload_n 2, 1) := by decide +kernel
theorem d_Forge_push_69 : decode b_Forge_push 69 = .ok (.invokevirtual 93, 3) := by decide +kernel
theorem d_Forge_push_72 : decode b_Forge_push 72 = .ok (.aload_n 0, 1) := by decide +kernel
theorem d_Forge_push_73 : decode b_Forge_push 73 = .ok (.getfield 19, 3) := by decide +kernel
theorem d_Forge_push_76 : decode b_Forge_push 76 = .ok (.getfield 80, 3) := by decide +kernel
theorem d_Forge_push_79 : decode b_Forge_push 79 = .ok (.ireturn, 1) := by decide +kernel
theorem d_Forge_isNumberFor_0 : decode b_Forge_isNumberFor 0 = .ok (.iload_n 0, 1) := by decide +kernel
theorem d_Forge_isNumberFor_1 : decode b_Forge_isNumberFor 1 = .ok (.iconst 1, 1) := by decide +kernel
theorem d_Forge_isNumberFor_2 : decode b_Forge_isNumberFor 2 = .ok (.if_icmp .eq 8, 3) := by decide +kernel
theorem d_Forge_isNumberFor_5 : decode b_Forge_isNumberFor 5 = .ok (.iload_n 0, 1) := by decide +kernel
theorem d_Forge_isNumberFor_6 : decode b_Forge_isNumberFor 6 = .ok (.iconst 2, 1) := by decide +kernel
theorem d_Forge_isNumberFor_7 : decode b_Forge_isNumberFor 7 = .ok (.if_icmp .ne 10, 3) := by decide +kernel
theorem d_Forge_isNumberFor_10 : decode b_Forge_isNumberFor 10 = .ok (.iload_n 1, 1) := by decide +kernel
theorem d_Forge_isNumberFor_11 : decode b_Forge_isNumberFor 11 = .ok (.invokestatic 142, 3) := by decide +kernel
theorem d_Forge_isNumberFor_14 : decode b_Forge_isNumberFor 14 = .ok (.ifCond .eq 7, 3) := by decide +kernel
theorem d_Forge_isNumberFor_17 : decode b_Forge_isNumberFor 17 = .ok (.iconst 1, 1) := by decide +kernel
theorem d_Forge_isNumberFor_18 : decode b_Forge_isNumberFor 18 = .ok (.goto 4, 3) := by decide +kernel
theorem d_Forge_isNumberFor_21 : decode b_Forge_isNumberFor 21 = .ok (.iconst 0, 1) := by decide +kernel
theorem d_Forge_isNumberFor_22 : decode b_Forge_isNumberFor 22 = .ok (.ireturn, 1) := by decide +kernel
theorem d_Forge_isVariable_0 : decode b_Forge_isVariable 0 = .ok (.iload_n 0, 1) := by decide +kernel
theorem d_Forge_isVariable_1 : decode b_Forge_isVariable 1 = .ok (.ifCond .lt 13, 3) := by decide +kernel
theorem d_Forge_isVariable_4 : decode b_Forge_isVariable 4 = .ok (.iload_n 0, 1) := by decide +kernel
theorem d_Forge_isVariable_5 : decode b_Forge_isVariable 5 = .ok (.bipush 8, 2) := by decide +kernel
theorem d_Forge_isVariable_7 : decode b_Forge_isVariable 7 = .ok (.if_icmp .ge 7, 3) := by decide +kernel
theorem d_Forge_isVariable_10 : decode b_Forge_isVariable 10 = .ok (.iconst 1, 1) := by decide +kernel
theorem d_Forge_isVariable_11 : decode b_Forge_isVariable 11 = .ok (.goto 4, 3) := by decide +kernel
theorem d_Forge_isVariable_14 : decode b_Forge_isVariable 14 = .ok (.iconst 0, 1) := by decide +kernel
theorem d_Forge_isVariable_15 : decode b_Forge_isVariable 15 = .ok (.ireturn, 1) := by decide +kernel
theorem d_Forge_pop_0 : decode b_Forge_pop 0 = .ok (.aload_n 0, 1) := by decide +kernel
theorem d_Forge_pop_1 : decode b_Forge_pop 1 = .ok (.getfield 19, 3) := by decide +kernel
theorem d_Forge_pop_4 : decode b_Forge_pop 4 = .ok (.getfield 80, 3) := by decide +kernel
theorem d_Forge_pop_7 : decode b_Forge_pop 7 = .ok (.ifCond .ne 5, 3) := by decide +kernel
theorem d_Forge_pop_10 : decode b_Forge_pop 10 = .ok (.iconst 0, 1) := by decide +kernel
theorem d_Forge_pop_11 : decode b_Forge_pop 11 = .ok (.ireturn, 1) := by decide +kernel
theorem d_Forge_pop_12 : decode b_Forge_pop 12 = .ok (.aload_n 0, 1) := by decide +kernel
theorem d_Forge_pop_13 : decode b_Forge_pop 13 = .ok (.getfield 19, 3) := by decide +kernel
theorem d_Forge_pop_16 : decode b_Forge_pop 16 = .ok (.invokevirtual 96, 3) := by decide +kernel
theorem d_Forge_pop_19 : decode b_Forge_pop 19 = .ok (.iconst 1, 1) := by decide +kernel
theorem d_Forge_pop_20 : decode b_Forge_pop 20 = .ok (.ireturn, 1) := by decide +kernel
theorem d_Forge_trees_0 : decode b_Forge_trees 0 = .ok (.aload_n 0, 1) := by decide +kernel
theorem d_Forge_trees_1 : decode b_Forge_trees 1 = .ok (.getfield 19, 3) := by decide +kernel
theorem d_Forge_trees_4 : decode b_Forge_trees 4 = .ok (.getfield 80, 3) := by decide +kernel
theorem d_Forge_trees_7 : decode b_Forge_trees 7 = .ok (.ireturn, 1) := by decide +kernel
theorem d_Forge_nodes_0 : decode b_Forge_nodes 0 = .ok (.aload_n 0, 1) := by decide +kernel
theorem d_Forge_nodes_1 : decode b_Forge_nodes 1 = .ok (.getfield 19, 3) := by decide +kernel
theorem d_Forge_nodes_4 : decode b_Forge_nodes 4 = .ok (.invokevirtual 99, 3) := by decide +kernel
theorem d_Forge_nodes_7 : decode b_Forge_nodes 7 = .ok (.ireturn, 1) := by decide +kernel
theorem d_Forge_relative_0 : decode b_Forge_relative 0 = .ok (.aload_n 0, 1) := by decide +kernel
theorem d_Forge_relative_1 : decode b_Forge_relative 1 = .ok (.iload_n 1, 1) := by decide +kernel
theorem d_Forge_relative_2 : decode b_Forge_relative 2 = .ok (.invokevirtual 103, 3) := by decide +kernel
theorem d_Forge_relative_5 : decode b_Forge_relative 5 = .ok (.ifCond .eq 10, 3) := by decide +kernel
theorem d_Forge_relative_8 : decode b_Forge_relative 8 = .ok (.iload_n 2, 1) := by decide +kernel
theorem d_Forge_relative_9 : decode b_Forge_relative 9 = .ok (.invokestatic 45, 3) := by decide +kernel
theorem d_Forge_relative_12 : decode b_Forge_relative 12 = .ok (.ifCond .ne 5, 3) := by decide +kernel
theorem d_Forge_relative_15 : decode b_Forge_relative 15 = .ok (.iconst (-1), 1) := by decide +kernel
theorem d_Forge_relative_16 : decode b_Forge_relative 16 = .ok (.ireturn, 1) := by decide +kernel
theorem d_Forge_relative_17 : decode b_Forge_relative 17 = .ok (.aload_n 0, 1) := by decide +kernel
theorem d_Forge_relative_18 : decode b_Forge_relative 18 = .ok (.getfield 19, 3) := by decide +kernel
theorem d_Forge_relative_21 : decode b_Forge_relative 21 = .ok (.aload_n 0, 1) := by decide +kernel
theorem d_Forge_relative_22 : decode b_Forge_relative 22 = .ok (.getfield 12, 3) := by decide +kernel
theorem d_Forge_relative_25 : decode b_Forge_relative 25 = .ok (.iload_n 1, 1) := by decide +kernel
theorem d_Forge_relative_26 : decode b_Forge_relative 26 = .ok (.invokevirtual 106, 3) := by decide +kernel
theorem d_Forge_relative_29 : decode b_Forge_relative 29 = .ok (.astore_n 3, 1) := by decide +kernel
theorem d_Forge_relative_30 : decode b_Forge_relative 30 = .ok (.aload_n 3, 1) := by decide +kernel
theorem d_Forge_relative_31 : decode b_Forge_relative 31 = .ok (.iload_n 2, 1) := by decide +kernel
theorem d_Forge_relative_32 : decode b_Forge_relative 32 = .ok (.invokevirtual 110, 3) := by decide +kernel
theorem d_Forge_relative_35 : decode b_Forge_relative 35 = .ok (.ifCond .eq 18, 3) := by decide +kernel
theorem d_Forge_relative_38 : decode b_Forge_relative 38 = .ok (.aload_n 3, 1) := by decide +kernel
theorem d_Forge_relative_39 : decode b_Forge_relative 39 = .ok (.getfield 115, 3) := by decide +kernel
theorem d_Forge_relative_42 : decode b_Forge_relative 42 = .ok (.iload_n 2, 1) := by decide +kernel
theorem d_Forge_relative_43 : decode b_Forge_relative 43 = .ok (.laload, 1) := by decide +kernel
theorem d_Forge_relative_44 : decode b_Forge_relative 44 = .ok (.aload_n 3, 1) := by decide +kernel
theorem d_Forge_relative_45 : decode b_Forge_relative 45 = .ok (.invokevirtual 119, 3) := by decide +kernel
theorem d_Forge_relative_48 : decode b_Forge_relative 48 = .ok (.lsub, 1) := by decide +kernel
theorem d_Forge_relative_49 : decode b_Forge_relative 49 = .ok (.l2i, 1) := by decide +kernel
theorem d_Forge_relative_50 : decode b_Forge_relative 50 = .ok (.goto 5, 3) := by decide +kernel
theorem d_Forge_relative_53 : decode b_Forge_relative 53 = .ok (.bipush (-3), 2) := by decide +kernel
theorem d_Forge_relative_55 : decode b_Forge_relative 55 = .ok (.ireturn, 1) := by decide +kernel
theorem d_Forge_isTopNode_0 : decode b_Forge_isTopNode 0 = .ok (.iload_n 1, 1) := by decide +kernel
theorem d_Forge_isTopNode_1 : decode b_Forge_isTopNode 1 = .ok (.ifCond .lt 18, 3) := by decide +kernel
theorem d_Forge_isTopNode_4 : decode b_Forge_isTopNode 4 = .ok (.iload_n 1, 1) := by decide +kernel
theorem d_Forge_isTopNode_5 : decode b_Forge_isTopNode 5 = .ok (.aload_n 0, 1) := by decide +kernel
theorem d_Forge_isTopNode_6 : decode b_Forge_isTopNode 6 = .ok (.getfield 19, 3) := by decide +kernel
theorem d_Forge_isTopNode_9 : decode b_Forge_isTopNode 9 = .ok (.invokevirtual 99, 3) := by decide +kernel
theorem d_Forge_isTopNode_12 : decode b_Forge_isTopNode 12 = .ok (.if_icmp .ge 7, 3) := by decide +kernel
theorem d_Forge_isTopNode_15 : decode b_Forge_isTopNode 15 = .ok (.iconst 1, 1) := by decide +kernel
theorem d_Forge_isTopNode_16 : decode b_Forge_isTopNode 16 = .ok (.goto 4, 3) := by decide +kernel
theorem d_Forge_isTopNode_19 : decode b_Forge_isTopNode 19 = .ok (.iconst 0, 1) := by decide +kernel
theorem d_Forge_isTopNode_20 : decode b_Forge_isTopNode 20 = .ok (.ireturn, 1) := by decide +kernel
theorem d_Forge_choice_0 : decode b_Forge_choice 0 = .ok (.aload_n 0, 1) := by decide +kernel
theorem d_Forge_choice_1 : decode b_Forge_choice 1 = .ok (.iload_n 1, 1) := by decide +kernel
theorem d_Forge_choice_2 : decode b_Forge_choice 2 = .ok (.invokevirtual 103, 3) := by decide +kernel
theorem d_Forge_choice_5 : decode b_Forge_choice 5 = .ok (.ifCond .eq 10, 3) := by decide +kernel
theorem d_Forge_choice_8 : decode b_Forge_choice 8 = .ok (.iload_n 2, 1) := by decide +kernel
theorem d_Forge_choice_9 : decode b_Forge_choice 9 = .ok (.invokestatic 45, 3) := by decide +kernel
theorem d_Forge_choice_12 : decode b_Forge_choice 12 = .ok (.ifCond .ne 5, 3) := by decide +kernel
theorem d_Forge_choice_15 : decode b_Forge_choice 15 = .ok (.iconst (-1), 1) := by decide +kernel
theorem d_Forge_choice_16 : decode b_Forge_choice 16 = .ok (.ireturn, 1) := by decide +kernel
theorem d_Forge_choice_17 : decode b_Forge_choice 17 = .ok (.aload_n 0, 1) := by decide +kernel
theorem d_Forge_choice_18 : decode b_Forge_choice 18 = .ok (.getfield 19, 3) := by decide +kernel
theorem d_Forge_choice_21 : decode b_Forge_choice 21 = .ok (.aload_n 0, 1) := by decide +kernel
theorem d_Forge_choice_22 : decode b_Forge_choice 22 = .ok (.getfield 12, 3) := by decide +kernel
theorem d_Forge_choice_25 : decode b_Forge_choice 25 = .ok (.iload_n 1, 1) := by decide +kernel
theorem d_Forge_choice_26 : decode b_Forge_choice 26 = .ok (.invokevirtual 106, 3) := by decide +kernel
theorem d_Forge_choice_29 : decode b_Forge_choice 29 = .ok (.getfield 123, 3) := by decide +kernel
theorem d_Forge_choice_32 : decode b_Forge_choice 32 = .ok (.iload_n 2, 1) := by decide +kernel
theorem d_Forge_choice_33 : decode b_Forge_choice 33 = .ok (.iaload, 1) := by decide +kernel
theorem d_Forge_choice_34 : decode b_Forge_choice 34 = .ok (.ireturn, 1) := by decide +kernel
theorem d_Forge_cost_0 : decode b_Forge_cost 0 = .ok (.aload_n 0, 1) := by decide +kernel
theorem d_Forge_cost_1 : decode b_Forge_cost 1 = .ok (.getfield 19, 3) := by decide +kernel
theorem d_Forge_cost_4 : decode b_Forge_cost 4 = .ok (.getfield 80, 3) := by decide +kernel
theorem d_Forge_cost_7 : decode b_Forge_cost 7 = .ok (.ifCond .eq 10, 3) := by decide +kernel
theorem d_Forge_cost_10 : decode b_Forge_cost 10 = .ok (.iload_n 1, 1) := by decide +kernel
theorem d_Forge_cost_11 : decode b_Forge_cost 11 = .ok (.invokestatic 45, 3) := by decide +kernel
theorem d_Forge_cost_14 : decode b_Forge_cost 14 = .ok (.ifCond .ne 5, 3) := by decide +kernel
theorem d_Forge_cost_17 : decode b_Forge_cost 17 = .ok (.iconst (-1), 1) := by decide +kernel
theorem d_Forge_cost_18 : decode b_Forge_cost 18 = .ok (.ireturn, 1) := by decide +kernel
theorem d_Forge_cost_19 : decode b_Forge_cost 19 = .ok (.aload_n 0, 1) := by decide +kernel
theorem d_Forge_cost_20 : decode b_Forge_cost 20 = .ok (.getfield 19, 3) := by decide +kernel
theorem d_Forge_cost_23 : decode b_Forge_cost 23 = .ok (.aload_n 0, 1) := by decide +kernel
theorem d_Forge_cost_24 : decode b_Forge_cost 24 = .ok (.getfield 12, 3) := by decide +kernel
theorem d_Forge_cost_27 : decode b_Forge_cost 27 = .ok (.aload_n 0, 1) := by decide +kernel
theorem d_Forge_cost_28 : decode b_Forge_cost 28 = .ok (.getfield 19, 3) := by decide +kernel
theorem d_Forge_cost_31 : decode b_Forge_cost 31 = .ok (.invokevirtual 99, 3) := by decide +kernel
theorem d_Forge_cost_34 : decode b_Forge_cost 34 = .ok (.iconst 1, 1) := by decide +kernel
theorem d_Forge_cost_35 : decode b_Forge_cost 35 = .ok (.isub, 1) := by decide +kernel
theorem d_Forge_cost_36 : decode b_Forge_cost 36 = .ok (.invokevirtual 106, 3) := by decide +kernel
theorem d_Forge_cost_39 : decode b_Forge_cost 39 = .ok (.astore_n 2, 1) := by decide +kernel
theorem d_Forge_cost_40 : decode b_Forge_cost 40 = .ok (.aload_n 2, 1) := by decide +kernel
theorem d_Forge_cost_41 : decode b_Forge_cost 41 = .ok (.iload_n 1, 1) := by decide +kernel
theorem d_Forge_cost_42 : decode b_Forge_cost 42 = .ok (.invokevirtual 110, 3) := by decide +kernel
theorem d_Forge_cost_45 : decode b_Forge_cost 45 = .ok (.ifCond .eq 13, 3) := by decide +kernel
theorem d_Forge_cost_48 : decode b_Forge_cost 48 = .ok (.aload_n 2, 1) := by decide +kernel
theorem d_Forge_cost_49 : decode b_Forge_cost 49 = .ok (.getfield 115, 3) := by decide +kernel
theorem d_Forge_cost_52 : decode b_Forge_cost 52 = .ok (.iload_n 1, 1) := by decide +kernel
theorem d_Forge_cost_53 : decode b_Forge_cost 53 = .ok (.laload, 1) := by decide +kernel
theorem d_Forge_cost_54 : decode b_Forge_cost 54 = .ok (.l2i, 1) := by decide +kernel
theorem d_Forge_cost_55 : decode b_Forge_cost 55 = .ok (.goto 5, 3) := by decide +kernel
theorem d_Forge_cost_58 : decode b_Forge_cost 58 = .ok (.bipush (-3), 2) := by decide +kernel
theorem d_Forge_cost_60 : decode b_Forge_cost 60 = .ok (.ireturn, 1) := by decide +kernel
theorem d_Forge_registers_0 : decode b_Forge_registers 0 = .ok (.iload_n 1, 1) := by decide +kernel
theorem d_Forge_registers_1 : decode b_Forge_registers 1 = .ok (.iconst 1, 1) := by decide +kernel
theorem d_Forge_registers_2 : decode b_Forge_registers 2 = .ok (.if_icmp .lt 8, 3) := by decide +kernel
theorem d_Forge_registers_5 : decode b_Forge_registers 5 = .ok (.iload_n 1, 1) := by decide +kernel
theorem d_Forge_registers_6 : decode b_Forge_registers 6 = .ok (.iconst 4, 1) := by decide +kernel
theorem d_Forge_registers_7 : decode b_Forge_registers 7 = .ok (.if_icmp .le 5, 3) := by decide +kernel
theorem d_Forge_registers_10 : decode b_Forge_registers 10 = .ok (.iconst 0, 1) := by decide +kernel
theorem d_Forge_registers_11 : decode b_Forge_registers 11 = .ok (.ireturn, 1) := by decide +kernel
theorem d_Forge_registers_12 : decode b_Forge_registers 12 = .ok (.aload_n 0, 1) := by decide +kernel
theorem d_Forge_registers_13 : decode b_Forge_registers 13 = .ok (.iload_n 1, 1) := by decide +kernel
theorem d_Forge_registers_14 : decode b_Forge_registers 14 = .ok (.putfield 41, 3) := by decide +kernel
theorem d_Forge_registers_17 : decode b_Forge_registers 17 = .ok (.iconst 1, 1) := by decide +kernel
theorem d_Forge_registers_18 : decode b_Forge_registers 18 = .ok (.ireturn, 1) := by decide +kernel
theorem d_Forge_cover_0 : decode b_Forge_cover 0 = .ok (.aload_n 0, 1) := by decide +kernel
theorem d_Forge_cover_1 : decode b_Forge_cover 1 = .ok (.getfield 19, 3) := by decide +kernel
theorem d_Forge_cover_4 : decode b_Forge_cover 4 = .ok (.getfield 80, 3) := by decide +kernel
theorem d_Forge_cover_7 : decode b_Forge_cover 7 = .ok (.ifCond .ne 5, 3) := by decide +kernel
theorem d_Forge_cover_10 : decode b_Forge_cover 10 = .ok (.iconst (-1), 1) := by decide +kernel
theorem d_Forge_cover_11 : decode b_Forge_cover 11 = .ok (.ireturn, 1) := by decide +kernel
theorem d_Forge_cover_12 : decode b_Forge_cover 12 = .ok (.aload_n 0, 1) := by decide +kernel
theorem d_Forge_cover_13 : decode b_Forge_cover 13 = .ok (.getfield 19, 3) := by decide +kernel
theorem d_Forge_cover_16 : decode b_Forge_cover 16 = .ok (.aload_n 0, 1) := by decide +kernel
theorem d_Forge_cover_17 : decode b_Forge_cover 17 = .ok (.getfield 12, 3) := by decide +kernel
theorem d_Forge_cover_20 : decode b_Forge_cover 20 = .ok (.aload_n 0, 1) := by decide +kernel
theorem d_Forge_cover_21 : decode b_Forge_cover 21 = .ok (.getfield 19, 3) := by decide +kernel
theorem d_Forge_cover_24 : decode b_Forge_cover 24 = .ok (.invokevirtual 99, 3) := by decide +kernel
theorem d_Forge_cover_27 : decode b_Forge_cover 27 = .ok (.iconst 1, 1) := by decide +kernel
theorem d_Forge_cover_28 : decode b_Forge_cover 28 = .ok (.isub, 1) := by decide +kernel
theorem d_Forge_cover_29 : decode b_Forge_cover 29 = .ok (.invokevirtual 106, 3) := by decide +kernel
theorem d_Forge_cover_32 : decode b_Forge_cover 32 = .ok (.iconst 0, 1) := by decide +kernel
theorem d_Forge_cover_33 : decode b_Forge_cover 33 = .ok (.invokevirtual 110, 3) := by decide +kernel
theorem d_Forge_cover_36 : decode b_Forge_cover 36 = .ok (.ifCond .ne 6, 3) := by decide +kernel
theorem d_Forge_cover_39 : decode b_Forge_cover 39 = .ok (.bipush (-3), 2) := by decide +kernel
theorem d_Forge_cover_41 : decode b_Forge_cover 41 = .ok (.ireturn, 1) := by decide +kernel
theorem d_Forge_cover_42 : decode b_Forge_cover 42 = .ok (.aload_n 0, 1) := by decide +kernel
theorem d_Forge_cover_43 : decode b_Forge_cover 43 = .ok (.getfield 33, 3) := by decide +kernel
theorem d_Forge_cover_46 : decode b_Forge_cover 46 = .ok (.aload_n 0, 1) := by decide +kernel
theorem d_Forge_cover_47 : decode b_Forge_cover 47 = .ok (.getfield 12, 3) := by decide +kernel
theorem d_Forge_cover_50 : decode b_Forge_cover 50 = .ok (.aload_n 0, 1) := by decide +kernel
theorem d_Forge_cover_51 : decode b_Forge_cover 51 = .ok (.getfield 19, 3) := by decide +kernel
theorem d_Forge_cover_54 : decode b_Forge_cover 54 = .ok (.invokevirtual 126, 3) := by decide +kernel
theorem d_Forge_cover_57 : decode b_Forge_cover 57 = .ok (.aload_n 0, 1) := by decide +kernel
theorem d_Forge_cover_58 : decode b_Forge_cover 58 = .ok (.getfield 33, 3) := by decide +kernel
theorem d_Forge_cover_61 : decode b_Forge_cover 61 = .ok (.aload_n 0, 1) := by decide +kernel
theorem d_Forge_cover_62 : decode b_Forge_cover 62 = .ok (.getfield 41, 3) := by decide +kernel
theorem d_Forge_cover_65 : decode b_Forge_cover 65 = .ok (.invokevirtual 130, 3) := by decide +kernel
theorem d_Forge_cover_68 : decode b_Forge_cover 68 = .ok (.aload_n 0, 1) := by decide +kernel
theorem d_Forge_cover_69 : decode b_Forge_cover 69 = .ok (.getfield 33, 3) := by decide +kernel
theorem d_Forge_cover_72 : decode b_Forge_cover 72 = .ok (.getfield 134, 3) := by decide +kernel
theorem d_Forge_cover_75 : decode b_Forge_cover 75 = .ok (.ireturn, 1) := by decide +kernel
theorem d_Forge_instruction_0 : decode b_Forge_instruction 0 = .ok (.iload_n 1, 1) := by decide +kernel
theorem d_Forge_instruction_1 : decode b_Forge_instruction 1 = .ok (.ifCond .lt 23, 3) := by decide +kernel
theorem d_Forge_instruction_4 : decode b_Forge_instruction 4 = .ok (.iload_n 1, 1) := by decide +kernel
theorem d_Forge_instruction_5 : decode b_Forge_instruction 5 = .ok (.aload_n 0, 1) := by decide +kernel
theorem d_Forge_instruction_6 : decode b_Forge_instruction 6 = .ok (.getfield 33, 3) := by decide +kernel
theorem d_Forge_instruction_9 : decode b_Forge_instruction 9 = .ok (.getfield 134, 3) := by decide +kernel
theorem d_Forge_instruction_12 : decode b_Forge_instruction 12 = .ok (.if_icmp .ge 12, 3) := by decide +kernel
theorem d_Forge_instruction_15 : decode b_Forge_instruction 15 = .ok (.iload_n 2, 1) := by decide +kernel
theorem d_Forge_instruction_16 : decode b_Forge_instruction 16 = .ok (.ifCond .lt 8, 3) := by decide +kernel
theorem d_Forge_instruction_19 : decode b_Forge_instruction 19 = .ok (.iload_n 2, 1) := by decide +kernel
theorem d_Forge_instruction_20 : decode b_Forge_instruction 20 = .ok (.iconst 5, 1) := by decide +kernel
theorem d_Forge_instruction_21 : decode b_Forge_instruction 21 = .ok (.if_icmp .lt 5, 3) := by decide +kernel
theorem d_Forge_instruction_24 : decode b_Forge_instruction 24 = .ok (.iconst (-1), 1) := by decide +kernel
theorem d_Forge_instruction_25 : decode b_Forge_instruction 25 = .ok (.ireturn, 1) := by decide +kernel
theorem d_Forge_instruction_26 : decode b_Forge_instruction 26 = .ok (.aload_n 0, 1) := by decide +kernel
theorem d_Forge_instruction_27 : decode b_Forge_instruction 27 = .ok (.getfield 33, 3) := by decide +kernel
theorem d_Forge_instruction_30 : decode b_Forge_instruction 30 = .ok (.iload_n 1, 1) := by decide +kernel
theorem d_Forge_instruction_31 : decode b_Forge_instruction 31 = .ok (.iload_n 2, 1) := by decide +kernel
theorem d_Forge_instruction_32 : decode b_Forge_instruction 32 = .ok (.invokevirtual 135, 3) := by decide +kernel
theorem d_Forge_instruction_35 : decode b_Forge_instruction 35 = .ok (.ireturn, 1) := by decide +kernel
theorem d_Forge_slots_0 : decode b_Forge_slots 0 = .ok (.aload_n 0, 1) := by decide +kernel
theorem d_Forge_slots_1 : decode b_Forge_slots 1 = .ok (.getfield 33, 3) := by decide +kernel
theorem d_Forge_slots_4 : decode b_Forge_slots 4 = .ok (.getfield 139, 3) := by decide +kernel
theorem d_Forge_slots_7 : decode b_Forge_slots 7 = .ok (.ireturn, 1) := by decide +kernel
theorem d_Forge_set_0 : decode b_Forge_set 0 = .ok (.iload_n 1, 1) := by decide +kernel
theorem d_Forge_set_1 : decode b_Forge_set 1 = .ok (.invokestatic 142, 3) := by decide +kernel
theorem d_Forge_set_4 : decode b_Forge_set 4 = .ok (.ifCond .ne 5, 3) := by decide +kernel
theorem d_Forge_set_7 : decode b_Forge_set 7 = .ok (.iconst 0, 1) := by decide +kernel
theorem d_Forge_set_8 : decode b_Forge_set 8 = .ok (.ireturn, 1) := by decide +kernel
theorem d_Forge_set_9 : decode b_Forge_set 9 = .ok (.aload_n 0, 1) := by decide +kernel
theorem d_Forge_set_10 : decode b_Forge_set 10 = .ok (.getfield 37, 3) := by decide +kernel
theorem d_Forge_set_13 : decode b_Forge_set 13 = .ok (.iload_n 1, 1) := by decide +kernel
theorem d_Forge_set_14 : decode b_Forge_set 14 = .ok (.iload_n 2, 1) := by decide +kernel
theorem d_Forge_set_15 : decode b_Forge_set 15 = .ok (.iastore, 1) := by decide +kernel
theorem d_Forge_set_16 : decode b_Forge_set 16 = .ok (.iconst 1, 1) := by decide +kernel
theorem d_Forge_set_17 : decode b_Forge_set 17 = .ok (.ireturn, 1) := by decide +kernel
theorem d_Forge_run_0 : decode b_Forge_run 0 = .ok (.aload_n 0, 1) := by decide +kernel
theorem d_Forge_run_1 : decode b_Forge_run 1 = .ok (.getfield 33, 3) := by decide +kernel
theorem d_Forge_run_4 : decode b_Forge_run 4 = .ok (.aload_n 0, 1) := by decide +kernel
theorem d_Forge_run_5 : decode b_Forge_run 5 = .ok (.getfield 37, 3) := by decide +kernel
theorem d_Forge_run_8 : decode b_Forge_run 8 = .ok (.invokevirtual 145, 3) := by decide +kernel
theorem d_Forge_run_11 : decode b_Forge_run 11 = .ok (.ireturn, 1) := by decide +kernel
theorem d_Forge_resultOf_0 : decode b_Forge_resultOf 0 = .ok (.iload_n 0, 1) := by decide +kernel
theorem d_Forge_resultOf_1 : decode b_Forge_resultOf 1 = .ok (.tableswitch 78 0 7 #[47, 49, 54, 59, 62, 66, 70, 74], 47) := by decide +kernel
theorem d_Forge_resultOf_48 : decode b_Forge_resultOf 48 = .ok (.iload_n 1, 1) := by decide +kernel
theorem d_Forge_resultOf_49 : decode b_Forge_resultOf 49 = .ok (.ireturn, 1) := by decide +kernel
theorem d_Forge_resultOf_50 : decode b_Forge_resultOf 50 = .ok (.aload 4, 2) := by decide +kernel
theorem d_Forge_resultOf_52 : decode b_Forge_resultOf 52 = .ok (.iload_n 1, 1) := by decide +kernel
theorem d_Forge_resultOf_53 : decode b_Forge_resultOf 53 = .ok (.iaload, 1) := by decide +kernel
theorem d_Forge_resultOf_54 : decode b_Forge_resultOf 54 = .ok (.ireturn, 1) := by decide +kernel
theorem d_Forge_resultOf_55 : decode b_Forge_resultOf 55 = .ok (.bipush 100, 2) := by decide +kernel
theorem d_Forge_resultOf_57 : decode b_Forge_resultOf 57 = .ok (.iload_n 1, 1) := by decide +kernel
theorem d_Forge_resultOf_58 : decode b_Forge_resultOf 58 = .ok (.iadd, 1) := by decide +kernel
theorem d_Forge_resultOf_59 : decode b_Forge_resultOf 59 = .ok (.ireturn, 1) := by decide +kernel
theorem d_Forge_resultOf_60 : decode b_Forge_resultOf 60 = .ok (.iload_n 2, 1) := by decide +kernel
theorem d_Forge_resultOf_61 : decode b_Forge_resultOf 61 = .ok (.ineg, 1) := by decide +kernel
theorem d_Forge_resultOf_62 : decode b_Forge_resultOf 62 = .ok (.ireturn, 1) := by decide +kernel
theorem d_Forge_resultOf_63 : decode b_Forge_resultOf 63 = .ok (.iload_n 2, 1) := by decide +kernel
theorem d_Forge_resultOf_64 : decode b_Forge_resultOf 64 = .ok (.iload_n 2, 1) := by decide +kernel
theorem d_Forge_resultOf_65 : decode b_Forge_resultOf 65 = .ok (.iadd, 1) := by decide +kernel
theorem d_Forge_resultOf_66 : decode b_Forge_resultOf 66 = .ok (.ireturn, 1) := by decide +kernel
theorem d_Forge_resultOf_67 : decode b_Forge_resultOf 67 = .ok (.iload_n 2, 1) := by decide +kernel
theorem d_Forge_resultOf_68 : decode b_Forge_resultOf 68 = .ok (.iload_n 3, 1) := by decide +kernel
theorem d_Forge_resultOf_69 : decode b_Forge_resultOf 69 = .ok (.iadd, 1) := by decide +kernel
theorem d_Forge_resultOf_70 : decode b_Forge_resultOf 70 = .ok (.ireturn, 1) := by decide +kernel
theorem d_Forge_resultOf_71 : decode b_Forge_resultOf 71 = .ok (.iload_n 2, 1) := by decide +kernel
theorem d_Forge_resultOf_72 : decode b_Forge_resultOf 72 = .ok (.iload_n 3, 1) := by decide +kernel
theorem d_Forge_resultOf_73 : decode b_Forge_resultOf 73 = .ok (.isub, 1) := by decide +kernel
theorem d_Forge_resultOf_74 : decode b_Forge_resultOf 74 = .ok (.ireturn, 1) := by decide +kernel
theorem d_Forge_resultOf_75 : decode b_Forge_resultOf 75 = .ok (.iload_n 2, 1) := by decide +kernel
theorem d_Forge_resultOf_76 : decode b_Forge_resultOf 76 = .ok (.iload_n 3, 1) := by decide +kernel
theorem d_Forge_resultOf_77 : decode b_Forge_resultOf 77 = .ok (.imul, 1) := by decide +kernel
theorem d_Forge_resultOf_78 : decode b_Forge_resultOf 78 = .ok (.ireturn, 1) := by decide +kernel
theorem d_Forge_resultOf_79 : decode b_Forge_resultOf 79 = .ok (.iload_n 2, 1) := by decide +kernel
theorem d_Forge_resultOf_80 : decode b_Forge_resultOf 80 = .ok (.ireturn, 1) := by decide +kernel
theorem d_Forge_value_0 : decode b_Forge_value 0 = .ok (.aload_n 0, 1) := by decide +kernel
theorem d_Forge_value_1 : decode b_Forge_value 1 = .ok (.getfield 19, 3) := by decide +kernel
theorem d_Forge_value_4 : decode b_Forge_value 4 = .ok (.aload_n 0, 1) := by decide +kernel
theorem d_Forge_value_5 : decode b_Forge_value 5 = .ok (.getfield 37, 3) := by decide +kernel
theorem d_Forge_value_8 : decode b_Forge_value 8 = .ok (.invokevirtual 149, 3) := by decide +kernel
theorem d_Forge_value_11 : decode b_Forge_value 11 = .ok (.ireturn, 1) := by decide +kernel
