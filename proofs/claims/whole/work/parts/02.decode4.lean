theorem d_C_judgeType_89 : decode b_C_judgeType 89 = .ok (.aload_n 0, 1) := by decide +kernel
theorem d_C_judgeType_90 : decode b_C_judgeType 90 = .ok (.aload 4, 2) := by decide +kernel
theorem d_C_judgeType_92 : decode b_C_judgeType 92 = .ok (.aload 5, 2) := by decide +kernel
theorem d_C_judgeType_94 : decode b_C_judgeType 94 = .ok (.iload_n 3, 1) := by decide +kernel
theorem d_C_judgeType_95 : decode b_C_judgeType 95 = .ok (.invokevirtual 69, 3) := by decide +kernel
theorem d_C_judgeType_98 : decode b_C_judgeType 98 = .ok (.return_, 1) := by decide +kernel
theorem d_C_judgeHeader_0 : decode b_C_judgeHeader 0 = .ok (.aload_n 1, 1) := by decide +kernel
theorem d_C_judgeHeader_1 : decode b_C_judgeHeader 1 = .ok (.iconst 2, 1) := by decide +kernel
theorem d_C_judgeHeader_2 : decode b_C_judgeHeader 2 = .ok (.invokevirtual 72, 3) := by decide +kernel
theorem d_C_judgeHeader_5 : decode b_C_judgeHeader 5 = .ok (.ifCond .ne 18, 3) := by decide +kernel
theorem d_C_judgeHeader_8 : decode b_C_judgeHeader 8 = .ok (.aload_n 2, 1) := by decide +kernel
theorem d_C_judgeHeader_9 : decode b_C_judgeHeader 9 = .ok (.iconst 2, 1) := by decide +kernel
theorem d_C_judgeHeader_10 : decode b_C_judgeHeader 10 = .ok (.invokevirtual 72, 3) := by decide +kernel
theorem d_C_judgeHeader_13 : decode b_C_judgeHeader 13 = .ok (.ifCond .eq 10, 3) := by decide +kernel
theorem d_C_judgeHeader_16 : decode b_C_judgeHeader 16 = .ok (.aload_n 0, 1) := by decide +kernel
theorem d_C_judgeHeader_17 : decode b_C_judgeHeader 17 = .ok (.iconst 2, 1) := by decide +kernel
theorem d_C_judgeHeader_18 : decode b_C_judgeHeader 18 = .ok (.iload_n 3, 1) := by decide +kernel
theorem d_C_judgeHeader_19 : decode b_C_judgeHeader 19 = .ok (.iconst (-1), 1) := by decide +kernel
theorem d_C_judgeHeader_20 : decode b_C_judgeHeader 20 = .ok (.invokevirtual 50, 3) := by decide +kernel
theorem d_C_judgeHeader_23 : decode b_C_judgeHeader 23 = .ok (.aload_n 1, 1) := by decide +kernel
theorem d_C_judgeHeader_24 : decode b_C_judgeHeader 24 = .ok (.iconst 4, 1) := by decide +kernel
theorem d_C_judgeHeader_25 : decode b_C_judgeHeader 25 = .ok (.invokevirtual 72, 3) := by decide +kernel
theorem d_C_judgeHeader_28 : decode b_C_judgeHeader 28 = .ok (.ifCond .ne 18, 3) := by decide +kernel
theorem d_C_judgeHeader_31 : decode b_C_judgeHeader 31 = .ok (.aload_n 2, 1) := by decide +kernel
theorem d_C_judgeHeader_32 : decode b_C_judgeHeader 32 = .ok (.iconst 4, 1) := by decide +kernel
theorem d_C_judgeHeader_33 : decode b_C_judgeHeader 33 = .ok (.invokevirtual 72, 3) := by decide +kernel
theorem d_C_judgeHeader_36 : decode b_C_judgeHeader 36 = .ok (.ifCond .eq 10, 3) := by decide +kernel
theorem d_C_judgeHeader_39 : decode b_C_judgeHeader 39 = .ok (.aload_n 0, 1) := by decide +kernel
theorem d_C_judgeHeader_40 : decode b_C_judgeHeader 40 = .ok (.iconst 3, 1) := by decide +kernel
theorem d_C_judgeHeader_41 : decode b_C_judgeHeader 41 = .ok (.iload_n 3, 1) := by decide +kernel
theorem d_C_judgeHeader_42 : decode b_C_judgeHeader 42 = .ok (.iconst (-1), 1) := by decide +kernel
theorem d_C_judgeHeader_43 : decode b_C_judgeHeader 43 = .ok (.invokevirtual 50, 3) := by decide +kernel
theorem d_C_judgeHeader_46 : decode b_C_judgeHeader 46 = .ok (.aload_n 1, 1) := by decide +kernel
theorem d_C_judgeHeader_47 : decode b_C_judgeHeader 47 = .ok (.getfield 76, 3) := by decide +kernel
theorem d_C_judgeHeader_50 : decode b_C_judgeHeader 50 = .ok (.aload_n 2, 1) := by decide +kernel
theorem d_C_judgeHeader_51 : decode b_C_judgeHeader 51 = .ok (.getfield 76, 3) := by decide +kernel
theorem d_C_judgeHeader_54 : decode b_C_judgeHeader 54 = .ok (.iconst (-1), 1) := by decide +kernel
theorem d_C_judgeHeader_55 : decode b_C_judgeHeader 55 = .ok (.ixor, 1) := by decide +kernel
theorem d_C_judgeHeader_56 : decode b_C_judgeHeader 56 = .ok (.iand, 1) := by decide +kernel
theorem d_C_judgeHeader_57 : decode b_C_judgeHeader 57 = .ok (.istore 4, 2) := by decide +kernel
theorem d_C_judgeHeader_59 : decode b_C_judgeHeader 59 = .ok (.iconst 0, 1) := by decide +kernel
theorem d_C_judgeHeader_60 : decode b_C_judgeHeader 60 = .ok (.istore 5, 2) := by decide +kernel
theorem d_C_judgeHeader_62 : decode b_C_judgeHeader 62 = .ok (.iload 5, 2) := by decide +kernel
theorem d_C_judgeHeader_64 : decode b_C_judgeHeader 64 = .ok (.bipush 12, 2) := by decide +kernel
theorem d_C_judgeHeader_66 : decode b_C_judgeHeader 66 = .ok (.if_icmp .ge 27, 3) := by decide +kernel
theorem d_C_judgeHeader_69 : decode b_C_judgeHeader 69 = .ok (.iload 4, 2) := by decide +kernel
theorem d_C_judgeHeader_71 : decode b_C_judgeHeader 71 = .ok (.iload 5, 2) := by decide +kernel
theorem d_C_judgeHeader_73 : decode b_C_judgeHeader 73 = .ok (.invokestatic 79, 3) := by decide +kernel
theorem d_C_judgeHeader_76 : decode b_C_judgeHeader 76 = .ok (.ifCond .eq 11, 3) := by decide +kernel
theorem d_C_judgeHeader_79 : decode b_C_judgeHeader 79 = .ok (.aload_n 0, 1) := by decide +kernel
theorem d_C_judgeHeader_80 : decode b_C_judgeHeader 80 = .ok (.iconst 4, 1) := by decide +kernel
theorem d_C_judgeHeader_81 : decode b_C_judgeHeader 81 = .ok (.iload_n 3, 1) := by decide +kernel
theorem d_C_judgeHeader_82 : decode b_C_judgeHeader 82 = .ok (.iload 5, 2) := by decide +kernel
theorem d_C_judgeHeader_84 : decode b_C_judgeHeader 84 = .ok (.invokevirtual 50, 3) := by decide +kernel
theorem d_C_judgeHeader_87 : decode b_C_judgeHeader 87 = .ok (.iinc 5 1, 3) := by decide +kernel
theorem d_C_judgeHeader_90 : decode b_C_judgeHeader 90 = .ok (.goto (-28), 3) := by decide +kernel
theorem d_C_judgeHeader_93 : decode b_C_judgeHeader 93 = .ok (.return_, 1) := by decide +kernel
theorem d_C_judgeOldMembers_0 : decode b_C_judgeOldMembers 0 = .ok (.iconst 5, 1) := by decide +kernel
theorem d_C_judgeOldMembers_1 : decode b_C_judgeOldMembers 1 = .ok (.istore_n 3, 1) := by decide +kernel
theorem d_C_judgeOldMembers_2 : decode b_C_judgeOldMembers 2 = .ok (.iload_n 3, 1) := by decide +kernel
theorem d_C_judgeOldMembers_3 : decode b_C_judgeOldMembers 3 = .ok (.bipush 11, 2) := by decide +kernel
theorem d_C_judgeOldMembers_5 : decode b_C_judgeOldMembers 5 = .ok (.if_icmp .gt 69, 3) := by decide +kernel
theorem d_C_judgeOldMembers_8 : decode b_C_judgeOldMembers 8 = .ok (.iconst 0, 1) := by decide +kernel
theorem d_C_judgeOldMembers_9 : decode b_C_judgeOldMembers 9 = .ok (.istore 4, 2) := by decide +kernel
theorem d_C_judgeOldMembers_11 : decode b_C_judgeOldMembers 11 = .ok (.iload 4, 2) := by decide +kernel
theorem d_C_judgeOldMembers_13 : decode b_C_judgeOldMembers 13 = .ok (.aload_n 1, 1) := by decide +kernel
theorem d_C_judgeOldMembers_14 : decode b_C_judgeOldMembers 14 = .ok (.getfield 83, 3) := by decide +kernel
theorem d_C_judgeOldMembers_17 : decode b_C_judgeOldMembers 17 = .ok (.if_icmp .ge 51, 3) := by decide +kernel
theorem d_C_judgeOldMembers_20 : decode b_C_judgeOldMembers 20 = .ok (.aload_n 1, 1) := by decide +kernel
theorem d_C_judgeOldMembers_21 : decode b_C_judgeOldMembers 21 = .ok (.getfield 86, 3) := by decide +kernel
theorem d_C_judgeOldMembers_24 : decode b_C_judgeOldMembers 24 = .ok (.iload 4, 2) := by decide +kernel
theorem d_C_judgeOldMembers_26 : decode b_C_judgeOldMembers 26 = .ok (.aaload, 1) := by decide +kernel
theorem d_C_judgeOldMembers_27 : decode b_C_judgeOldMembers 27 = .ok (.astore 5, 2) := by decide +kernel
theorem d_C_judgeOldMembers_29 : decode b_C_judgeOldMembers 29 = .ok (.aload 5, 2) := by decide +kernel
theorem d_C_judgeOldMembers_31 : decode b_C_judgeOldMembers 31 = .ok (.invokevirtual 89, 3) := by decide +kernel
theorem d_C_judgeOldMembers_34 : decode b_C_judgeOldMembers 34 = .ok (.ifCond .eq 28, 3) := by decide +kernel
theorem d_C_judgeOldMembers_37 : decode b_C_judgeOldMembers 37 = .ok (.iload_n 3, 1) := by decide +kernel
theorem d_C_judgeOldMembers_38 : decode b_C_judgeOldMembers 38 = .ok (.aload_n 1, 1) := by decide +kernel
theorem d_C_judgeOldMembers_39 : decode b_C_judgeOldMembers 39 = .ok (.aload 5, 2) := by decide +kernel
theorem d_C_judgeOldMembers_41 : decode b_C_judgeOldMembers 41 = .ok (.aload_n 0, 1) := by decide +kernel
theorem d_C_judgeOldMembers_42 : decode b_C_judgeOldMembers 42 = .ok (.getfield 23, 3) := by decide +kernel
theorem d_C_judgeOldMembers_45 : decode b_C_judgeOldMembers 45 = .ok (.iload 4, 2) := by decide +kernel
theorem d_C_judgeOldMembers_47 : decode b_C_judgeOldMembers 47 = .ok (.aaload, 1) := by decide +kernel
theorem d_C_judgeOldMembers_48 : decode b_C_judgeOldMembers 48 = .ok (.invokestatic 92, 3) := by decide +kernel
theorem d_C_judgeOldMembers_51 : decode b_C_judgeOldMembers 51 = .ok (.ifCond .eq 11, 3) := by decide +kernel
theorem d_C_judgeOldMembers_54 : decode b_C_judgeOldMembers 54 = .ok (.aload_n 0, 1) := by decide +kernel
theorem d_C_judgeOldMembers_55 : decode b_C_judgeOldMembers 55 = .ok (.iload_n 3, 1) := by decide +kernel
theorem d_C_judgeOldMembers_56 : decode b_C_judgeOldMembers 56 = .ok (.iload_n 2, 1) := by decide +kernel
theorem d_C_judgeOldMembers_57 : decode b_C_judgeOldMembers 57 = .ok (.iload 4, 2) := by decide +kernel
theorem d_C_judgeOldMembers_59 : decode b_C_judgeOldMembers 59 = .ok (.invokevirtual 50, 3) := by decide +kernel
theorem d_C_judgeOldMembers_62 : decode b_C_judgeOldMembers 62 = .ok (.iinc 4 1, 3) := by decide +kernel
theorem d_C_judgeOldMembers_65 : decode b_C_judgeOldMembers 65 = .ok (.goto (-54), 3) := by decide +kernel
theorem d_C_judgeOldMembers_68 : decode b_C_judgeOldMembers 68 = .ok (.iinc 3 1, 3) := by decide +kernel
theorem d_C_judgeOldMembers_71 : decode b_C_judgeOldMembers 71 = .ok (.goto (-69), 3) := by decide +kernel
theorem d_C_judgeOldMembers_74 : decode b_C_judgeOldMembers 74 = .ok (.return_, 1) := by decide +kernel
theorem d_C_judgeNewMembers_0 : decode b_C_judgeNewMembers 0 = .ok (.bipush 12, 2) := by decide +kernel
theorem d_C_judgeNewMembers_2 : decode b_C_judgeNewMembers 2 = .ok (.istore 4, 2) := by decide +kernel
theorem d_C_judgeNewMembers_4 : decode b_C_judgeNewMembers 4 = .ok (.iload 4, 2) := by decide +kernel
theorem d_C_judgeNewMembers_6 : decode b_C_judgeNewMembers 6 = .ok (.bipush 13, 2) := by decide +kernel
theorem d_C_judgeNewMembers_8 : decode b_C_judgeNewMembers 8 = .ok (.if_icmp .gt 79, 3) := by decide +kernel
theorem d_C_judgeNewMembers_11 : decode b_C_judgeNewMembers 11 = .ok (.iconst 0, 1) := by decide +kernel
theorem d_C_judgeNewMembers_12 : decode b_C_judgeNewMembers 12 = .ok (.istore 5, 2) := by decide +kernel
theorem d_C_judgeNewMembers_14 : decode b_C_judgeNewMembers 14 = .ok (.iload 5, 2) := by decide +kernel
theorem d_C_judgeNewMembers_16 : decode b_C_judgeNewMembers 16 = .ok (.aload_n 2, 1) := by decide +kernel
theorem d_C_judgeNewMembers_17 : decode b_C_judgeNewMembers 17 = .ok (.getfield 83, 3) := by decide +kernel
theorem d_C_judgeNewMembers_20 : decode b_C_judgeNewMembers 20 = .ok (.if_icmp .ge 61, 3) := by decide +kernel
theorem d_C_judgeNewMembers_23 : decode b_C_judgeNewMembers 23 = .ok (.aload_n 2, 1) := by decide +kernel
theorem d_C_judgeNewMembers_24 : decode b_C_judgeNewMembers 24 = .ok (.getfield 86, 3) := by decide +kernel
theorem d_C_judgeNewMembers_27 : decode b_C_judgeNewMembers 27 = .ok (.iload 5, 2) := by decide +kernel
theorem d_C_judgeNewMembers_29 : decode b_C_judgeNewMembers 29 = .ok (.aaload, 1) := by decide +kernel
theorem d_C_judgeNewMembers_30 : decode b_C_judgeNewMembers 30 = .ok (.astore 6, 2) := by decide +kernel
theorem d_C_judgeNewMembers_32 : decode b_C_judgeNewMembers 32 = .ok (.aload_n 1, 1) := by decide +kernel
theorem d_C_judgeNewMembers_33 : decode b_C_judgeNewMembers 33 = .ok (.aload 6, 2) := by decide +kernel
theorem d_C_judgeNewMembers_35 : decode b_C_judgeNewMembers 35 = .ok (.getfield 96, 3) := by decide +kernel
theorem d_C_judgeNewMembers_38 : decode b_C_judgeNewMembers 38 = .ok (.aload 6, 2) := by decide +kernel
theorem d_C_judgeNewMembers_40 : decode b_C_judgeNewMembers 40 = .ok (.getfield 97, 3) := by decide +kernel
theorem d_C_judgeNewMembers_43 : decode b_C_judgeNewMembers 43 = .ok (.invokevirtual 100, 3) := by decide +kernel
theorem d_C_judgeNewMembers_46 : decode b_C_judgeNewMembers 46 = .ok (.ifnonnull 29, 3) := by decide +kernel
theorem d_C_judgeNewMembers_49 : decode b_C_judgeNewMembers 49 = .ok (.iload 4, 2) := by decide +kernel
theorem d_C_judgeNewMembers_51 : decode b_C_judgeNewMembers 51 = .ok (.aload 6, 2) := by decide +kernel
theorem d_C_judgeNewMembers_53 : decode b_C_judgeNewMembers 53 = .ok (.aload_n 0, 1) := by decide +kernel
theorem d_C_judgeNewMembers_54 : decode b_C_judgeNewMembers 54 = .ok (.getfield 23, 3) := by decide +kernel
theorem d_C_judgeNewMembers_57 : decode b_C_judgeNewMembers 57 = .ok (.iload 5, 2) := by decide +kernel
theorem d_C_judgeNewMembers_59 : decode b_C_judgeNewMembers 59 = .ok (.aaload, 1) := by decide +kernel
theorem d_C_judgeNewMembers_60 : decode b_C_judgeNewMembers 60 = .ok (.invokestatic 104, 3) := by decide +kernel
theorem d_C_judgeNewMembers_63 : decode b_C_judgeNewMembers 63 = .ok (.ifCond .eq 12, 3) := by decide +kernel
theorem d_C_judgeNewMembers_66 : decode b_C_judgeNewMembers 66 = .ok (.aload_n 0, 1) := by decide +kernel
theorem d_C_judgeNewMembers_67 : decode b_C_judgeNewMembers 67 = .ok (.iload 4, 2) := by decide +kernel
theorem d_C_judgeNewMembers_69 : decode b_C_judgeNewMembers 69 = .ok (.iload_n 3, 1) := by decide +kernel
theorem d_C_judgeNewMembers_70 : decode b_C_judgeNewMembers 70 = .ok (.iload 5, 2) := by decide +kernel
theorem d_C_judgeNewMembers_72 : decode b_C_judgeNewMembers 72 = .ok (.invokevirtual 50, 3) := by decide +kernel
theorem d_C_judgeNewMembers_75 : decode b_C_judgeNewMembers 75 = .ok (.iinc 5 1, 3) := by decide +kernel
theorem d_C_judgeNewMembers_78 : decode b_C_judgeNewMembers 78 = .ok (.goto (-64), 3) := by decide +kernel
theorem d_C_judgeNewMembers_81 : decode b_C_judgeNewMembers 81 = .ok (.iinc 4 1, 3) := by decide +kernel
theorem d_C_judgeNewMembers_84 : decode b_C_judgeNewMembers 84 = .ok (.goto (-80), 3) := by decide +kernel
theorem d_C_judgeNewMembers_87 : decode b_C_judgeNewMembers 87 = .ok (.return_, 1) := by decide +kernel
theorem d_C_findPartners_0 : decode b_C_findPartners 0 = .ok (.iconst 0, 1) := by decide +kernel
theorem d_C_findPartners_1 : decode b_C_findPartners 1 = .ok (.istore 4, 2) := by decide +kernel
theorem d_C_findPartners_3 : decode b_C_findPartners 3 = .ok (.iload 4, 2) := by decide +kernel
theorem d_C_findPartners_5 : decode b_C_findPartners 5 = .ok (.aload_n 1, 1) := by decide +kernel
theorem d_C_findPartners_6 : decode b_C_findPartners 6 = .ok (.getfield 83, 3) := by decide +kernel
theorem d_C_findPartners_9 : decode b_C_findPartners 9 = .ok (.if_icmp .ge 73, 3) := by decide +kernel
theorem d_C_findPartners_12 : decode b_C_findPartners 12 = .ok (.aload_n 1, 1) := by decide +kernel
theorem d_C_findPartners_13 : decode b_C_findPartners 13 = .ok (.getfield 86, 3) := by decide +kernel
theorem d_C_findPartners_16 : decode b_C_findPartners 16 = .ok (.iload 4, 2) := by decide +kernel
theorem d_C_findPartners_18 : decode b_C_findPartners 18 = .ok (.aaload, 1) := by decide +kernel
theorem d_C_findPartners_19 : decode b_C_findPartners 19 = .ok (.astore 5, 2) := by decide +kernel
theorem d_C_findPartners_21 : decode b_C_findPartners 21 = .ok (.aload_n 2, 1) := by decide +kernel
theorem d_C_findPartners_22 : decode b_C_findPartners 22 = .ok (.iload_n 3, 1) := by decide +kernel
theorem d_C_findPartners_23 : decode b_C_findPartners 23 = .ok (.aload 5, 2) := by decide +kernel
theorem d_C_findPartners_25 : decode b_C_findPartners 25 = .ok (.getfield 96, 3) := by decide +kernel
theorem d_C_findPartners_28 : decode b_C_findPartners 28 = .ok (.aload 5, 2) := by decide +kernel
theorem d_C_findPartners_30 : decode b_C_findPartners 30 = .ok (.getfield 97, 3) := by decide +kernel
theorem d_C_findPartners_33 : decode b_C_findPartners 33 = .ok (.invokevirtual 108, 3) := by decide +kernel
theorem d_C_findPartners_36 : decode b_C_findPartners 36 = .ok (.istore 6, 2) := by decide +kernel
theorem d_C_findPartners_38 : decode b_C_findPartners 38 = .ok (.aload_n 0, 1) := by decide +kernel
theorem d_C_findPartners_39 : decode b_C_findPartners 39 = .ok (.getfield 23, 3) := by decide +kernel
theorem d_C_findPartners_42 : decode b_C_findPartners 42 = .ok (.iload 4, 2) := by decide +kernel
theorem d_C_findPartners_44 : decode b_C_findPartners 44 = .ok (.iload 6, 2) := by decide +kernel
theorem d_C_findPartners_46 : decode b_C_findPartners 46 = .ok (.bipush 12, 2) := by decide +kernel
theorem d_C_findPartners_48 : decode b_C_findPartners 48 = .ok (.if_icmp .ne 7, 3) := by decide +kernel
theorem d_C_findPartners_51 : decode b_C_findPartners 51 = .ok (.aconst_null, 1) := by decide +kernel
theorem d_C_findPartners_52 : decode b_C_findPartners 52 = .ok (.goto 23, 3) := by decide +kernel
theorem d_C_findPartners_55 : decode b_C_findPartners 55 = .ok (.aload_n 2, 1) := by decide +kernel
theorem d_C_findPartners_56 : decode b_C_findPartners 56 = .ok (.getfield 35, 3) := by decide +kernel
theorem d_C_findPartners_59 : decode b_C_findPartners 59 = .ok (.iload 6, 2) := by decide +kernel
theorem d_C_findPartners_61 : decode b_C_findPartners 61 = .ok (.aaload, 1) := by decide +kernel
theorem d_C_findPartners_62 : decode b_C_findPartners 62 = .ok (.aload 5, 2) := by decide +kernel
theorem d_C_findPartners_64 : decode b_C_findPartners 64 = .ok (.getfield 96, 3) := by decide +kernel
theorem d_C_findPartners_67 : decode b_C_findPartners 67 = .ok (.aload 5, 2) := by decide +kernel
theorem d_C_findPartners_69 : decode b_C_findPartners 69 = .ok (.getfield 97, 3) := by decide +kernel
theorem d_C_findPartners_72 : decode b_C_findPartners 72 = .ok (.invokevirtual 100, 3) := by decide +kernel
theorem d_C_findPartners_75 : decode b_C_findPartners 75 = .ok (.aastore, 1) := by decide +kernel
theorem d_C_findPartners_76 : decode b_C_findPartners 76 = .ok (.iinc 4 1, 3) := by decide +kernel
theorem d_C_findPartners_79 : decode b_C_findPartners 79 = .ok (.goto (-76), 3) := by decide +kernel
theorem d_C_findPartners_82 : decode b_C_findPartners 82 = .ok (.return_, 1) := by decide +kernel
theorem d_C_breaksAsOld_0 : decode b_C_breaksAsOld 0 = .ok (.aload_n 3, 1) := by decide +kernel
theorem d_C_breaksAsOld_1 : decode b_C_breaksAsOld 1 = .ok (.ifnonnull 14, 3) := by decide +kernel
theorem d_C_breaksAsOld_4 : decode b_C_breaksAsOld 4 = .ok (.iload_n 0, 1) := by decide +kernel
theorem d_C_breaksAsOld_5 : decode b_C_breaksAsOld 5 = .ok (.iconst 5, 1) := by decide +kernel
theorem d_C_breaksAsOld_6 : decode b_C_breaksAsOld 6 = .ok (.if_icmp .ne 7, 3) := by decide +kernel
theorem d_C_breaksAsOld_9 : decode b_C_breaksAsOld 9 = .ok (.iconst 1, 1) := by decide +kernel
theorem d_C_breaksAsOld_10 : decode b_C_breaksAsOld 10 = .ok (.goto 4, 3) := by decide +kernel
theorem d_C_breaksAsOld_13 : decode b_C_breaksAsOld 13 = .ok (.iconst 0, 1) := by decide +kernel
theorem d_C_breaksAsOld_14 : decode b_C_breaksAsOld 14 = .ok (.ireturn, 1) := by decide +kernel
theorem d_C_breaksAsOld_15 : decode b_C_breaksAsOld 15 = .ok (.iload_n 0, 1) := by decide +kernel
theorem d_C_breaksAsOld_16 : decode b_C_breaksAsOld 16 = .ok (.tableswitch 200 6 11 #[40, 57, 76, 107, 128, 160], 40) := by decide +kernel
theorem d_C_breaksAsOld_56 : decode b_C_breaksAsOld 56 = .ok (.aload_n 3, 1) := by decide +kernel
theorem d_C_breaksAsOld_57 : decode b_C_breaksAsOld 57 = .ok (.invokevirtual 112, 3) := by decide +kernel
theorem d_C_breaksAsOld_60 : decode b_C_breaksAsOld 60 = .ok (.aload_n 2, 1) := by decide +kernel
theorem d_C_breaksAsOld_61 : decode b_C_breaksAsOld 61 = .ok (.invokevirtual 112, 3) := by decide +kernel
theorem d_C_breaksAsOld_64 : decode b_C_breaksAsOld 64 = .ok (.if_icmp .ge 7, 3) := by decide +kernel
theorem d_C_breaksAsOld_67 : decode b_C_breaksAsOld 67 = .ok (.iconst 1, 1) := by decide +kernel
theorem d_C_breaksAsOld_68 : decode b_C_breaksAsOld 68 = .ok (.goto 4, 3) := by decide +kernel
theorem d_C_breaksAsOld_71 : decode b_C_breaksAsOld 71 = .ok (.iconst 0, 1) := by decide +kernel
theorem d_C_breaksAsOld_72 : decode b_C_breaksAsOld 72 = .ok (.ireturn, 1) := by decide +kernel
theorem d_C_breaksAsOld_73 : decode b_C_breaksAsOld 73 = .ok (.aload_n 2, 1) := by decide +kernel
theorem d_C_breaksAsOld_74 : decode b_C_breaksAsOld 74 = .ok (.iconst 4, 1) := by decide +kernel
theorem d_C_breaksAsOld_75 : decode b_C_breaksAsOld 75 = .ok (.invokevirtual 116, 3) := by decide +kernel
theorem d_C_breaksAsOld_78 : decode b_C_breaksAsOld 78 = .ok (.aload_n 3, 1) := by decide +kernel
theorem d_C_breaksAsOld_79 : decode b_C_breaksAsOld 79 = .ok (.iconst 4, 1) := by decide +kernel
theorem d_C_breaksAsOld_80 : decode b_C_breaksAsOld 80 = .ok (.invokevirtual 116, 3) := by decide +kernel
theorem d_C_breaksAsOld_83 : decode b_C_breaksAsOld 83 = .ok (.if_icmp .eq 7, 3) := by decide +kernel
theorem d_C_breaksAsOld_86 : decode b_C_breaksAsOld 86 = .ok (.iconst 1, 1) := by decide +kernel
theorem d_C_breaksAsOld_87 : decode b_C_breaksAsOld 87 = .ok (.goto 4, 3) := by decide +kernel
theorem d_C_breaksAsOld_90 : decode b_C_breaksAsOld 90 = .ok (.iconst 0, 1) := by decide +kernel
theorem d_C_breaksAsOld_91 : decode b_C_breaksAsOld 91 = .ok (.ireturn, 1) := by decide +kernel
theorem d_C_breaksAsOld_92 : decode b_C_breaksAsOld 92 = .ok (.aload_n 2, 1) := by decide +kernel
theorem d_C_breaksAsOld_93 : decode b_C_breaksAsOld 93 = .ok (.getfield 96, 3) := by decide +kernel
theorem d_C_breaksAsOld_96 : decode b_C_breaksAsOld 96 = .ok (.ifCond .ne 25, 3) := by decide +kernel
theorem d_C_breaksAsOld_99 : decode b_C_breaksAsOld 99 = .ok (.aload_n 2, 1) := by decide +kernel
theorem d_C_breaksAsOld_100 : decode b_C_breaksAsOld 100 = .ok (.bipush 8, 2) := by decide +kernel
theorem d_C_breaksAsOld_102 : decode b_C_breaksAsOld 102 = .ok (.invokevirtual 116, 3) := by decide +kernel
theorem d_C_breaksAsOld_105 : decode b_C_breaksAsOld 105 = .ok (.ifCond .ne 16, 3) := by decide +kernel
theorem d_C_breaksAsOld_108 : decode b_C_breaksAsOld 108 = .ok (.aload_n 3, 1) := by decide +kernel
theorem d_C_breaksAsOld_109 : decode b_C_breaksAsOld 109 = .ok (.bipush 8, 2) := by decide +kernel
theorem d_C_breaksAsOld_111 : decode b_C_breaksAsOld 111 = .ok (.invokevirtual 116, 3) := by decide +kernel
theorem d_C_breaksAsOld_114 : decode b_C_breaksAsOld 114 = .ok (.ifCond .eq 7, 3) := by decide +kernel
theorem d_C_breaksAsOld_117 : decode b_C_breaksAsOld 117 = .ok (.iconst 1, 1) := by decide +kernel
theorem d_C_breaksAsOld_118 : decode b_C_breaksAsOld 118 = .ok (.goto 4, 3) := by decide +kernel
theorem d_C_breaksAsOld_121 : decode b_C_breaksAsOld 121 = .ok (.iconst 0, 1) := by decide +kernel
theorem d_C_breaksAsOld_122 : decode b_C_breaksAsOld 122 = .ok (.ireturn, 1) := by decide +kernel
theorem d_C_breaksAsOld_123 : decode b_C_breaksAsOld 123 = .ok (.aload_n 2, 1) := by decide +kernel
theorem d_C_breaksAsOld_124 : decode b_C_breaksAsOld 124 = .ok (.getfield 117, 3) := by decide +kernel
theorem d_C_breaksAsOld_127 : decode b_C_breaksAsOld 127 = .ok (.ifCond .eq 15, 3) := by decide +kernel
theorem d_C_breaksAsOld_130 : decode b_C_breaksAsOld 130 = .ok (.aload_n 2, 1) := by decide +kernel
theorem d_C_breaksAsOld_131 : decode b_C_breaksAsOld 131 = .ok (.aload_n 3, 1) := by decide +kernel
theorem d_C_breaksAsOld_132 : decode b_C_breaksAsOld 132 = .ok (.invokevirtual 120, 3) := by decide +kernel
theorem d_C_breaksAsOld_135 : decode b_C_breaksAsOld 135 = .ok (.ifCond .ne 7, 3) := by decide +kernel
theorem d_C_breaksAsOld_138 : decode b_C_breaksAsOld 138 = .ok (.iconst 1, 1) := by decide +kernel
theorem d_C_breaksAsOld_139 : decode b_C_breaksAsOld 139 = .ok (.goto 4, 3) := by decide +kernel
theorem d_C_breaksAsOld_142 : decode b_C_breaksAsOld 142 = .ok (.iconst 0, 1) := by decide +kernel
theorem d_C_breaksAsOld_143 : decode b_C_breaksAsOld 143 = .ok (.ireturn, 1) := by decide +kernel
theorem d_C_breaksAsOld_144 : decode b_C_breaksAsOld 144 = .ok (.aload_n 2, 1) := by decide +kernel
theorem d_C_breaksAsOld_145 : decode b_C_breaksAsOld 145 = .ok (.getfield 96, 3) := by decide +kernel
theorem d_C_breaksAsOld_148 : decode b_C_breaksAsOld 148 = .ok (.iconst 1, 1) := by decide +kernel
theorem d_C_breaksAsOld_149 : decode b_C_breaksAsOld 149 = .ok (.if_icmp .ne 25, 3) := by decide +kernel
theorem d_C_breaksAsOld_152 : decode b_C_breaksAsOld 152 = .ok (.aload_n 2, 1) := by decide +kernel
theorem d_C_breaksAsOld_153 : decode b_C_breaksAsOld 153 = .ok (.bipush 16, 2) := by decide +kernel
theorem d_C_breaksAsOld_155 : decode b_C_breaksAsOld 155 = .ok (.invokevirtual 116, 3) := by decide +kernel
theorem d_C_breaksAsOld_158 : decode b_C_breaksAsOld 158 = .ok (.ifCond .ne 16, 3) := by decide +kernel
theorem d_C_breaksAsOld_161 : decode b_C_breaksAsOld 161 = .ok (.aload_n 3, 1) := by decide +kernel
theorem d_C_breaksAsOld_162 : decode b_C_breaksAsOld 162 = .ok (.bipush 16, 2) := by decide +kernel
theorem d_C_breaksAsOld_164 : decode b_C_breaksAsOld 164 = .ok (.invokevirtual 116, 3) := by decide +kernel
theorem d_C_breaksAsOld_167 : decode b_C_breaksAsOld 167 = .ok (.ifCond .eq 7, 3) := by decide +kernel
theorem d_C_breaksAsOld_170 : decode b_C_breaksAsOld 170 = .ok (.iconst 1, 1) := by decide +kernel
theorem d_C_breaksAsOld_171 : decode b_C_breaksAsOld 171 = .ok (.goto 4, 3) := by decide +kernel
theorem d_C_breaksAsOld_174 : decode b_C_breaksAsOld 174 = .ok (.iconst 0, 1) := by decide +kernel
theorem d_C_breaksAsOld_175 : decode b_C_breaksAsOld 175 = .ok (.ireturn, 1) := by decide +kernel
theorem d_C_breaksAsOld_176 : decode b_C_breaksAsOld 176 = .ok (.aload_n 2, 1) := by decide +kernel
theorem d_C_breaksAsOld_177 : decode b_C_breaksAsOld 177 = .ok (.getfield 96, 3) := by decide +kernel
theorem d_C_breaksAsOld_180 : decode b_C_breaksAsOld 180 = .ok (.iconst 1, 1) := by decide +kernel
theorem d_C_breaksAsOld_181 : decode b_C_breaksAsOld 181 = .ok (.if_icmp .ne 33, 3) := by decide +kernel
theorem d_C_breaksAsOld_184 : decode b_C_breaksAsOld 184 = .ok (.aload_n 2, 1) := by decide +kernel
theorem d_C_breaksAsOld_185 : decode b_C_breaksAsOld 185 = .ok (.bipush 12, 2) := by decide +kernel
theorem d_C_breaksAsOld_187 : decode b_C_breaksAsOld 187 = .ok (.invokevirtual 116, 3) := by decide +kernel
theorem d_C_breaksAsOld_190 : decode b_C_breaksAsOld 190 = .ok (.ifCond .ne 24, 3) := by decide +kernel
theorem d_C_breaksAsOld_193 : decode b_C_breaksAsOld 193 = .ok (.aload_n 1, 1) := by decide +kernel
theorem d_C_breaksAsOld_194 : decode b_C_breaksAsOld 194 = .ok (.iconst 4, 1) := by decide +kernel
theorem d_C_breaksAsOld_195 : decode b_C_breaksAsOld 195 = .ok (.invokevirtual 72, 3) := by decide +kernel
theorem d_C_breaksAsOld_198 : decode b_C_breaksAsOld 198 = .ok (.ifCond .ne 16, 3) := by decide +kernel
theorem d_C_breaksAsOld_201 : decode b_C_breaksAsOld 201 = .ok (.aload_n 3, 1) := by decide +kernel
theorem d_C_breaksAsOld_202 : decode b_C_breaksAsOld 202 = .ok (.bipush 8, 2) := by decide +kernel
theorem d_C_breaksAsOld_204 : decode b_C_breaksAsOld 204 = .ok (.invokevirtual 116, 3) := by decide +kernel
theorem d_C_breaksAsOld_207 : decode b_C_breaksAsOld 207 = .ok (.ifCond .eq 7, 3) := by decide +kernel
theorem d_C_breaksAsOld_210 : decode b_C_breaksAsOld 210 = .ok (.iconst 1, 1) := by decide +kernel
theorem d_C_breaksAsOld_211 : decode b_C_breaksAsOld 211 = .ok (.goto 4, 3) := by decide +kernel
theorem d_C_breaksAsOld_214 : decode b_C_breaksAsOld 214 = .ok (.iconst 0, 1) := by decide +kernel
theorem d_C_breaksAsOld_215 : decode b_C_breaksAsOld 215 = .ok (.ireturn, 1) := by decide +kernel
theorem d_C_breaksAsOld_216 : decode b_C_breaksAsOld 216 = .ok (.iconst 0, 1) := by decide +kernel
theorem d_C_breaksAsOld_217 : decode b_C_breaksAsOld 217 = .ok (.ireturn, 1) := by decide +kernel
theorem d_C_breaksAsNew_0 : decode b_C_breaksAsNew 0 = .ok (.iload_n 0, 1) := by decide +kernel
theorem d_C_breaksAsNew_1 : decode b_C_breaksAsNew 1 = .ok (.bipush 13, 2) := by decide +kernel
theorem d_C_breaksAsNew_3 : decode b_C_breaksAsNew 3 = .ok (.if_icmp .ne 30, 3) := by decide +kernel
theorem d_C_breaksAsNew_6 : decode b_C_breaksAsNew 6 = .ok (.aload_n 1, 1) := by decide +kernel
theorem d_C_breaksAsNew_7 : decode b_C_breaksAsNew 7 = .ok (.getfield 96, 3) := by decide +kernel
theorem d_C_breaksAsNew_10 : decode b_C_breaksAsNew 10 = .ok (.iconst 1, 1) := by decide +kernel
theorem d_C_breaksAsNew_11 : decode b_C_breaksAsNew 11 = .ok (.if_icmp .ne 20, 3) := by decide +kernel
theorem d_C_breaksAsNew_14 : decode b_C_breaksAsNew 14 = .ok (.aload_n 1, 1) := by decide +kernel
theorem d_C_breaksAsNew_15 : decode b_C_breaksAsNew 15 = .ok (.bipush 16, 2) := by decide +kernel
theorem d_C_breaksAsNew_17 : decode b_C_breaksAsNew 17 = .ok (.invokevirtual 116, 3) := by decide +kernel
theorem d_C_breaksAsNew_20 : decode b_C_breaksAsNew 20 = .ok (.ifCond .eq 11, 3) := by decide +kernel
theorem d_C_breaksAsNew_23 : decode b_C_breaksAsNew 23 = .ok (.aload_n 2, 1) := by decide +kernel
theorem d_C_breaksAsNew_24 : decode b_C_breaksAsNew 24 = .ok (.ifnonnull 7, 3) := by decide +kernel
theorem d_C_breaksAsNew_27 : decode b_C_breaksAsNew 27 = .ok (.iconst 1, 1) := by decide +kernel
theorem d_C_breaksAsNew_28 : decode b_C_breaksAsNew 28 = .ok (.goto 4, 3) := by decide +kernel
theorem d_C_breaksAsNew_31 : decode b_C_breaksAsNew 31 = .ok (.iconst 0, 1) := by decide +kernel
theorem d_C_breaksAsNew_32 : decode b_C_breaksAsNew 32 = .ok (.ireturn, 1) := by decide +kernel
theorem d_C_breaksAsNew_33 : decode b_C_breaksAsNew 33 = .ok (.aload_n 1, 1) := by decide +kernel
theorem d_C_breaksAsNew_34 : decode b_C_breaksAsNew 34 = .ok (.getfield 96, 3) := by decide +kernel
theorem d_C_breaksAsNew_37 : decode b_C_breaksAsNew 37 = .ok (.iconst 2, 1) := by decide +kernel
theorem d_C_breaksAsNew_38 : decode b_C_breaksAsNew 38 = .ok (.if_icmp .eq 42, 3) := by decide +kernel
theorem d_C_breaksAsNew_41 : decode b_C_breaksAsNew 41 = .ok (.aload_n 2, 1) := by decide +kernel
theorem d_C_breaksAsNew_42 : decode b_C_breaksAsNew 42 = .ok (.ifnull 38, 3) := by decide +kernel
theorem d_C_breaksAsNew_45 : decode b_C_breaksAsNew 45 = .ok (.aload_n 2, 1) := by decide +kernel
theorem d_C_breaksAsNew_46 : decode b_C_breaksAsNew 46 = .ok (.invokevirtual 89, 3) := by decide +kernel
theorem d_C_breaksAsNew_49 : decode b_C_breaksAsNew 49 = .ok (.ifCond .eq 31, 3) := by decide +kernel
theorem d_C_breaksAsNew_52 : decode b_C_breaksAsNew 52 = .ok (.aload_n 1, 1) := by decide +kernel
theorem d_C_breaksAsNew_53 : decode b_C_breaksAsNew 53 = .ok (.invokevirtual 112, 3) := by decide +kernel
theorem d_C_breaksAsNew_56 : decode b_C_breaksAsNew 56 = .ok (.aload_n 2, 1) := by decide +kernel
theorem d_C_breaksAsNew_57 : decode b_C_breaksAsNew 57 = .ok (.invokevirtual 112, 3) := by decide +kernel
theorem d_C_breaksAsNew_60 : decode b_C_breaksAsNew 60 = .ok (.if_icmp .lt 16, 3) := by decide +kernel
theorem d_C_breaksAsNew_63 : decode b_C_breaksAsNew 63 = .ok (.aload_n 1, 1) := by decide +kernel
theorem d_C_breaksAsNew_64 : decode b_C_breaksAsNew 64 = .ok (.iconst 4, 1) := by decide +kernel
theorem d_C_breaksAsNew_65 : decode b_C_breaksAsNew 65 = .ok (.invokevirtual 116, 3) := by decide +kernel
theorem d_C_breaksAsNew_68 : decode b_C_breaksAsNew 68 = .ok (.aload_n 2, 1) := by decide +kernel
theorem d_C_breaksAsNew_69 : decode b_C_breaksAsNew 69 = .ok (.iconst 4, 1) := by decide +kernel
theorem d_C_breaksAsNew_70 : decode b_C_breaksAsNew 70 = .ok (.invokevirtual 116, 3) := by decide +kernel
theorem d_C_breaksAsNew_73 : decode b_C_breaksAsNew 73 = .ok (.if_icmp .eq 7, 3) := by decide +kernel
theorem d_C_breaksAsNew_76 : decode b_C_breaksAsNew 76 = .ok (.iconst 1, 1) := by decide +kernel
theorem d_C_breaksAsNew_77 : decode b_C_breaksAsNew 77 = .ok (.goto 4, 3) := by decide +kernel
theorem d_C_breaksAsNew_80 : decode b_C_breaksAsNew 80 = .ok (.iconst 0, 1) := by decide +kernel
theorem d_C_breaksAsNew_81 : decode b_C_breaksAsNew 81 = .ok (.ireturn, 1) := by decide +kernel
theorem d_M_init_0 : decode b_M_init 0 = .ok (.aload_n 0, 1) := by decide +kernel
theorem d_M_init_1 : decode b_M_init 1 = .ok (.invokespecial 3, 3) := by decide +kernel
theorem d_M_init_4 : decode b_M_init 4 = .ok (.return_, 1) := by decide +kernel
theorem d_M_define_0 : decode b_M_define 0 = .ok (.aload_n 0, 1) := by decide +kernel
theorem d_M_define_1 : decode b_M_define 1 = .ok (.iload_n 1, 1) := by decide +kernel
theorem d_M_define_2 : decode b_M_define 2 = .ok (.putfield 9, 3) := by decide +kernel
theorem d_M_define_5 : decode b_M_define 5 = .ok (.aload_n 0, 1) := by decide +kernel
theorem d_M_define_6 : decode b_M_define 6 = .ok (.iload_n 2, 1) := by decide +kernel
theorem d_M_define_7 : decode b_M_define 7 = .ok (.putfield 15, 3) := by decide +kernel
theorem d_M_define_10 : decode b_M_define 10 = .ok (.aload_n 0, 1) := by decide +kernel
theorem d_M_define_11 : decode b_M_define 11 = .ok (.iload_n 3, 1) := by decide +kernel
theorem d_M_define_12 : decode b_M_define 12 = .ok (.putfield 18, 3) := by decide +kernel
theorem d_M_define_15 : decode b_M_define 15 = .ok (.aload_n 0, 1) := by decide +kernel
theorem d_M_define_16 : decode b_M_define 16 = .ok (.iconst 0, 1) := by decide +kernel
theorem d_M_define_17 : decode b_M_define 17 = .ok (.putfield 21, 3) := by decide +kernel
theorem d_M_define_20 : decode b_M_define 20 = .ok (.aload_n 0, 1) := by decide +kernel
theorem d_M_define_21 : decode b_M_define 21 = .ok (.iconst 0, 1) := by decide +kernel
theorem d_M_define_22 : decode b_M_define 22 = .ok (.putfield 25, 3) := by decide +kernel
theorem d_M_define_25 : decode b_M_define 25 = .ok (.return_, 1) := by decide +kernel
theorem d_M_become_0 : decode b_M_become 0 = .ok (.aload_n 0, 1) := by decide +kernel
theorem d_M_become_1 : decode b_M_become 1 = .ok (.aload_n 1, 1) := by decide +kernel
theorem d_M_become_2 : decode b_M_become 2 = .ok (.getfield 9, 3) := by decide +kernel
theorem d_M_become_5 : decode b_M_become 5 = .ok (.putfield 9, 3) := by decide +kernel
theorem d_M_become_8 : decode b_M_become 8 = .ok (.aload_n 0, 1) := by decide +kernel
theorem d_M_become_9 : decode b_M_become 9 = .ok (.aload_n 1, 1) := by decide +kernel
theorem d_M_become_10 : decode b_M_become 10 = .ok (.getfield 15, 3) := by decide +kernel
theorem d_M_become_13 : decode b_M_become 13 = .ok (.putfield 15, 3) := by decide +kernel
theorem d_M_become_16 : decode b_M_become 16 = .ok (.aload_n 0, 1) := by decide +kernel
theorem d_M_become_17 : decode b_M_become 17 = .ok (.aload_n 1, 1) := by decide +kernel
theorem d_M_become_18 : decode b_M_become 18 = .ok (.getfield 18, 3) := by decide +kernel
theorem d_M_become_21 : decode b_M_become 21 = .ok (.putfield 18, 3) := by decide +kernel
theorem d_M_become_24 : decode b_M_become 24 = .ok (.aload_n 0, 1) := by decide +kernel
theorem d_M_become_25 : decode b_M_become 25 = .ok (.aload_n 1, 1) := by decide +kernel
theorem d_M_become_26 : decode b_M_become 26 = .ok (.getfield 21, 3) := by decide +kernel
theorem d_M_become_29 : decode b_M_become 29 = .ok (.putfield 21, 3) := by decide +kernel
theorem d_M_become_32 : decode b_M_become 32 = .ok (.aload_n 0, 1) := by decide +kernel
theorem d_M_become_33 : decode b_M_become 33 = .ok (.aload_n 1, 1) := by decide +kernel
theorem d_M_become_34 : decode b_M_become 34 = .ok (.getfield 25, 3) := by decide +kernel
theorem d_M_become_37 : decode b_M_become 37 = .ok (.putfield 25, 3) := by decide +kernel
theorem d_M_become_40 : decode b_M_become 40 = .ok (.return_, 1) := by decide +kernel
theorem d_M_hasAny_0 : decode b_M_hasAny 0 = .ok (.aload_n 0, 1) := by decide +kernel
theorem d_M_hasAny_1 : decode b_M_hasAny 1 = .ok (.getfield 18, 3) := by decide +kernel
theorem d_M_hasAny_4 : decode b_M_hasAny 4 = .ok (.iload_n 1, 1) := by decide +kernel
theorem d_M_hasAny_5 : decode b_M_hasAny 5 = .ok (.iand, 1) := by decide +kernel
theorem d_M_hasAny_6 : decode b_M_hasAny 6 = .ok (.ifCond .eq 7, 3) := by decide +kernel
theorem d_M_hasAny_9 : decode b_M_hasAny 9 = .ok (.iconst 1, 1) := by decide +kernel
theorem d_M_hasAny_10 : decode b_M_hasAny 10 = .ok (.goto 4, 3) := by decide +kernel
theorem d_M_hasAny_13 : decode b_M_hasAny 13 = .ok (.iconst 0, 1) := by decide +kernel
theorem d_M_hasAny_14 : decode b_M_hasAny 14 = .ok (.ireturn, 1) := by decide +kernel
theorem d_M_access_0 : decode b_M_access 0 = .ok (.aload_n 0, 1) := by decide +kernel
theorem d_M_access_1 : decode b_M_access 1 = .ok (.getfield 18, 3) := by decide +kernel
theorem d_M_access_4 : decode b_M_access 4 = .ok (.iconst 3, 1) := by decide +kernel
theorem d_M_access_5 : decode b_M_access 5 = .ok (.iand, 1) := by decide +kernel
theorem d_M_access_6 : decode b_M_access 6 = .ok (.ireturn, 1) := by decide +kernel
theorem d_M_isOpen_0 : decode b_M_isOpen 0 = .ok (.aload_n 0, 1) := by decide +kernel
theorem d_M_isOpen_1 : decode b_M_isOpen 1 = .ok (.invokevirtual 28, 3) := by decide +kernel
theorem d_M_isOpen_4 : decode b_M_isOpen 4 = .ok (.iconst 2, 1) := by decide +kernel
theorem d_M_isOpen_5 : decode b_M_isOpen 5 = .ok (.if_icmp .lt 7, 3) := by decide +kernel
theorem d_M_isOpen_8 : decode b_M_isOpen 8 = .ok (.iconst 1, 1) := by decide +kernel
theorem d_M_isOpen_9 : decode b_M_isOpen 9 = .ok (.goto 4, 3) := by decide +kernel
theorem d_M_isOpen_12 : decode b_M_isOpen 12 = .ok (.iconst 0, 1) := by decide +kernel
theorem d_M_isOpen_13 : decode b_M_isOpen 13 = .ok (.ireturn, 1) := by decide +kernel
theorem d_M_hasConstantOf_0 : decode b_M_hasConstantOf 0 = .ok (.aload_n 0, 1) := by decide +kernel
theorem d_M_hasConstantOf_1 : decode b_M_hasConstantOf 1 = .ok (.getfield 21, 3) := by decide +kernel
theorem d_M_hasConstantOf_4 : decode b_M_hasConstantOf 4 = .ok (.ifCond .eq 25, 3) := by decide +kernel
theorem d_M_hasConstantOf_7 : decode b_M_hasConstantOf 7 = .ok (.aload_n 1, 1) := by decide +kernel
theorem d_M_hasConstantOf_8 : decode b_M_hasConstantOf 8 = .ok (.getfield 21, 3) := by decide +kernel
theorem d_M_hasConstantOf_11 : decode b_M_hasConstantOf 11 = .ok (.ifCond .eq 18, 3) := by decide +kernel
theorem d_M_hasConstantOf_14 : decode b_M_hasConstantOf 14 = .ok (.aload_n 0, 1) := by decide +kernel
theorem d_M_hasConstantOf_15 : decode b_M_hasConstantOf 15 = .ok (.getfield 25, 3) := by decide +kernel
theorem d_M_hasConstantOf_18 : decode b_M_hasConstantOf 18 = .ok (.aload_n 1, 1) := by decide +kernel
theorem d_M_hasConstantOf_19 : decode b_M_hasConstantOf 19 = .ok (.getfield 25, 3) := by decide +kernel
theorem d_M_hasConstantOf_22 : decode b_M_hasConstantOf 22 = .ok (.if_icmp .ne 7, 3) := by decide +kernel
theorem d_M_hasConstantOf_25 : decode b_M_hasConstantOf 25 = .ok (.iconst 1, 1) := by decide +kernel
theorem d_M_hasConstantOf_26 : decode b_M_hasConstantOf 26 = .ok (.goto 4, 3) := by decide +kernel
theorem d_M_hasConstantOf_29 : decode b_M_hasConstantOf 29 = .ok (.iconst 0, 1) := by decide +kernel
theorem d_M_hasConstantOf_30 : decode b_M_hasConstantOf 30 = .ok (.ireturn, 1) := by decide +kernel
theorem d_T_init_0 : decode b_T_init 0 = .ok (.aload_n 0, 1) := by decide +kernel
theorem d_T_init_1 : decode b_T_init 1 = .ok (.invokespecial 3, 3) := by decide +kernel
theorem d_T_init_4 : decode b_T_init 4 = .ok (.aload_n 0, 1) := by decide +kernel
theorem d_T_init_5 : decode b_T_init 5 = .ok (.iconst 3, 1) := by decide +kernel
theorem d_T_init_6 : decode b_T_init 6 = .ok (.newarray .int, 2) := by decide +kernel
theorem d_T_init_8 : decode b_T_init 8 = .ok (.putfield 9, 3) := by decide +kernel
theorem d_T_init_11 : decode b_T_init 11 = .ok (.aload_n 0, 1) := by decide +kernel
theorem d_T_init_12 : decode b_T_init 12 = .ok (.bipush 8, 2) := by decide +kernel
theorem d_T_init_14 : decode b_T_init 14 = .ok (.anewarray 15, 3) := by decide +kernel
theorem d_T_init_17 : decode b_T_init 17 = .ok (.putfield 17, 3) := by decide +kernel
theorem d_T_init_20 : decode b_T_init 20 = .ok (.iconst 0, 1) := by decide +kernel
theorem d_T_init_21 : decode b_T_init 21 = .ok (.istore_n 1, 1) := by decide +kernel
theorem d_T_init_22 : decode b_T_init 22 = .ok (.iload_n 1, 1) := by decide +kernel
theorem d_T_init_23 : decode b_T_init 23 = .ok (.bipush 8, 2) := by decide +kernel
theorem d_T_init_25 : decode b_T_init 25 = .ok (.if_icmp .ge 22, 3) := by decide +kernel
theorem d_T_init_28 : decode b_T_init 28 = .ok (.aload_n 0, 1) := by decide +kernel
theorem d_T_init_29 : decode b_T_init 29 = .ok (.getfield 17, 3) := by decide +kernel
theorem d_T_init_32 : decode b_T_init 32 = .ok (.iload_n 1, 1) := by decide +kernel
theorem d_T_init_33 : decode b_T_init 33 = .ok (.new 15, 3) := by decide +kernel
theorem d_T_init_36 : decode b_T_init 36 = .ok (.dup, 1) := by decide +kernel
theorem d_T_init_37 : decode b_T_init 37 = .ok (.invokespecial 21, 3) := by decide +kernel
theorem d_T_init_40 : decode b_T_init 40 = .ok (.aastore, 1) := by decide +kernel
theorem d_T_init_41 : decode b_T_init 41 = .ok (.iinc 1 1, 3) := by decide +kernel
theorem d_T_init_44 : decode b_T_init 44 = .ok (.goto (-22), 3) := by decide +kernel
theorem d_T_init_47 : decode b_T_init 47 = .ok (.aload_n 0, 1) := by decide +kernel
theorem d_T_init_48 : decode b_T_init 48 = .ok (.iconst (-1), 1) := by decide +kernel
theorem d_T_init_49 : decode b_T_init 49 = .ok (.putfield 22, 3) := by decide +kernel
theorem d_T_init_52 : decode b_T_init 52 = .ok (.aload_n 0, 1) := by decide +kernel
theorem d_T_init_53 : decode b_T_init 53 = .ok (.iconst (-1), 1) := by decide +kernel
theorem d_T_init_54 : decode b_T_init 54 = .ok (.putfield 26, 3) := by decide +kernel
theorem d_T_init_57 : decode b_T_init 57 = .ok (.return_, 1) := by decide +kernel
theorem d_T_define_0 : decode b_T_define 0 = .ok (.aload_n 0, 1) := by decide +kernel
theorem d_T_define_1 : decode b_T_define 1 = .ok (.iconst 1, 1) := by decide +kernel
theorem d_T_define_2 : decode b_T_define 2 = .ok (.putfield 29, 3) := by decide +kernel
theorem d_T_define_5 : decode b_T_define 5 = .ok (.aload_n 0, 1) := by decide +kernel
theorem d_T_define_6 : decode b_T_define 6 = .ok (.iload_n 1, 1) := by decide +kernel
theorem d_T_define_7 : decode b_T_define 7 = .ok (.putfield 33, 3) := by decide +kernel
theorem d_T_define_10 : decode b_T_define 10 = .ok (.aload_n 0, 1) := by decide +kernel
theorem d_T_define_11 : decode b_T_define 11 = .ok (.iload_n 2, 1) := by decide +kernel
theorem d_T_define_12 : decode b_T_define 12 = .ok (.putfield 36, 3) := by decide +kernel
theorem d_T_define_15 : decode b_T_define 15 = .ok (.aload_n 0, 1) := by decide +kernel
theorem d_T_define_16 : decode b_T_define 16 = .ok (.iload_n 3, 1) := by decide +kernel
theorem d_T_define_17 : decode b_T_define 17 = .ok (.putfield 22, 3) := by decide +kernel
theorem d_T_define_20 : decode b_T_define 20 = .ok (.return_, 1) := by decide +kernel
theorem d_T_clear_0 : decode b_T_clear 0 = .ok (.aload_n 0, 1) := by decide +kernel
theorem d_T_clear_1 : decode b_T_clear 1 = .ok (.iconst 0, 1) := by decide +kernel
theorem d_T_clear_2 : decode b_T_clear 2 = .ok (.putfield 29, 3) := by decide +kernel
theorem d_T_clear_5 : decode b_T_clear 5 = .ok (.aload_n 0, 1) := by decide +kernel
theorem d_T_clear_6 : decode b_T_clear 6 = .ok (.iconst 0, 1) := by decide +kernel
theorem d_T_clear_7 : decode b_T_clear 7 = .ok (.putfield 33, 3) := by decide +kernel
theorem d_T_clear_10 : decode b_T_clear 10 = .ok (.aload_n 0, 1) := by decide +kernel
theorem d_T_clear_11 : decode b_T_clear 11 = .ok (.iconst 0, 1) := by decide +kernel
theorem d_T_clear_12 : decode b_T_clear 12 = .ok (.putfield 36, 3) := by decide +kernel
theorem d_T_clear_15 : decode b_T_clear 15 = .ok (.aload_n 0, 1) := by decide +kernel
theorem d_T_clear_16 : decode b_T_clear 16 = .ok (.iconst (-1), 1) := by decide +kernel
theorem d_T_clear_17 : decode b_T_clear 17 = .ok (.putfield 22, 3) := by decide +kernel
theorem d_T_clear_20 : decode b_T_clear 20 = .ok (.aload_n 0, 1) := by decide +kernel
theorem d_T_clear_21 : decode b_T_clear 21 = .ok (.iconst 0, 1) := by decide +kernel
theorem d_T_clear_22 : decode b_T_clear 22 = .ok (.putfield 39, 3) := by decide +kernel
theorem d_T_clear_25 : decode b_T_clear 25 = .ok (.aload_n 0, 1) := by decide +kernel
theorem d_T_clear_26 : decode b_T_clear 26 = .ok (.iconst 0, 1) := by decide +kernel
theorem d_T_clear_27 : decode b_T_clear 27 = .ok (.putfield 42, 3) := by decide +kernel
theorem d_T_clear_30 : decode b_T_clear 30 = .ok (.return_, 1) := by decide +kernel
theorem d_T_become_0 : decode b_T_become 0 = .ok (.aload_n 0, 1) := by decide +kernel
theorem d_T_become_1 : decode b_T_become 1 = .ok (.aload_n 1, 1) := by decide +kernel
theorem d_T_become_2 : decode b_T_become 2 = .ok (.getfield 29, 3) := by decide +kernel
theorem d_T_become_5 : decode b_T_become 5 = .ok (.putfield 29, 3) := by decide +kernel
theorem d_T_become_8 : decode b_T_become 8 = .ok (.aload_n 0, 1) := by decide +kernel
theorem d_T_become_9 : decode b_T_become 9 = .ok (.aload_n 1, 1) := by decide +kernel
theorem d_T_become_10 : decode b_T_become 10 = .ok (.getfield 33, 3) := by decide +kernel
theorem d_T_become_13 : decode b_T_become 13 = .ok (.putfield 33, 3) := by decide +kernel
theorem d_T_become_16 : decode b_T_become 16 = .ok (.aload_n 0, 1) := by decide +kernel
theorem d_T_become_17 : decode b_T_become 17 = .ok (.aload_n 1, 1) := by decide +kernel
theorem d_T_become_18 : decode b_T_become 18 = .ok (.getfield 36, 3) := by decide +kernel
theorem d_T_become_21 : decode b_T_become 21 = .ok (.putfield 36, 3) := by decide +kernel
theorem d_T_become_24 : decode b_T_become 24 = .ok (.aload_n 0, 1) := by decide +kernel
theorem d_T_become_25 : decode b_T_become 25 = .ok (.aload_n 1, 1) := by decide +kernel
theorem d_T_become_26 : decode b_T_become 26 = .ok (.getfield 22, 3) := by decide +kernel
theorem d_T_become_29 : decode b_T_become 29 = .ok (.putfield 22, 3) := by decide +kernel
theorem d_T_become_32 : decode b_T_become 32 = .ok (.aload_n 1, 1) := by decide +kernel
theorem d_T_become_33 : decode b_T_become 33 = .ok (.getfield 9, 3) := by decide +kernel
theorem d_T_become_36 : decode b_T_become 36 = .ok (.iconst 0, 1) := by decide +kernel
theorem d_T_become_37 : decode b_T_become 37 = .ok (.aload_n 0, 1) := by decide +kernel
theorem d_T_become_38 : decode b_T_become 38 = .ok (.getfield 9, 3) := by decide +kernel
theorem d_T_become_41 : decode b_T_become 41 = .ok (.iconst 0, 1) := by decide +kernel
theorem d_T_become_42 : decode b_T_become 42 = .ok (.iconst 3, 1) := by decide +kernel
theorem d_T_become_43 : decode b_T_become 43 = .ok (.invokestatic 45, 3) := by decide +kernel
theorem d_T_become_46 : decode b_T_become 46 = .ok (.aload_n 0, 1) := by decide +kernel
theorem d_T_become_47 : decode b_T_become 47 = .ok (.aload_n 1, 1) := by decide +kernel
theorem d_T_become_48 : decode b_T_become 48 = .ok (.getfield 39, 3) := by decide +kernel
theorem d_T_become_51 : decode b_T_become 51 = .ok (.putfield 39, 3) := by decide +kernel
theorem d_T_become_54 : decode b_T_become 54 = .ok (.iconst 0, 1) := by decide +kernel
theorem d_T_become_55 : decode b_T_become 55 = .ok (.istore_n 2, 1) := by decide +kernel
theorem d_T_become_56 : decode b_T_become 56 = .ok (.iload_n 2, 1) := by decide +kernel
theorem d_T_become_57 : decode b_T_become 57 = .ok (.aload_n 1, 1) := by decide +kernel
theorem d_T_become_58 : decode b_T_become 58 = .ok (.getfield 42, 3) := by decide +kernel
theorem d_T_become_61 : decode b_T_become 61 = .ok (.if_icmp .ge 24, 3) := by decide +kernel
theorem d_T_become_64 : decode b_T_become 64 = .ok (.aload_n 0, 1) := by decide +kernel
theorem d_T_become_65 : decode b_T_become 65 = .ok (.getfield 17, 3) := by decide +kernel
theorem d_T_become_68 : decode b_T_become 68 = .ok (.iload_n 2, 1) := by decide +kernel
theorem d_T_become_69 : decode b_T_become 69 = .ok (.aaload, 1) := by decide +kernel
theorem d_T_become_70 : decode b_T_become 70 = .ok (.aload_n 1, 1) := by decide +kernel
theorem d_T_become_71 : decode b_T_become 71 = .ok (.getfield 17, 3) := by decide +kernel
theorem d_T_become_74 : decode b_T_become 74 = .ok (.iload_n 2, 1) := by decide +kernel
theorem d_T_become_75 : decode b_T_become 75 = .ok (.aaload, 1) := by decide +kernel
theorem d_T_become_76 : decode b_T_become 76 = .ok (.invokevirtual 51, 3) := by decide +kernel
theorem d_T_become_79 : decode b_T_become 79 = .ok (.iinc 2 1, 3) := by decide +kernel
theorem d_T_become_82 : decode b_T_become 82 = .ok (.goto (-26), 3) := by decide +kernel
theorem d_T_become_85 : decode b_T_become 85 = .ok (.aload_n 0, 1) := by decide +kernel
theorem d_T_become_86 : decode b_T_become 86 = .ok (.aload_n 1, 1) := by decide +kernel
theorem d_T_become_87 : decode b_T_become 87 = .ok (.getfield 42, 3) := by decide +kernel
theorem d_T_become_90 : decode b_T_become 90 = .ok (.putfield 42, 3) := by decide +kernel
theorem d_T_become_93 : decode b_T_become 93 = .ok (.aload_n 0, 1) := by decide +kernel
theorem d_T_become_94 : decode b_T_become 94 = .ok (.aload_n 1, 1) := by decide +kernel
theorem d_T_become_95 : decode b_T_become 95 = .ok (.getfield 26, 3) := by decide +kernel
theorem d_T_become_98 : decode b_T_become 98 = .ok (.putfield 26, 3) := by decide +kernel
theorem d_T_become_101 : decode b_T_become 101 = .ok (.aload_n 0, 1) := by decide +kernel
theorem d_T_become_102 : decode b_T_become 102 = .ok (.aload_n 1, 1) := by decide +kernel
theorem d_T_become_103 : decode b_T_become 103 = .ok (.getfield 55, 3) := by decide +kernel
theorem d_T_become_106 : decode b_T_become 106 = .ok (.putfield 55, 3) := by decide +kernel
theorem d_T_become_109 : decode b_T_become 109 = .ok (.return_, 1) := by decide +kernel
theorem d_T_hasAny_0 : decode b_T_hasAny 0 = .ok (.aload_n 0, 1) := by decide +kernel
theorem d_T_hasAny_1 : decode b_T_hasAny 1 = .ok (.getfield 36, 3) := by decide +kernel
theorem d_T_hasAny_4 : decode b_T_hasAny 4 = .ok (.iload_n 1, 1) := by decide +kernel
theorem d_T_hasAny_5 : decode b_T_hasAny 5 = .ok (.iand, 1) := by decide +kernel
theorem d_T_hasAny_6 : decode b_T_hasAny 6 = .ok (.ifCond .eq 7, 3) := by decide +kernel
theorem d_T_hasAny_9 : decode b_T_hasAny 9 = .ok (.iconst 1, 1) := by decide +kernel
theorem d_T_hasAny_10 : decode b_T_hasAny 10 = .ok (.goto 4, 3) := by decide +kernel
theorem d_T_hasAny_13 : decode b_T_hasAny 13 = .ok (.iconst 0, 1) := by decide +kernel
theorem d_T_hasAny_14 : decode b_T_hasAny 14 = .ok (.ireturn, 1) := by decide +kernel
theorem d_T_isPublic_0 : decode b_T_isPublic 0 = .ok (.aload_n 0, 1) := by decide +kernel
theorem d_T_isPublic_1 : decode b_T_isPublic 1 = .ok (.getfield 29, 3) := by decide +kernel
theorem d_T_isPublic_4 : decode b_T_isPublic 4 = .ok (.ifCond .eq 15, 3) := by decide +kernel
theorem d_T_isPublic_7 : decode b_T_isPublic 7 = .ok (.aload_n 0, 1) := by decide +kernel
theorem d_T_isPublic_8 : decode b_T_isPublic 8 = .ok (.iconst 1, 1) := by decide +kernel
theorem d_T_isPublic_9 : decode b_T_isPublic 9 = .ok (.invokevirtual 58, 3) := by decide +kernel
theorem d_T_isPublic_12 : decode b_T_isPublic 12 = .ok (.ifCond .eq 7, 3) := by decide +kernel
theorem d_T_isPublic_15 : decode b_T_isPublic 15 = .ok (.iconst 1, 1) := by decide +kernel
theorem d_T_isPublic_16 : decode b_T_isPublic 16 = .ok (.goto 4, 3) := by decide +kernel
theorem d_T_isPublic_19 : decode b_T_isPublic 19 = .ok (.iconst 0, 1) := by decide +kernel
theorem d_T_isPublic_20 : decode b_T_isPublic 20 = .ok (.ireturn, 1) := by decide +kernel
theorem d_T_names_0 : decode b_T_names 0 = .ok (.iconst 0, 1) := by decide +kernel
theorem d_T_names_1 : decode b_T_names 1 = .ok (.istore_n 2, 1) := by decide +kernel
theorem d_T_names_2 : decode b_T_names 2 = .ok (.iload_n 2, 1) := by decide +kernel
theorem d_T_names_3 : decode b_T_names 3 = .ok (.aload_n 0, 1) := by decide +kernel
theorem d_T_names_4 : decode b_T_names 4 = .ok (.getfield 39, 3) := by decide +kernel
theorem d_T_names_7 : decode b_T_names 7 = .ok (.if_icmp .ge 21, 3) := by decide +kernel
theorem d_T_names_10 : decode b_T_names 10 = .ok (.aload_n 0, 1) := by decide +kernel
theorem d_T_names_11 : decode b_T_names 11 = .ok (.getfield 9, 3) := by decide +kernel
theorem d_T_names_14 : decode b_T_names 14 = .ok (.iload_n 2, 1) := by decide +kernel
theorem d_T_names_15 : decode b_T_names 15 = .ok (.iaload, 1) := by decide +kernel
theorem d_T_names_16 : decode b_T_names 16 = .ok (.iload_n 1, 1) := by decide +kernel
theorem d_T_names_17 : decode b_T_names 17 = .ok (.if_icmp .ne 5, 3) := by decide +kernel
theorem d_T_names_20 : decode b_T_names 20 = .ok (.iconst 1, 1) := by decide +kernel
theorem d_T_names_21 : decode b_T_names 21 = .ok (.ireturn, 1) := by decide +kernel
theorem d_T_names_22 : decode b_T_names 22 = .ok (.iinc 2 1, 3) := by decide +kernel
theorem d_T_names_25 : decode b_T_names 25 = .ok (.goto (-23), 3) := by decide +kernel
theorem d_T_names_28 : decode b_T_names 28 = .ok (.iconst 0, 1) := by decide +kernel
theorem d_T_names_29 : decode b_T_names 29 = .ok (.ireturn, 1) := by decide +kernel
theorem d_T_addInterface_0 : decode b_T_addInterface 0 = .ok (.aload_n 0, 1) := by decide +kernel
theorem d_T_addInterface_1 : decode b_T_addInterface 1 = .ok (.getfield 39, 3) := by decide +kernel
theorem d_T_addInterface_4 : decode b_T_addInterface 4 = .ok (.iconst 3, 1) := by decide +kernel
theorem d_T_addInterface_5 : decode b_T_addInterface 5 = .ok (.if_icmp .ge 23, 3) := by decide +kernel
theorem d_T_addInterface_8 : decode b_T_addInterface 8 = .ok (.aload_n 0, 1) := by decide +kernel
theorem d_T_addInterface_9 : decode b_T_addInterface 9 = .ok (.getfield 9, 3) := by decide +kernel
theorem d_T_addInterface_12 : decode b_T_addInterface 12 = .ok (.aload_n 0, 1) := by decide +kernel
theorem d_T_addInterface_13 : decode b_T_addInterface 13 = .ok (.getfield 39, 3) := by decide +kernel
theorem d_T_addInterface_16 : decode b_T_addInterface 16 = .ok (.iload_n 1, 1) := by decide +kernel
theorem d_T_addInterface_17 : decode b_T_addInterface 17 = .ok (.iastore, 1) := by decide +kernel
theorem d_T_addInterface_18 : decode b_T_addInterface 18 = .ok (.aload_n 0, 1) := by decide +kernel
theorem d_T_addInterface_19 : decode b_T_addInterface 19 = .ok (.dup, 1) := by decide +kernel
theorem d_T_addInterface_20 : decode b_T_addInterface 20 = .ok (.getfield 39, 3) := by decide +kernel
theorem d_T_addInterface_23 : decode b_T_addInterface 23 = .ok (.iconst 1, 1) := by decide +kernel
theorem d_T_addInterface_24 : decode b_T_addInterface 24 = .ok (.iadd, 1) := by decide +kernel
theorem d_T_addInterface_25 : decode b_T_addInterface 25 = .ok (.putfield 39, 3) := by decide +kernel
theorem d_T_addInterface_28 : decode b_T_addInterface 28 = .ok (.return_, 1) := by decide +kernel
theorem d_T_addMember_0 : decode b_T_addMember 0 = .ok (.aload_n 0, 1) := by decide +kernel
theorem d_T_addMember_1 : decode b_T_addMember 1 = .ok (.getfield 42, 3) := by decide +kernel
theorem d_T_addMember_4 : decode b_T_addMember 4 = .ok (.bipush 8, 2) := by decide +kernel
theorem d_T_addMember_6 : decode b_T_addMember 6 = .ok (.if_icmp .ge 28, 3) := by decide +kernel
theorem d_T_addMember_9 : decode b_T_addMember 9 = .ok (.aload_n 0, 1) := by decide +kernel
theorem d_T_addMember_10 : decode b_T_addMember 10 = .ok (.getfield 17, 3) := by decide +kernel
theorem d_T_addMember_13 : decode b_T_addMember 13 = .ok (.aload_n 0, 1) := by decide +kernel
theorem d_T_addMember_14 : decode b_T_addMember 14 = .ok (.getfield 42, 3) := by decide +kernel
theorem d_T_addMember_17 : decode b_T_addMember 17 = .ok (.aaload, 1) := by decide +kernel
theorem d_T_addMember_18 : decode b_T_addMember 18 = .ok (.iload_n 1, 1) := by decide +kernel
theorem d_T_addMember_19 : decode b_T_addMember 19 = .ok (.iload_n 2, 1) := by decide +kernel
theorem d_T_addMember_20 : decode b_T_addMember 20 = .ok (.iload_n 3, 1) := by decide +kernel
theorem d_T_addMember_21 : decode b_T_addMember 21 = .ok (.invokevirtual 62, 3) := by decide +kernel
theorem d_T_addMember_24 : decode b_T_addMember 24 = .ok (.aload_n 0, 1) := by decide +kernel
theorem d_T_addMember_25 : decode b_T_addMember 25 = .ok (.dup, 1) := by decide +kernel
theorem d_T_addMember_26 : decode b_T_addMember 26 = .ok (.getfield 42, 3) := by decide +kernel
theorem d_T_addMember_29 : decode b_T_addMember 29 = .ok (.iconst 1, 1) := by decide +kernel
theorem d_T_addMember_30 : decode b_T_addMember 30 = .ok (.iadd, 1) := by decide +kernel
theorem d_T_addMember_31 : decode b_T_addMember 31 = .ok (.putfield 42, 3) := by decide +kernel
theorem d_T_addMember_34 : decode b_T_addMember 34 = .ok (.return_, 1) := by decide +kernel
theorem d_T_takeOut_0 : decode b_T_takeOut 0 = .ok (.iload_n 1, 1) := by decide +kernel
theorem d_T_takeOut_1 : decode b_T_takeOut 1 = .ok (.istore_n 2, 1) := by decide +kernel
theorem d_T_takeOut_2 : decode b_T_takeOut 2 = .ok (.iload_n 2, 1) := by decide +kernel
theorem d_T_takeOut_3 : decode b_T_takeOut 3 = .ok (.aload_n 0, 1) := by decide +kernel
theorem d_T_takeOut_4 : decode b_T_takeOut 4 = .ok (.getfield 42, 3) := by decide +kernel
theorem d_T_takeOut_7 : decode b_T_takeOut 7 = .ok (.iconst 1, 1) := by decide +kernel
theorem d_T_takeOut_8 : decode b_T_takeOut 8 = .ok (.isub, 1) := by decide +kernel
theorem d_T_takeOut_9 : decode b_T_takeOut 9 = .ok (.if_icmp .ge 26, 3) := by decide +kernel
theorem d_T_takeOut_12 : decode b_T_takeOut 12 = .ok (.aload_n 0, 1) := by decide +kernel
theorem d_T_takeOut_13 : decode b_T_takeOut 13 = .ok (.getfield 17, 3) := by decide +kernel
theorem d_T_takeOut_16 : decode b_T_takeOut 16 = .ok (.iload_n 2, 1) := by decide +kernel
theorem d_T_takeOut_17 : decode b_T_takeOut 17 = .ok (.aaload, 1) := by decide +kernel
theorem d_T_takeOut_18 : decode b_T_takeOut 18 = .ok (.aload_n 0, 1) := by decide +kernel
theorem d_T_takeOut_19 : decode b_T_takeOut 19 = .ok (.getfield 17, 3) := by decide +kernel
theorem d_T_takeOut_22 : decode b_T_takeOut 22 = .ok (.iload_n 2, 1) := by decide +kernel
theorem d_T_takeOut_23 : decode b_T_takeOut 23 = .ok (.iconst 1, 1) := by decide +kernel
theorem d_T_takeOut_24 : decode b_T_takeOut 24 = .ok (.iadd, 1) := by decide +kernel
theorem d_T_takeOut_25 : decode b_T_takeOut 25 = .ok (.aaload, 1) := by decide +kernel
theorem d_T_takeOut_26 : decode b_T_takeOut 26 = .ok (.invokevirtual 51, 3) := by decide +kernel
theorem d_T_takeOut_29 : decode b_T_takeOut 29 = .ok (.iinc 2 1, 3) := by decide +kernel
theorem d_T_takeOut_32 : decode b_T_takeOut 32 = .ok (.goto (-30), 3) := by decide +kernel
theorem d_T_takeOut_35 : decode b_T_takeOut 35 = .ok (.aload_n 0, 1) := by decide +kernel
theorem d_T_takeOut_36 : decode b_T_takeOut 36 = .ok (.dup, 1) := by decide +kernel
theorem d_T_takeOut_37 : decode b_T_takeOut 37 = .ok (.getfield 42, 3) := by decide +kernel
theorem d_T_takeOut_40 : decode b_T_takeOut 40 = .ok (.iconst 1, 1) := by decide +kernel
theorem d_T_takeOut_41 : decode b_T_takeOut 41 = .ok (.isub, 1) := by decide +kernel
theorem d_T_takeOut_42 : decode b_T_takeOut 42 = .ok (.putfield 42, 3) := by decide +kernel
theorem d_T_takeOut_45 : decode b_T_takeOut 45 = .ok (.return_, 1) := by decide +kernel
theorem d_T_own_0 : decode b_T_own 0 = .ok (.iconst 0, 1) := by decide +kernel
theorem d_T_own_1 : decode b_T_own 1 = .ok (.istore_n 3, 1) := by decide +kernel
theorem d_T_own_2 : decode b_T_own 2 = .ok (.iload_n 3, 1) := by decide +kernel
theorem d_T_own_3 : decode b_T_own 3 = .ok (.aload_n 0, 1) := by decide +kernel
theorem d_T_own_4 : decode b_T_own 4 = .ok (.getfield 42, 3) := by decide +kernel
theorem d_T_own_7 : decode b_T_own 7 = .ok (.if_icmp .ge 42, 3) := by decide +kernel
theorem d_T_own_10 : decode b_T_own 10 = .ok (.aload_n 0, 1) := by decide +kernel
theorem d_T_own_11 : decode b_T_own 11 = .ok (.getfield 17, 3) := by decide +kernel
theorem d_T_own_14 : decode b_T_own 14 = .ok (.iload_n 3, 1) := by decide +kernel
theorem d_T_own_15 : decode b_T_own 15 = .ok (.aaload, 1) := by decide +kernel
theorem d_T_own_16 : decode b_T_own 16 = .ok (.getfield 66, 3) := by decide +kernel
theorem d_T_own_19 : decode b_T_own 19 = .ok (.iload_n 1, 1) := by decide +kernel
theorem d_T_own_20 : decode b_T_own 20 = .ok (.if_icmp .ne 23, 3) := by decide +kernel
theorem d_T_own_23 : decode b_T_own 23 = .ok (.aload_n 0, 1) := by decide +kernel
theorem d_T_own_24 : decode b_T_own 24 = .ok (.getfield 17, 3) := by decide +kernel
theorem d_T_own_27 : decode b_T_own 27 = .ok (.iload_n 3, 1) := by decide +kernel
theorem d_T_own_28 : decode b_T_own 28 = .ok (.aaload, 1) := by decide +kernel
theorem d_T_own_29 : decode b_T_own 29 = .ok (.getfield 67, 3) := by decide +kernel
theorem d_T_own_32 : decode b_T_own 32 = .ok (.iload_n 2, 1) := by decide +kernel
theorem d_T_own_33 : decode b_T_own 33 = .ok (.if_icmp .ne 10, 3) := by decide +kernel
theorem d_T_own_36 : decode b_T_own 36 = .ok (.aload_n 0, 1) := by decide +kernel
theorem d_T_own_37 : decode b_T_own 37 = .ok (.getfield 17, 3) := by decide +kernel
theorem d_T_own_40 : decode b_T_own 40 = .ok (.iload_n 3, 1) := by decide +kernel
theorem d_T_own_41 : decode b_T_own 41 = .ok (.aaload, 1) := by decide +kernel
theorem d_T_own_42 : decode b_T_own 42 = .ok (.areturn, 1) := by decide +kernel
theorem d_T_own_43 : decode b_T_own 43 = .ok (.iinc 3 1, 3) := by decide +kernel
theorem d_T_own_46 : decode b_T_own 46 = .ok (.goto (-44), 3) := by decide +kernel
theorem d_T_own_49 : decode b_T_own 49 = .ok (.aconst_null, 1) := by decide +kernel
theorem d_T_own_50 : decode b_T_own 50 = .ok (.areturn, 1) := by decide +kernel
theorem d_L_law_0 : decode code 0 = .ok (.new 7, 3) := by decide +kernel
theorem d_L_law_3 : decode code 3 = .ok (.dup, 1) := by decide +kernel
theorem d_L_law_4 : decode code 4 = .ok (.invokespecial 9, 3) := by decide +kernel
theorem d_L_law_7 : decode code 7 = .ok (.astore_n 1, 1) := by decide +kernel
theorem d_L_law_8 : decode code 8 = .ok (.new 10, 3) := by decide +kernel
theorem d_L_law_11 : decode code 11 = .ok (.dup, 1) := by decide +kernel
theorem d_L_law_12 : decode code 12 = .ok (.invokespecial 12, 3) := by decide +kernel
theorem d_L_law_15 : decode code 15 = .ok (.astore_n 2, 1) := by decide +kernel
theorem d_L_law_16 : decode code 16 = .ok (.iconst 0, 1) := by decide +kernel
theorem d_L_law_17 : decode code 17 = .ok (.istore_n 3, 1) := by decide +kernel
theorem d_L_law_18 : decode code 18 = .ok (.iload_n 3, 1) := by decide +kernel
theorem d_L_law_19 : decode code 19 = .ok (.aload_n 0, 1) := by decide +kernel
theorem d_L_law_20 : decode code 20 = .ok (.arraylength, 1) := by decide +kernel
theorem d_L_law_21 : decode code 21 = .ok (.bipush 6, 2) := by decide +kernel
theorem d_L_law_23 : decode code 23 = .ok (.isub, 1) := by decide +kernel
theorem d_L_law_24 : decode code 24 = .ok (.if_icmp .gt 666, 3) := by decide +kernel
theorem d_L_law_27 : decode code 27 = .ok (.aload_n 0, 1) := by decide +kernel
theorem d_L_law_28 : decode code 28 = .ok (.iload_n 3, 1) := by decide +kernel
theorem d_L_law_29 : decode code 29 = .ok (.iaload, 1) := by decide +kernel
theorem d_L_law_30 : decode code 30 = .ok (.bipush 15, 2) := by decide +kernel
theorem d_L_law_32 : decode code 32 = .ok (.iand, 1) := by decide +kernel
theorem d_L_law_33 : decode code 33 = .ok (.tableswitch 651 0 15 #[79, 142, 185, 248, 301, 334, 377, 390, 401, 460, 493, 546, 559, 592, 605, 628], 79) := by decide +kernel
theorem d_L_law_112 : decode code 112 = .ok (.aload_n 1, 1) := by decide +kernel
theorem d_L_law_113 : decode code 113 = .ok (.aload_n 0, 1) := by decide +kernel
theorem d_L_law_114 : decode code 114 = .ok (.iload_n 3, 1) := by decide +kernel
theorem d_L_law_115 : decode code 115 = .ok (.iconst 1, 1) := by decide +kernel
theorem d_L_law_116 : decode code 116 = .ok (.iadd, 1) := by decide +kernel
theorem d_L_law_117 : decode code 117 = .ok (.iaload, 1) := by decide +kernel
theorem d_L_law_118 : decode code 118 = .ok (.aload_n 0, 1) := by decide +kernel
theorem d_L_law_119 : decode code 119 = .ok (.iload_n 3, 1) := by decide +kernel
theorem d_L_law_120 : decode code 120 = .ok (.iconst 2, 1) := by decide +kernel
theorem d_L_law_121 : decode code 121 = .ok (.iadd, 1) := by decide +kernel
theorem d_L_law_122 : decode code 122 = .ok (.iaload, 1) := by decide +kernel
theorem d_L_law_123 : decode code 123 = .ok (.aload_n 0, 1) := by decide +kernel
theorem d_L_law_124 : decode code 124 = .ok (.iload_n 3, 1) := by decide +kernel
theorem d_L_law_125 : decode code 125 = .ok (.iconst 3, 1) := by decide +kernel
theorem d_L_law_126 : decode code 126 = .ok (.iadd, 1) := by decide +kernel
theorem d_L_law_127 : decode code 127 = .ok (.iaload, 1) := by decide +kernel
theorem d_L_law_128 : decode code 128 = .ok (.aload_n 0, 1) := by decide +kernel
theorem d_L_law_129 : decode code 129 = .ok (.iload_n 3, 1) := by decide +kernel
theorem d_L_law_130 : decode code 130 = .ok (.iconst 4, 1) := by decide +kernel
theorem d_L_law_131 : decode code 131 = .ok (.iadd, 1) := by decide +kernel
theorem d_L_law_132 : decode code 132 = .ok (.iaload, 1) := by decide +kernel
theorem d_L_law_133 : decode code 133 = .ok (.aload_n 0, 1) := by decide +kernel
theorem d_L_law_134 : decode code 134 = .ok (.iload_n 3, 1) := by decide +kernel
theorem d_L_law_135 : decode code 135 = .ok (.iconst 5, 1) := by decide +kernel
theorem d_L_law_136 : decode code 136 = .ok (.iadd, 1) := by decide +kernel
theorem d_L_law_137 : decode code 137 = .ok (.iaload, 1) := by decide +kernel
theorem d_L_law_138 : decode code 138 = .ok (.invokevirtual 13, 3) := by decide +kernel
theorem d_L_law_141 : decode code 141 = .ok (.aload_n 2, 1) := by decide +kernel
theorem d_L_law_142 : decode code 142 = .ok (.aload_n 0, 1) := by decide +kernel
theorem d_L_law_143 : decode code 143 = .ok (.iload_n 3, 1) := by decide +kernel
theorem d_L_law_144 : decode code 144 = .ok (.iconst 1, 1) := by decide +kernel
theorem d_L_law_145 : decode code 145 = .ok (.iadd, 1) := by decide +kernel
theorem d_L_law_146 : decode code 146 = .ok (.iaload, 1) := by decide +kernel
theorem d_L_law_147 : decode code 147 = .ok (.aload_n 0, 1) := by decide +kernel
theorem d_L_law_148 : decode code 148 = .ok (.iload_n 3, 1) := by decide +kernel
theorem d_L_law_149 : decode code 149 = .ok (.iconst 2, 1) := by decide +kernel
theorem d_L_law_150 : decode code 150 = .ok (.iadd, 1) := by decide +kernel
theorem d_L_law_151 : decode code 151 = .ok (.iaload, 1) := by decide +kernel
theorem d_L_law_152 : decode code 152 = .ok (.aload_n 0, 1) := by decide +kernel
theorem d_L_law_153 : decode code 153 = .ok (.iload_n 3, 1) := by decide +kernel
theorem d_L_law_154 : decode code 154 = .ok (.iconst 3, 1) := by decide +kernel
theorem d_L_law_155 : decode code 155 = .ok (.iadd, 1) := by decide +kernel
theorem d_L_law_156 : decode code 156 = .ok (.iaload, 1) := by decide +kernel
theorem d_L_law_157 : decode code 157 = .ok (.aload_n 0, 1) := by decide +kernel
theorem d_L_law_158 : decode code 158 = .ok (.iload_n 3, 1) := by decide +kernel
theorem d_L_law_159 : decode code 159 = .ok (.iconst 4, 1) := by decide +kernel
theorem d_L_law_160 : decode code 160 = .ok (.iadd, 1) := by decide +kernel
theorem d_L_law_161 : decode code 161 = .ok (.iaload, 1) := by decide +kernel
theorem d_L_law_162 : decode code 162 = .ok (.aload_n 0, 1) := by decide +kernel
theorem d_L_law_163 : decode code 163 = .ok (.iload_n 3, 1) := by decide +kernel
theorem d_L_law_164 : decode code 164 = .ok (.iconst 5, 1) := by decide +kernel
theorem d_L_law_165 : decode code 165 = .ok (.iadd, 1) := by decide +kernel
theorem d_L_law_166 : decode code 166 = .ok (.iaload, 1) := by decide +kernel
theorem d_L_law_167 : decode code 167 = .ok (.invokevirtual 17, 3) := by decide +kernel
theorem d_L_law_170 : decode code 170 = .ok (.if_icmp .eq 514, 3) := by decide +kernel
theorem d_L_law_173 : decode code 173 = .ok (.iconst 0, 1) := by decide +kernel
theorem d_L_law_174 : decode code 174 = .ok (.ireturn, 1) := by decide +kernel
theorem d_L_law_175 : decode code 175 = .ok (.aload_n 1, 1) := by decide +kernel
theorem d_L_law_176 : decode code 176 = .ok (.aload_n 0, 1) := by decide +kernel
theorem d_L_law_177 : decode code 177 = .ok (.iload_n 3, 1) := by decide +kernel
theorem d_L_law_178 : decode code 178 = .ok (.iconst 1, 1) := by decide +kernel
theorem d_L_law_179 : decode code 179 = .ok (.iadd, 1) := by decide +kernel
theorem d_L_law_180 : decode code 180 = .ok (.iaload, 1) := by decide +kernel
theorem d_L_law_181 : decode code 181 = .ok (.aload_n 0, 1) := by decide +kernel
theorem d_L_law_182 : decode code 182 = .ok (.iload_n 3, 1) := by decide +kernel
theorem d_L_law_183 : decode code 183 = .ok (.iconst 2, 1) := by decide +kernel
theorem d_L_law_184 : decode code 184 = .ok (.iadd, 1) := by decide +kernel
theorem d_L_law_185 : decode code 185 = .ok (.iaload, 1) := by decide +kernel
theorem d_L_law_186 : decode code 186 = .ok (.aload_n 0, 1) := by decide +kernel
theorem d_L_law_187 : decode code 187 = .ok (.iload_n 3, 1) := by decide +kernel
theorem d_L_law_188 : decode code 188 = .ok (.iconst 3, 1) := by decide +kernel
theorem d_L_law_189 : decode code 189 = .ok (.iadd, 1) := by decide +kernel
theorem d_L_law_190 : decode code 190 = .ok (.iaload, 1) := by decide +kernel
theorem d_L_law_191 : decode code 191 = .ok (.invokevirtual 18, 3) := by decide +kernel
theorem d_L_law_194 : decode code 194 = .ok (.aload_n 2, 1) := by decide +kernel
theorem d_L_law_195 : decode code 195 = .ok (.aload_n 0, 1) := by decide +kernel
theorem d_L_law_196 : decode code 196 = .ok (.iload_n 3, 1) := by decide +kernel
theorem d_L_law_197 : decode code 197 = .ok (.iconst 1, 1) := by decide +kernel
theorem d_L_law_198 : decode code 198 = .ok (.iadd, 1) := by decide +kernel
theorem d_L_law_199 : decode code 199 = .ok (.iaload, 1) := by decide +kernel
theorem d_L_law_200 : decode code 200 = .ok (.aload_n 0, 1) := by decide +kernel
theorem d_L_law_201 : decode code 201 = .ok (.iload_n 3, 1) := by decide +kernel
theorem d_L_law_202 : decode code 202 = .ok (.iconst 2, 1) := by decide +kernel
theorem d_L_law_203 : decode code 203 = .ok (.iadd, 1) := by decide +kernel
theorem d_L_law_204 : decode code 204 = .ok (.iaload, 1) := by decide +kernel
theorem d_L_law_205 : decode code 205 = .ok (.aload_n 0, 1) := by decide +kernel
theorem d_L_law_206 : decode code 206 = .ok (.iload_n 3, 1) := by decide +kernel
theorem d_L_law_207 : decode code 207 = .ok (.iconst 3, 1) := by decide +kernel
theorem d_L_law_208 : decode code 208 = .ok (.iadd, 1) := by decide +kernel
theorem d_L_law_209 : decode code 209 = .ok (.iaload, 1) := by decide +kernel
theorem d_L_law_210 : decode code 210 = .ok (.invokevirtual 22, 3) := by decide +kernel
theorem d_L_law_213 : decode code 213 = .ok (.if_icmp .eq 471, 3) := by decide +kernel
theorem d_L_law_216 : decode code 216 = .ok (.iconst 0, 1) := by decide +kernel
theorem d_L_law_217 : decode code 217 = .ok (.ireturn, 1) := by decide +kernel
theorem d_L_law_218 : decode code 218 = .ok (.aload_n 1, 1) := by decide +kernel
theorem d_L_law_219 : decode code 219 = .ok (.aload_n 0, 1) := by decide +kernel
theorem d_L_law_220 : decode code 220 = .ok (.iload_n 3, 1) := by decide +kernel
theorem d_L_law_221 : decode code 221 = .ok (.iconst 1, 1) := by decide +kernel
theorem d_L_law_222 : decode code 222 = .ok (.iadd, 1) := by decide +kernel
theorem d_L_law_223 : decode code 223 = .ok (.iaload, 1) := by decide +kernel
theorem d_L_law_224 : decode code 224 = .ok (.aload_n 0, 1) := by decide +kernel
theorem d_L_law_225 : decode code 225 = .ok (.iload_n 3, 1) := by decide +kernel
theorem d_L_law_226 : decode code 226 = .ok (.iconst 2, 1) := by decide +kernel
theorem d_L_law_227 : decode code 227 = .ok (.iadd, 1) := by decide +kernel
theorem d_L_law_228 : decode code 228 = .ok (.iaload, 1) := by decide +kernel
theorem d_L_law_229 : decode code 229 = .ok (.aload_n 0, 1) := by decide +kernel
theorem d_L_law_230 : decode code 230 = .ok (.iload_n 3, 1) := by decide +kernel
theorem d_L_law_231 : decode code 231 = .ok (.iconst 3, 1) := by decide +kernel
theorem d_L_law_232 : decode code 232 = .ok (.iadd, 1) := by decide +kernel
theorem d_L_law_233 : decode code 233 = .ok (.iaload, 1) := by decide +kernel
theorem d_L_law_234 : decode code 234 = .ok (.aload_n 0, 1) := by decide +kernel
theorem d_L_law_235 : decode code 235 = .ok (.iload_n 3, 1) := by decide +kernel
theorem d_L_law_236 : decode code 236 = .ok (.iconst 4, 1) := by decide +kernel
theorem d_L_law_237 : decode code 237 = .ok (.iadd, 1) := by decide +kernel
theorem d_L_law_238 : decode code 238 = .ok (.iaload, 1) := by decide +kernel
theorem d_L_law_239 : decode code 239 = .ok (.aload_n 0, 1) := by decide +kernel
theorem d_L_law_240 : decode code 240 = .ok (.iload_n 3, 1) := by decide +kernel
theorem d_L_law_241 : decode code 241 = .ok (.iconst 5, 1) := by decide +kernel
theorem d_L_law_242 : decode code 242 = .ok (.iadd, 1) := by decide +kernel
theorem d_L_law_243 : decode code 243 = .ok (.iaload, 1) := by decide +kernel
theorem d_L_law_244 : decode code 244 = .ok (.invokevirtual 23, 3) := by decide +kernel
theorem d_L_law_247 : decode code 247 = .ok (.aload_n 2, 1) := by decide +kernel
theorem d_L_law_248 : decode code 248 = .ok (.aload_n 0, 1) := by decide +kernel
theorem d_L_law_249 : decode code 249 = .ok (.iload_n 3, 1) := by decide +kernel
theorem d_L_law_250 : decode code 250 = .ok (.iconst 1, 1) := by decide +kernel
theorem d_L_law_251 : decode code 251 = .ok (.iadd, 1) := by decide +kernel
theorem d_L_law_252 : decode code 252 = .ok (.iaload, 1) := by decide +kernel
theorem d_L_law_253 : decode code 253 = .ok (.aload_n 0, 1) := by decide +kernel
theorem d_L_law_254 : decode code 254 = .ok (.iload_n 3, 1) := by decide +kernel
theorem d_L_law_255 : decode code 255 = .ok (.iconst 2, 1) := by decide +kernel
theorem d_L_law_256 : decode code 256 = .ok (.iadd, 1) := by decide +kernel
theorem d_L_law_257 : decode code 257 = .ok (.iaload, 1) := by decide +kernel
theorem d_L_law_258 : decode code 258 = .ok (.aload_n 0, 1) := by decide +kernel
theorem d_L_law_259 : decode code 259 = .ok (.iload_n 3, 1) := by decide +kernel
theorem d_L_law_260 : decode code 260 = .ok (.iconst 3, 1) := by decide +kernel
theorem d_L_law_261 : decode code 261 = .ok (.iadd, 1) := by decide +kernel
theorem d_L_law_262 : decode code 262 = .ok (.iaload, 1) := by decide +kernel
theorem d_L_law_263 : decode code 263 = .ok (.aload_n 0, 1) := by decide +kernel
theorem d_L_law_264 : decode code 264 = .ok (.iload_n 3, 1) := by decide +kernel
theorem d_L_law_265 : decode code 265 = .ok (.iconst 4, 1) := by decide +kernel
theorem d_L_law_266 : decode code 266 = .ok (.iadd, 1) := by decide +kernel
theorem d_L_law_267 : decode code 267 = .ok (.iaload, 1) := by decide +kernel
theorem d_L_law_268 : decode code 268 = .ok (.aload_n 0, 1) := by decide +kernel
theorem d_L_law_269 : decode code 269 = .ok (.iload_n 3, 1) := by decide +kernel
theorem d_L_law_270 : decode code 270 = .ok (.iconst 5, 1) := by decide +kernel
theorem d_L_law_271 : decode code 271 = .ok (.iadd, 1) := by decide +kernel
theorem d_L_law_272 : decode code 272 = .ok (.iaload, 1) := by decide +kernel
theorem d_L_law_273 : decode code 273 = .ok (.invokevirtual 26, 3) := by decide +kernel
theorem d_L_law_276 : decode code 276 = .ok (.if_icmp .eq 408, 3) := by decide +kernel
theorem d_L_law_279 : decode code 279 = .ok (.iconst 0, 1) := by decide +kernel
theorem d_L_law_280 : decode code 280 = .ok (.ireturn, 1) := by decide +kernel
theorem d_L_law_281 : decode code 281 = .ok (.aload_n 1, 1) := by decide +kernel
theorem d_L_law_282 : decode code 282 = .ok (.aload_n 0, 1) := by decide +kernel
theorem d_L_law_283 : decode code 283 = .ok (.iload_n 3, 1) := by decide +kernel
theorem d_L_law_284 : decode code 284 = .ok (.iconst 1, 1) := by decide +kernel
theorem d_L_law_285 : decode code 285 = .ok (.iadd, 1) := by decide +kernel
theorem d_L_law_286 : decode code 286 = .ok (.iaload, 1) := by decide +kernel
theorem d_L_law_287 : decode code 287 = .ok (.aload_n 0, 1) := by decide +kernel
theorem d_L_law_288 : decode code 288 = .ok (.iload_n 3, 1) := by decide +kernel
theorem d_L_law_289 : decode code 289 = .ok (.iconst 2, 1) := by decide +kernel
theorem d_L_law_290 : decode code 290 = .ok (.iadd, 1) := by decide +kernel
theorem d_L_law_291 : decode code 291 = .ok (.iaload, 1) := by decide +kernel
theorem d_L_law_292 : decode code 292 = .ok (.aload_n 0, 1) := by decide +kernel
theorem d_L_law_293 : decode code 293 = .ok (.iload_n 3, 1) := by decide +kernel
theorem d_L_law_294 : decode code 294 = .ok (.iconst 3, 1) := by decide +kernel
theorem d_L_law_295 : decode code 295 = .ok (.iadd, 1) := by decide +kernel
theorem d_L_law_296 : decode code 296 = .ok (.iaload, 1) := by decide +kernel
theorem d_L_law_297 : decode code 297 = .ok (.aload_n 0, 1) := by decide +kernel
theorem d_L_law_298 : decode code 298 = .ok (.iload_n 3, 1) := by decide +kernel
theorem d_L_law_299 : decode code 299 = .ok (.iconst 4, 1) := by decide +kernel
theorem d_L_law_300 : decode code 300 = .ok (.iadd, 1) := by decide +kernel
theorem d_L_law_301 : decode code 301 = .ok (.iaload, 1) := by decide +kernel
theorem d_L_law_302 : decode code 302 = .ok (.invokevirtual 27, 3) := by decide +kernel
theorem d_L_law_305 : decode code 305 = .ok (.aload_n 2, 1) := by decide +kernel
theorem d_L_law_306 : decode code 306 = .ok (.aload_n 0, 1) := by decide +kernel
theorem d_L_law_307 : decode code 307 = .ok (.iload_n 3, 1) := by decide +kernel
theorem d_L_law_308 : decode code 308 = .ok (.iconst 1, 1) := by decide +kernel
theorem d_L_law_309 : decode code 309 = .ok (.iadd, 1) := by decide +kernel
theorem d_L_law_310 : decode code 310 = .ok (.iaload, 1) := by decide +kernel
theorem d_L_law_311 : decode code 311 = .ok (.aload_n 0, 1) := by decide +kernel
theorem d_L_law_312 : decode code 312 = .ok (.iload_n 3, 1) := by decide +kernel
theorem d_L_law_313 : decode code 313 = .ok (.iconst 2, 1) := by decide +kernel
theorem d_L_law_314 : decode code 314 = .ok (.iadd, 1) := by decide +kernel
theorem d_L_law_315 : decode code 315 = .ok (.iaload, 1) := by decide +kernel
theorem d_L_law_316 : decode code 316 = .ok (.aload_n 0, 1) := by decide +kernel
theorem d_L_law_317 : decode code 317 = .ok (.iload_n 3, 1) := by decide +kernel
theorem d_L_law_318 : decode code 318 = .ok (.iconst 3, 1) := by decide +kernel
theorem d_L_law_319 : decode code 319 = .ok (.iadd, 1) := by decide +kernel
theorem d_L_law_320 : decode code 320 = .ok (.iaload, 1) := by decide +kernel
theorem d_L_law_321 : decode code 321 = .ok (.aload_n 0, 1) := by decide +kernel
theorem d_L_law_322 : decode code 322 = .ok (.iload_n 3, 1) := by decide +kernel
theorem d_L_law_323 : decode code 323 = .ok (.iconst 4, 1) := by decide +kernel
theorem d_L_law_324 : decode code 324 = .ok (.iadd, 1) := by decide +kernel
theorem d_L_law_325 : decode code 325 = .ok (.iaload, 1) := by decide +kernel
theorem d_L_law_326 : decode code 326 = .ok (.invokevirtual 31, 3) := by decide +kernel
theorem d_L_law_329 : decode code 329 = .ok (.if_icmp .eq 355, 3) := by decide +kernel
theorem d_L_law_332 : decode code 332 = .ok (.iconst 0, 1) := by decide +kernel
theorem d_L_law_333 : decode code 333 = .ok (.ireturn, 1) := by decide +kernel
theorem d_L_law_334 : decode code 334 = .ok (.aload_n 1, 1) := by decide +kernel
theorem d_L_law_335 : decode code 335 = .ok (.aload_n 0, 1) := by decide +kernel
theorem d_L_law_336 : decode code 336 = .ok (.iload_n 3, 1) := by decide +kernel
theorem d_L_law_337 : decode code 337 = .ok (.iconst 1, 1) := by decide +kernel
theorem d_L_law_338 : decode code 338 = .ok (.iadd, 1) := by decide +kernel
theorem d_L_law_339 : decode code 339 = .ok (.iaload, 1) := by decide +kernel
theorem d_L_law_340 : decode code 340 = .ok (.aload_n 0, 1) := by decide +kernel
theorem d_L_law_341 : decode code 341 = .ok (.iload_n 3, 1) := by decide +kernel
theorem d_L_law_342 : decode code 342 = .ok (.iconst 2, 1) := by decide +kernel
theorem d_L_law_343 : decode code 343 = .ok (.iadd, 1) := by decide +kernel
theorem d_L_law_344 : decode code 344 = .ok (.iaload, 1) := by decide +kernel
theorem d_L_law_345 : decode code 345 = .ok (.invokevirtual 32, 3) := by decide +kernel
theorem d_L_law_348 : decode code 348 = .ok (.aload_n 2, 1) := by decide +kernel
theorem d_L_law_349 : decode code 349 = .ok (.aload_n 0, 1) := by decide +kernel
theorem d_L_law_350 : decode code 350 = .ok (.iload_n 3, 1) := by decide +kernel
theorem d_L_law_351 : decode code 351 = .ok (.iconst 1, 1) := by decide +kernel
theorem d_L_law_352 : decode code 352 = .ok (.iadd, 1) := by decide +kernel
theorem d_L_law_353 : decode code 353 = .ok (.iaload, 1) := by decide +kernel
theorem d_L_law_354 : decode code 354 = .ok (.aload_n 0, 1) := by decide +kernel
theorem d_L_law_355 : decode code 355 = .ok (.iload_n 3, 1) := by decide +kernel
theorem d_L_law_356 : decode code 356 = .ok (.iconst 2, 1) := by decide +kernel
theorem d_L_law_357 : decode code 357 = .ok (.iadd, 1) := by decide +kernel
theorem d_L_law_358 : decode code 358 = .ok (.iaload, 1) := by decide +kernel
theorem d_L_law_359 : decode code 359 = .ok (.invokevirtual 36, 3) := by decide +kernel
theorem d_L_law_362 : decode code 362 = .ok (.if_icmp .eq 322, 3) := by decide +kernel
theorem d_L_law_365 : decode code 365 = .ok (.iconst 0, 1) := by decide +kernel
theorem d_L_law_366 : decode code 366 = .ok (.ireturn, 1) := by decide +kernel
theorem d_L_law_367 : decode code 367 = .ok (.aload_n 1, 1) := by decide +kernel
theorem d_L_law_368 : decode code 368 = .ok (.aload_n 0, 1) := by decide +kernel
theorem d_L_law_369 : decode code 369 = .ok (.iload_n 3, 1) := by decide +kernel
theorem d_L_law_370 : decode code 370 = .ok (.iconst 1, 1) := by decide +kernel
theorem d_L_law_371 : decode code 371 = .ok (.iadd, 1) := by decide +kernel
theorem d_L_law_372 : decode code 372 = .ok (.iaload, 1) := by decide +kernel
theorem d_L_law_373 : decode code 373 = .ok (.aload_n 0, 1) := by decide +kernel
theorem d_L_law_374 : decode code 374 = .ok (.iload_n 3, 1) := by decide +kernel
theorem d_L_law_375 : decode code 375 = .ok (.iconst 2, 1) := by decide +kernel
theorem d_L_law_376 : decode code 376 = .ok (.iadd, 1) := by decide +kernel
theorem d_L_law_377 : decode code 377 = .ok (.iaload, 1) := by decide +kernel
theorem d_L_law_378 : decode code 378 = .ok (.aload_n 0, 1) := by decide +kernel
theorem d_L_law_379 : decode code 379 = .ok (.iload_n 3, 1) := by decide +kernel
theorem d_L_law_380 : decode code 380 = .ok (.iconst 3, 1) := by decide +kernel
theorem d_L_law_381 : decode code 381 = .ok (.iadd, 1) := by decide +kernel
theorem d_L_law_382 : decode code 382 = .ok (.iaload, 1) := by decide +kernel
theorem d_L_law_383 : decode code 383 = .ok (.invokevirtual 37, 3) := by decide +kernel
theorem d_L_law_386 : decode code 386 = .ok (.aload_n 2, 1) := by decide +kernel
theorem d_L_law_387 : decode code 387 = .ok (.aload_n 0, 1) := by decide +kernel
theorem d_L_law_388 : decode code 388 = .ok (.iload_n 3, 1) := by decide +kernel
theorem d_L_law_389 : decode code 389 = .ok (.iconst 1, 1) := by decide +kernel
theorem d_L_law_390 : decode code 390 = .ok (.iadd, 1) := by decide +kernel
theorem d_L_law_391 : decode code 391 = .ok (.iaload, 1) := by decide +kernel
theorem d_L_law_392 : decode code 392 = .ok (.aload_n 0, 1) := by decide +kernel
theorem d_L_law_393 : decode code 393 = .ok (.iload_n 3, 1) := by decide +kernel
theorem d_L_law_394 : decode code 394 = .ok (.iconst 2, 1) := by decide +kernel
theorem d_L_law_395 : decode code 395 = .ok (.iadd, 1) := by decide +kernel
theorem d_L_law_396 : decode code 396 = .ok (.iaload, 1) := by decide +kernel
theorem d_L_law_397 : decode code 397 = .ok (.aload_n 0, 1) := by decide +kernel
theorem d_L_law_398 : decode code 398 = .ok (.iload_n 3, 1) := by decide +kernel
theorem d_L_law_399 : decode code 399 = .ok (.iconst 3, 1) := by decide +kernel
theorem d_L_law_400 : decode code 400 = .ok (.iadd, 1) := by decide +kernel
theorem d_L_law_401 : decode code 401 = .ok (.iaload, 1) := by decide +kernel
theorem d_L_law_402 : decode code 402 = .ok (.invokevirtual 40, 3) := by decide +kernel
theorem d_L_law_405 : decode code 405 = .ok (.if_icmp .eq 279, 3) := by decide +kernel
theorem d_L_law_408 : decode code 408 = .ok (.iconst 0, 1) := by decide +kernel
theorem d_L_law_409 : decode code 409 = .ok (.ireturn, 1) := by decide +kernel
theorem d_L_law_410 : decode code 410 = .ok (.aload_n 1, 1) := by decide +kernel
theorem d_L_law_411 : decode code 411 = .ok (.invokevirtual 41, 3) := by decide +kernel
theorem d_L_law_414 : decode code 414 = .ok (.aload_n 2, 1) := by decide +kernel
theorem d_L_law_415 : decode code 415 = .ok (.invokevirtual 45, 3) := by decide +kernel
theorem d_L_law_418 : decode code 418 = .ok (.if_icmp .eq 266, 3) := by decide +kernel
theorem d_L_law_421 : decode code 421 = .ok (.iconst 0, 1) := by decide +kernel
theorem d_L_law_422 : decode code 422 = .ok (.ireturn, 1) := by decide +kernel
theorem d_L_law_423 : decode code 423 = .ok (.aload_n 1, 1) := by decide +kernel
theorem d_L_law_424 : decode code 424 = .ok (.invokevirtual 46, 3) := by decide +kernel
theorem d_L_law_427 : decode code 427 = .ok (.aload_n 2, 1) := by decide +kernel
theorem d_L_law_428 : decode code 428 = .ok (.invokevirtual 49, 3) := by decide +kernel
theorem d_L_law_431 : decode code 431 = .ok (.goto 253, 3) := by decide +kernel
theorem d_L_law_434 : decode code 434 = .ok (.aload_n 1, 1) := by decide +kernel
theorem d_L_law_435 : decode code 435 = .ok (.aload_n 0, 1) := by decide +kernel
theorem d_L_law_436 : decode code 436 = .ok (.iload_n 3, 1) := by decide +kernel
theorem d_L_law_437 : decode code 437 = .ok (.iconst 1, 1) := by decide +kernel
theorem d_L_law_438 : decode code 438 = .ok (.iadd, 1) := by decide +kernel
theorem d_L_law_439 : decode code 439 = .ok (.iaload, 1) := by decide +kernel
theorem d_L_law_440 : decode code 440 = .ok (.aload_n 0, 1) := by decide +kernel
theorem d_L_law_441 : decode code 441 = .ok (.iload_n 3, 1) := by decide +kernel
theorem d_L_law_442 : decode code 442 = .ok (.iconst 2, 1) := by decide +kernel
theorem d_L_law_443 : decode code 443 = .ok (.iadd, 1) := by decide +kernel
theorem d_L_law_444 : decode code 444 = .ok (.iaload, 1) := by decide +kernel
theorem d_L_law_445 : decode code 445 = .ok (.aload_n 0, 1) := by decide +kernel
theorem d_L_law_446 : decode code 446 = .ok (.iload_n 3, 1) := by decide +kernel
theorem d_L_law_447 : decode code 447 = .ok (.iconst 3, 1) := by decide +kernel
theorem d_L_law_448 : decode code 448 = .ok (.iadd, 1) := by decide +kernel
theorem d_L_law_449 : decode code 449 = .ok (.iaload, 1) := by decide +kernel
theorem d_L_law_450 : decode code 450 = .ok (.ifCond .eq 7, 3) := by decide +kernel
theorem d_L_law_453 : decode code 453 = .ok (.iconst 1, 1) := by decide +kernel
theorem d_L_law_454 : decode code 454 = .ok (.goto 4, 3) := by decide +kernel
theorem d_L_law_457 : decode code 457 = .ok (.iconst 0, 1) := by decide +kernel
theorem d_L_law_458 : decode code 458 = .ok (.invokevirtual 50, 3) := by decide +kernel
theorem d_L_law_461 : decode code 461 = .ok (.aload_n 2, 1) := by decide +kernel
theorem d_L_law_462 : decode code 462 = .ok (.aload_n 0, 1) := by decide +kernel
theorem d_L_law_463 : decode code 463 = .ok (.iload_n 3, 1) := by decide +kernel
theorem d_L_law_464 : decode code 464 = .ok (.iconst 1, 1) := by decide +kernel
theorem d_L_law_465 : decode code 465 = .ok (.iadd, 1) := by decide +kernel
theorem d_L_law_466 : decode code 466 = .ok (.iaload, 1) := by decide +kernel
theorem d_L_law_467 : decode code 467 = .ok (.aload_n 0, 1) := by decide +kernel
theorem d_L_law_468 : decode code 468 = .ok (.iload_n 3, 1) := by decide +kernel
theorem d_L_law_469 : decode code 469 = .ok (.iconst 2, 1) := by decide +kernel
theorem d_L_law_470 : decode code 470 = .ok (.iadd, 1) := by decide +kernel
theorem d_L_law_471 : decode code 471 = .ok (.iaload, 1) := by decide +kernel
theorem d_L_law_472 : decode code 472 = .ok (.aload_n 0, 1) := by decide +kernel
theorem d_L_law_473 : decode code 473 = .ok (.iload_n 3, 1) := by decide +kernel
theorem d_L_law_474 : decode code 474 = .ok (.iconst 3, 1) := by decide +kernel
theorem d_L_law_475 : decode code 475 = .ok (.iadd, 1) := by decide +kernel
theorem d_L_law_476 : decode code 476 = .ok (.iaload, 1) := by decide +kernel
theorem d_L_law_477 : decode code 477 = .ok (.ifCond .eq 7, 3) := by decide +kernel
theorem d_L_law_480 : decode code 480 = .ok (.iconst 1, 1) := by decide +kernel
theorem d_L_law_481 : decode code 481 = .ok (.goto 4, 3) := by decide +kernel
theorem d_L_law_484 : decode code 484 = .ok (.iconst 0, 1) := by decide +kernel
theorem d_L_law_485 : decode code 485 = .ok (.invokevirtual 54, 3) := by decide +kernel
theorem d_L_law_488 : decode code 488 = .ok (.if_icmp .eq 196, 3) := by decide +kernel
theorem d_L_law_491 : decode code 491 = .ok (.iconst 0, 1) := by decide +kernel
theorem d_L_law_492 : decode code 492 = .ok (.ireturn, 1) := by decide +kernel
theorem d_L_law_493 : decode code 493 = .ok (.aload_n 1, 1) := by decide +kernel
theorem d_L_law_494 : decode code 494 = .ok (.aload_n 0, 1) := by decide +kernel
theorem d_L_law_495 : decode code 495 = .ok (.iload_n 3, 1) := by decide +kernel
theorem d_L_law_496 : decode code 496 = .ok (.iconst 1, 1) := by decide +kernel
theorem d_L_law_497 : decode code 497 = .ok (.iadd, 1) := by decide +kernel
theorem d_L_law_498 : decode code 498 = .ok (.iaload, 1) := by decide +kernel
theorem d_L_law_499 : decode code 499 = .ok (.aload_n 0, 1) := by decide +kernel
theorem d_L_law_500 : decode code 500 = .ok (.iload_n 3, 1) := by decide +kernel
theorem d_L_law_501 : decode code 501 = .ok (.iconst 2, 1) := by decide +kernel
theorem d_L_law_502 : decode code 502 = .ok (.iadd, 1) := by decide +kernel
theorem d_L_law_503 : decode code 503 = .ok (.iaload, 1) := by decide +kernel
theorem d_L_law_504 : decode code 504 = .ok (.invokevirtual 55, 3) := by decide +kernel
theorem d_L_law_507 : decode code 507 = .ok (.aload_n 2, 1) := by decide +kernel
theorem d_L_law_508 : decode code 508 = .ok (.aload_n 0, 1) := by decide +kernel
theorem d_L_law_509 : decode code 509 = .ok (.iload_n 3, 1) := by decide +kernel
theorem d_L_law_510 : decode code 510 = .ok (.iconst 1, 1) := by decide +kernel
theorem d_L_law_511 : decode code 511 = .ok (.iadd, 1) := by decide +kernel
theorem d_L_law_512 : decode code 512 = .ok (.iaload, 1) := by decide +kernel
theorem d_L_law_513 : decode code 513 = .ok (.aload_n 0, 1) := by decide +kernel
theorem d_L_law_514 : decode code 514 = .ok (.iload_n 3, 1) := by decide +kernel
theorem d_L_law_515 : decode code 515 = .ok (.iconst 2, 1) := by decide +kernel
theorem d_L_law_516 : decode code 516 = .ok (.iadd, 1) := by decide +kernel
theorem d_L_law_517 : decode code 517 = .ok (.iaload, 1) := by decide +kernel
theorem d_L_law_518 : decode code 518 = .ok (.invokevirtual 58, 3) := by decide +kernel
theorem d_L_law_521 : decode code 521 = .ok (.if_icmp .eq 163, 3) := by decide +kernel
theorem d_L_law_524 : decode code 524 = .ok (.iconst 0, 1) := by decide +kernel
theorem d_L_law_525 : decode code 525 = .ok (.ireturn, 1) := by decide +kernel
theorem d_L_law_526 : decode code 526 = .ok (.aload_n 1, 1) := by decide +kernel
theorem d_L_law_527 : decode code 527 = .ok (.aload_n 0, 1) := by decide +kernel
theorem d_L_law_528 : decode code 528 = .ok (.iload_n 3, 1) := by decide +kernel
theorem d_L_law_529 : decode code 529 = .ok (.iconst 1, 1) := by decide +kernel
theorem d_L_law_530 : decode code 530 = .ok (.iadd, 1) := by decide +kernel
theorem d_L_law_531 : decode code 531 = .ok (.iaload, 1) := by decide +kernel
theorem d_L_law_532 : decode code 532 = .ok (.aload_n 0, 1) := by decide +kernel
theorem d_L_law_533 : decode code 533 = .ok (.iload_n 3, 1) := by decide +kernel
theorem d_L_law_534 : decode code 534 = .ok (.iconst 2, 1) := by decide +kernel
theorem d_L_law_535 : decode code 535 = .ok (.iadd, 1) := by decide +kernel
theorem d_L_law_536 : decode code 536 = .ok (.iaload, 1) := by decide +kernel
theorem d_L_law_537 : decode code 537 = .ok (.aload_n 0, 1) := by decide +kernel
theorem d_L_law_538 : decode code 538 = .ok (.iload_n 3, 1) := by decide +kernel
theorem d_L_law_539 : decode code 539 = .ok (.iconst 3, 1) := by decide +kernel
theorem d_L_law_540 : decode code 540 = .ok (.iadd, 1) := by decide +kernel
theorem d_L_law_541 : decode code 541 = .ok (.iaload, 1) := by decide +kernel
theorem d_L_law_542 : decode code 542 = .ok (.aload_n 0, 1) := by decide +kernel
theorem d_L_law_543 : decode code 543 = .ok (.iload_n 3, 1) := by decide +kernel
theorem d_L_law_544 : decode code 544 = .ok (.iconst 4, 1) := by decide +kernel
theorem d_L_law_545 : decode code 545 = .ok (.iadd, 1) := by decide +kernel
theorem d_L_law_546 : decode code 546 = .ok (.iaload, 1) := by decide +kernel
theorem d_L_law_547 : decode code 547 = .ok (.invokevirtual 59, 3) := by decide +kernel
theorem d_L_law_550 : decode code 550 = .ok (.aload_n 2, 1) := by decide +kernel
theorem d_L_law_551 : decode code 551 = .ok (.aload_n 0, 1) := by decide +kernel
theorem d_L_law_552 : decode code 552 = .ok (.iload_n 3, 1) := by decide +kernel
theorem d_L_law_553 : decode code 553 = .ok (.iconst 1, 1) := by decide +kernel
theorem d_L_law_554 : decode code 554 = .ok (.iadd, 1) := by decide +kernel
theorem d_L_law_555 : decode code 555 = .ok (.iaload, 1) := by decide +kernel
theorem d_L_law_556 : decode code 556 = .ok (.aload_n 0, 1) := by decide +kernel
theorem d_L_law_557 : decode code 557 = .ok (.iload_n 3, 1) := by decide +kernel
theorem d_L_law_558 : decode code 558 = .ok (.iconst 2, 1) := by decide +kernel
theorem d_L_law_559 : decode code 559 = .ok (.iadd, 1) := by decide +kernel
theorem d_L_law_560 : decode code 560 = .ok (.iaload, 1) := by decide +kernel
theorem d_L_law_561 : decode code 561 = .ok (.aload_n 0, 1) := by decide +kernel
theorem d_L_law_562 : decode code 562 = .ok (.iload_n 3, 1) := by decide +kernel
theorem d_L_law_563 : decode code 563 = .ok (.iconst 3, 1) := by decide +kernel
theorem d_L_law_564 : decode code 564 = .ok (.iadd, 1) := by decide +kernel
theorem d_L_law_565 : decode code 565 = .ok (.iaload, 1) := by decide +kernel
theorem d_L_law_566 : decode code 566 = .ok (.aload_n 0, 1) := by decide +kernel
theorem d_L_law_567 : decode code 567 = .ok (.iload_n 3, 1) := by decide +kernel
theorem d_L_law_568 : decode code 568 = .ok (.iconst 4, 1) := by decide +kernel
theorem d_L_law_569 : decode code 569 = .ok (.iadd, 1) := by decide +kernel
theorem d_L_law_570 : decode code 570 = .ok (.iaload, 1) := by decide +kernel
theorem d_L_law_571 : decode code 571 = .ok (.invokevirtual 62, 3) := by decide +kernel
theorem d_L_law_574 : decode code 574 = .ok (.if_icmp .eq 110, 3) := by decide +kernel
theorem d_L_law_577 : decode code 577 = .ok (.iconst 0, 1) := by decide +kernel
theorem d_L_law_578 : decode code 578 = .ok (.ireturn, 1) := by decide +kernel
theorem d_L_law_579 : decode code 579 = .ok (.aload_n 1, 1) := by decide +kernel
theorem d_L_law_580 : decode code 580 = .ok (.invokevirtual 63, 3) := by decide +kernel
theorem d_L_law_583 : decode code 583 = .ok (.aload_n 2, 1) := by decide +kernel
theorem d_L_law_584 : decode code 584 = .ok (.invokevirtual 66, 3) := by decide +kernel
theorem d_L_law_587 : decode code 587 = .ok (.if_icmp .eq 97, 3) := by decide +kernel
theorem d_L_law_590 : decode code 590 = .ok (.iconst 0, 1) := by decide +kernel
theorem d_L_law_591 : decode code 591 = .ok (.ireturn, 1) := by decide +kernel
theorem d_L_law_592 : decode code 592 = .ok (.aload_n 1, 1) := by decide +kernel
theorem d_L_law_593 : decode code 593 = .ok (.aload_n 0, 1) := by decide +kernel
theorem d_L_law_594 : decode code 594 = .ok (.iload_n 3, 1) := by decide +kernel
theorem d_L_law_595 : decode code 595 = .ok (.iconst 1, 1) := by decide +kernel
theorem d_L_law_596 : decode code 596 = .ok (.iadd, 1) := by decide +kernel
theorem d_L_law_597 : decode code 597 = .ok (.iaload, 1) := by decide +kernel
theorem d_L_law_598 : decode code 598 = .ok (.aload_n 0, 1) := by decide +kernel
theorem d_L_law_599 : decode code 599 = .ok (.iload_n 3, 1) := by decide +kernel
theorem d_L_law_600 : decode code 600 = .ok (.iconst 2, 1) := by decide +kernel
theorem d_L_law_601 : decode code 601 = .ok (.iadd, 1) := by decide +kernel
theorem d_L_law_602 : decode code 602 = .ok (.iaload, 1) := by decide +kernel
theorem d_L_law_603 : decode code 603 = .ok (.invokevirtual 67, 3) := by decide +kernel
theorem d_L_law_606 : decode code 606 = .ok (.aload_n 2, 1) := by decide +kernel
theorem d_L_law_607 : decode code 607 = .ok (.aload_n 0, 1) := by decide +kernel
theorem d_L_law_608 : decode code 608 = .ok (.iload_n 3, 1) := by decide +kernel
theorem d_L_law_609 : decode code 609 = .ok (.iconst 1, 1) := by decide +kernel
theorem d_L_law_610 : decode code 610 = .ok (.iadd, 1) := by decide +kernel
theorem d_L_law_611 : decode code 611 = .ok (.iaload, 1) := by decide +kernel
theorem d_L_law_612 : decode code 612 = .ok (.aload_n 0, 1) := by decide +kernel
theorem d_L_law_613 : decode code 613 = .ok (.iload_n 3, 1) := by decide +kernel
theorem d_L_law_614 : decode code 614 = .ok (.iconst 2, 1) := by decide +kernel
theorem d_L_law_615 : decode code 615 = .ok (.iadd, 1) := by decide +kernel
theorem d_L_law_616 : decode code 616 = .ok (.iaload, 1) := by decide +kernel
theorem d_L_law_617 : decode code 617 = .ok (.invokevirtual 70, 3) := by decide +kernel
theorem d_L_law_620 : decode code 620 = .ok (.if_icmp .eq 64, 3) := by decide +kernel
theorem d_L_law_623 : decode code 623 = .ok (.iconst 0, 1) := by decide +kernel
theorem d_L_law_624 : decode code 624 = .ok (.ireturn, 1) := by decide +kernel
theorem d_L_law_625 : decode code 625 = .ok (.aload_n 1, 1) := by decide +kernel
theorem d_L_law_626 : decode code 626 = .ok (.invokevirtual 71, 3) := by decide +kernel
theorem d_L_law_629 : decode code 629 = .ok (.aload_n 2, 1) := by decide +kernel
theorem d_L_law_630 : decode code 630 = .ok (.invokevirtual 74, 3) := by decide +kernel
theorem d_L_law_633 : decode code 633 = .ok (.if_icmp .eq 51, 3) := by decide +kernel
theorem d_L_law_636 : decode code 636 = .ok (.iconst 0, 1) := by decide +kernel
theorem d_L_law_637 : decode code 637 = .ok (.ireturn, 1) := by decide +kernel
theorem d_L_law_638 : decode code 638 = .ok (.aload_n 1, 1) := by decide +kernel
theorem d_L_law_639 : decode code 639 = .ok (.aload_n 0, 1) := by decide +kernel
theorem d_L_law_640 : decode code 640 = .ok (.iload_n 3, 1) := by decide +kernel
theorem d_L_law_641 : decode code 641 = .ok (.iconst 1, 1) := by decide +kernel
theorem d_L_law_642 : decode code 642 = .ok (.iadd, 1) := by decide +kernel
theorem d_L_law_643 : decode code 643 = .ok (.iaload, 1) := by decide +kernel
theorem d_L_law_644 : decode code 644 = .ok (.invokevirtual 75, 3) := by decide +kernel
theorem d_L_law_647 : decode code 647 = .ok (.aload_n 2, 1) := by decide +kernel
theorem d_L_law_648 : decode code 648 = .ok (.aload_n 0, 1) := by decide +kernel
theorem d_L_law_649 : decode code 649 = .ok (.iload_n 3, 1) := by decide +kernel
theorem d_L_law_650 : decode code 650 = .ok (.iconst 1, 1) := by decide +kernel
theorem d_L_law_651 : decode code 651 = .ok (.iadd, 1) := by decide +kernel
theorem d_L_law_652 : decode code 652 = .ok (.iaload, 1) := by decide +kernel
theorem d_L_law_653 : decode code 653 = .ok (.invokevirtual 79, 3) := by decide +kernel
theorem d_L_law_656 : decode code 656 = .ok (.if_icmp .eq 28, 3) := by decide +kernel
theorem d_L_law_659 : decode code 659 = .ok (.iconst 0, 1) := by decide +kernel
theorem d_L_law_660 : decode code 660 = .ok (.ireturn, 1) := by decide +kernel
theorem d_L_law_661 : decode code 661 = .ok (.aload_n 1, 1) := by decide +kernel
theorem d_L_law_662 : decode code 662 = .ok (.aload_n 0, 1) := by decide +kernel
theorem d_L_law_663 : decode code 663 = .ok (.iload_n 3, 1) := by decide +kernel
theorem d_L_law_664 : decode code 664 = .ok (.iconst 1, 1) := by decide +kernel
theorem d_L_law_665 : decode code 665 = .ok (.iadd, 1) := by decide +kernel
theorem d_L_law_666 : decode code 666 = .ok (.iaload, 1) := by decide +kernel
theorem d_L_law_667 : decode code 667 = .ok (.invokevirtual 80, 3) := by decide +kernel
theorem d_L_law_670 : decode code 670 = .ok (.aload_n 2, 1) := by decide +kernel
theorem d_L_law_671 : decode code 671 = .ok (.aload_n 0, 1) := by decide +kernel
theorem d_L_law_672 : decode code 672 = .ok (.iload_n 3, 1) := by decide +kernel
theorem d_L_law_673 : decode code 673 = .ok (.iconst 1, 1) := by decide +kernel
theorem d_L_law_674 : decode code 674 = .ok (.iadd, 1) := by decide +kernel
theorem d_L_law_675 : decode code 675 = .ok (.iaload, 1) := by decide +kernel
theorem d_L_law_676 : decode code 676 = .ok (.invokevirtual 83, 3) := by decide +kernel
theorem d_L_law_679 : decode code 679 = .ok (.if_icmp .eq 5, 3) := by decide +kernel
theorem d_L_law_682 : decode code 682 = .ok (.iconst 0, 1) := by decide +kernel
theorem d_L_law_683 : decode code 683 = .ok (.ireturn, 1) := by decide +kernel
theorem d_L_law_684 : decode code 684 = .ok (.iinc 3 6, 3) := by decide +kernel
theorem d_L_law_687 : decode code 687 = .ok (.goto (-669), 3) := by decide +kernel
theorem d_L_law_690 : decode code 690 = .ok (.iconst 1, 1) := by decide +kernel
theorem d_L_law_691 : decode code 691 = .ok (.ireturn, 1) := by decide +kernel
theorem d_I_bitCount_0 : decode b_I_bitCount 0 = .ok (.iload_n 0, 1) := by decide +kernel
theorem d_I_bitCount_1 : decode b_I_bitCount 1 = .ok (.iload_n 0, 1) := by decide +kernel
theorem d_I_bitCount_2 : decode b_I_bitCount 2 = .ok (.iconst 1, 1) := by decide +kernel
theorem d_I_bitCount_3 : decode b_I_bitCount 3 = .ok (.iushr, 1) := by decide +kernel
theorem d_I_bitCount_4 : decode b_I_bitCount 4 = .ok (.ldc_w 265, 3) := by decide +kernel
theorem d_I_bitCount_7 : decode b_I_bitCount 7 = .ok (.iand, 1) := by decide +kernel
theorem d_I_bitCount_8 : decode b_I_bitCount 8 = .ok (.isub, 1) := by decide +kernel
theorem d_I_bitCount_9 : decode b_I_bitCount 9 = .ok (.istore_n 0, 1) := by decide +kernel
theorem d_I_bitCount_10 : decode b_I_bitCount 10 = .ok (.iload_n 0, 1) := by decide +kernel
theorem d_I_bitCount_11 : decode b_I_bitCount 11 = .ok (.ldc_w 266, 3) := by decide +kernel
theorem d_I_bitCount_14 : decode b_I_bitCount 14 = .ok (.iand, 1) := by decide +kernel
theorem d_I_bitCount_15 : decode b_I_bitCount 15 = .ok (.iload_n 0, 1) := by decide +kernel
theorem d_I_bitCount_16 : decode b_I_bitCount 16 = .ok (.iconst 2, 1) := by decide +kernel
theorem d_I_bitCount_17 : decode b_I_bitCount 17 = .ok (.iushr, 1) := by decide +kernel
theorem d_I_bitCount_18 : decode b_I_bitCount 18 = .ok (.ldc_w 266, 3) := by decide +kernel
theorem d_I_bitCount_21 : decode b_I_bitCount 21 = .ok (.iand, 1) := by decide +kernel
theorem d_I_bitCount_22 : decode b_I_bitCount 22 = .ok (.iadd, 1) := by decide +kernel
theorem d_I_bitCount_23 : decode b_I_bitCount 23 = .ok (.istore_n 0, 1) := by decide +kernel
theorem d_I_bitCount_24 : decode b_I_bitCount 24 = .ok (.iload_n 0, 1) := by decide +kernel
theorem d_I_bitCount_25 : decode b_I_bitCount 25 = .ok (.iload_n 0, 1) := by decide +kernel
theorem d_I_bitCount_26 : decode b_I_bitCount 26 = .ok (.iconst 4, 1) := by decide +kernel
theorem d_I_bitCount_27 : decode b_I_bitCount 27 = .ok (.iushr, 1) := by decide +kernel
theorem d_I_bitCount_28 : decode b_I_bitCount 28 = .ok (.iadd, 1) := by decide +kernel
theorem d_I_bitCount_29 : decode b_I_bitCount 29 = .ok (.ldc_w 267, 3) := by decide +kernel
theorem d_I_bitCount_32 : decode b_I_bitCount 32 = .ok (.iand, 1) := by decide +kernel
theorem d_I_bitCount_33 : decode b_I_bitCount 33 = .ok (.istore_n 0, 1) := by decide +kernel
theorem d_I_bitCount_34 : decode b_I_bitCount 34 = .ok (.iload_n 0, 1) := by decide +kernel
theorem d_I_bitCount_35 : decode b_I_bitCount 35 = .ok (.iload_n 0, 1) := by decide +kernel
theorem d_I_bitCount_36 : decode b_I_bitCount 36 = .ok (.bipush 8, 2) := by decide +kernel
theorem d_I_bitCount_38 : decode b_I_bitCount 38 = .ok (.iushr, 1) := by decide +kernel
theorem d_I_bitCount_39 : decode b_I_bitCount 39 = .ok (.iadd, 1) := by decide +kernel
theorem d_I_bitCount_40 : decode b_I_bitCount 40 = .ok (.istore_n 0, 1) := by decide +kernel
theorem d_I_bitCount_41 : decode b_I_bitCount 41 = .ok (.iload_n 0, 1) := by decide +kernel
theorem d_I_bitCount_42 : decode b_I_bitCount 42 = .ok (.iload_n 0, 1) := by decide +kernel
theorem d_I_bitCount_43 : decode b_I_bitCount 43 = .ok (.bipush 16, 2) := by decide +kernel
theorem d_I_bitCount_45 : decode b_I_bitCount 45 = .ok (.iushr, 1) := by decide +kernel
theorem d_I_bitCount_46 : decode b_I_bitCount 46 = .ok (.iadd, 1) := by decide +kernel
theorem d_I_bitCount_47 : decode b_I_bitCount 47 = .ok (.istore_n 0, 1) := by decide +kernel
theorem d_I_bitCount_48 : decode b_I_bitCount 48 = .ok (.iload_n 0, 1) := by decide +kernel
theorem d_I_bitCount_49 : decode b_I_bitCount 49 = .ok (.bipush 63, 2) := by decide +kernel
theorem d_I_bitCount_51 : decode b_I_bitCount 51 = .ok (.iand, 1) := by decide +kernel
theorem d_I_bitCount_52 : decode b_I_bitCount 52 = .ok (.ireturn, 1) := by decide +kernel
