theorem d_J_init_0 : decode b_J_init 0 = .ok (.aload_n 0, 1) := by decide +kernel
theorem d_J_init_1 : decode b_J_init 1 = .ok (.invokespecial 3, 3) := by decide +kernel
theorem d_J_init_4 : decode b_J_init 4 = .ok (.aload_n 0, 1) := by decide +kernel
theorem d_J_init_5 : decode b_J_init 5 = .ok (.iconst 2, 1) := by decide +kernel
theorem d_J_init_6 : decode b_J_init 6 = .ok (.anewarray 9, 3) := by decide +kernel
theorem d_J_init_9 : decode b_J_init 9 = .ok (.dup, 1) := by decide +kernel
theorem d_J_init_10 : decode b_J_init 10 = .ok (.iconst 0, 1) := by decide +kernel
theorem d_J_init_11 : decode b_J_init 11 = .ok (.new 9, 3) := by decide +kernel
theorem d_J_init_14 : decode b_J_init 14 = .ok (.dup, 1) := by decide +kernel
theorem d_J_init_15 : decode b_J_init 15 = .ok (.invokespecial 11, 3) := by decide +kernel
theorem d_J_init_18 : decode b_J_init 18 = .ok (.aastore, 1) := by decide +kernel
theorem d_J_init_19 : decode b_J_init 19 = .ok (.dup, 1) := by decide +kernel
theorem d_J_init_20 : decode b_J_init 20 = .ok (.iconst 1, 1) := by decide +kernel
theorem d_J_init_21 : decode b_J_init 21 = .ok (.new 9, 3) := by decide +kernel
theorem d_J_init_24 : decode b_J_init 24 = .ok (.dup, 1) := by decide +kernel
theorem d_J_init_25 : decode b_J_init 25 = .ok (.invokespecial 11, 3) := by decide +kernel
theorem d_J_init_28 : decode b_J_init 28 = .ok (.aastore, 1) := by decide +kernel
theorem d_J_init_29 : decode b_J_init 29 = .ok (.putfield 12, 3) := by decide +kernel
theorem d_J_init_32 : decode b_J_init 32 = .ok (.aload_n 0, 1) := by decide +kernel
theorem d_J_init_33 : decode b_J_init 33 = .ok (.new 16, 3) := by decide +kernel
theorem d_J_init_36 : decode b_J_init 36 = .ok (.dup, 1) := by decide +kernel
theorem d_J_init_37 : decode b_J_init 37 = .ok (.invokespecial 18, 3) := by decide +kernel
theorem d_J_init_40 : decode b_J_init 40 = .ok (.putfield 19, 3) := by decide +kernel
theorem d_J_init_43 : decode b_J_init 43 = .ok (.aload_n 0, 1) := by decide +kernel
theorem d_J_init_44 : decode b_J_init 44 = .ok (.bipush 14, 2) := by decide +kernel
theorem d_J_init_46 : decode b_J_init 46 = .ok (.newarray .int, 2) := by decide +kernel
theorem d_J_init_48 : decode b_J_init 48 = .ok (.putfield 23, 3) := by decide +kernel
theorem d_J_init_51 : decode b_J_init 51 = .ok (.return_, 1) := by decide +kernel
theorem d_J_type_0 : decode b_J_type 0 = .ok (.iload_n 1, 1) := by decide +kernel
theorem d_J_type_1 : decode b_J_type 1 = .ok (.iload_n 2, 1) := by decide +kernel
theorem d_J_type_2 : decode b_J_type 2 = .ok (.invokestatic 27, 3) := by decide +kernel
theorem d_J_type_5 : decode b_J_type 5 = .ok (.ifCond .eq 37, 3) := by decide +kernel
theorem d_J_type_8 : decode b_J_type 8 = .ok (.iload_n 3, 1) := by decide +kernel
theorem d_J_type_9 : decode b_J_type 9 = .ok (.iconst 2, 1) := by decide +kernel
theorem d_J_type_10 : decode b_J_type 10 = .ok (.invokestatic 31, 3) := by decide +kernel
theorem d_J_type_13 : decode b_J_type 13 = .ok (.ifCond .eq 29, 3) := by decide +kernel
theorem d_J_type_16 : decode b_J_type 16 = .ok (.iload 4, 2) := by decide +kernel
theorem d_J_type_18 : decode b_J_type 18 = .ok (.bipush 8, 2) := by decide +kernel
theorem d_J_type_20 : decode b_J_type 20 = .ok (.invokestatic 31, 3) := by decide +kernel
theorem d_J_type_23 : decode b_J_type 23 = .ok (.ifCond .eq 19, 3) := by decide +kernel
theorem d_J_type_26 : decode b_J_type 26 = .ok (.iload 5, 2) := by decide +kernel
theorem d_J_type_28 : decode b_J_type 28 = .ok (.iconst (-1), 1) := by decide +kernel
theorem d_J_type_29 : decode b_J_type 29 = .ok (.if_icmp .eq 15, 3) := by decide +kernel
theorem d_J_type_32 : decode b_J_type 32 = .ok (.iload 5, 2) := by decide +kernel
theorem d_J_type_34 : decode b_J_type 34 = .ok (.bipush 12, 2) := by decide +kernel
theorem d_J_type_36 : decode b_J_type 36 = .ok (.invokestatic 31, 3) := by decide +kernel
theorem d_J_type_39 : decode b_J_type 39 = .ok (.ifCond .ne 5, 3) := by decide +kernel
theorem d_J_type_42 : decode b_J_type 42 = .ok (.iconst (-1), 1) := by decide +kernel
theorem d_J_type_43 : decode b_J_type 43 = .ok (.ireturn, 1) := by decide +kernel
theorem d_J_type_44 : decode b_J_type 44 = .ok (.aload_n 0, 1) := by decide +kernel
theorem d_J_type_45 : decode b_J_type 45 = .ok (.getfield 12, 3) := by decide +kernel
theorem d_J_type_48 : decode b_J_type 48 = .ok (.iload_n 1, 1) := by decide +kernel
theorem d_J_type_49 : decode b_J_type 49 = .ok (.aaload, 1) := by decide +kernel
theorem d_J_type_50 : decode b_J_type 50 = .ok (.astore 6, 2) := by decide +kernel
theorem d_J_type_52 : decode b_J_type 52 = .ok (.aload 6, 2) := by decide +kernel
theorem d_J_type_54 : decode b_J_type 54 = .ok (.getfield 34, 3) := by decide +kernel
theorem d_J_type_57 : decode b_J_type 57 = .ok (.iload_n 2, 1) := by decide +kernel
theorem d_J_type_58 : decode b_J_type 58 = .ok (.aaload, 1) := by decide +kernel
theorem d_J_type_59 : decode b_J_type 59 = .ok (.getfield 38, 3) := by decide +kernel
theorem d_J_type_62 : decode b_J_type 62 = .ok (.ifCond .ne 20, 3) := by decide +kernel
theorem d_J_type_65 : decode b_J_type 65 = .ok (.iload 5, 2) := by decide +kernel
theorem d_J_type_67 : decode b_J_type 67 = .ok (.iload_n 2, 1) := by decide +kernel
theorem d_J_type_68 : decode b_J_type 68 = .ok (.if_icmp .ge 14, 3) := by decide +kernel
theorem d_J_type_71 : decode b_J_type 71 = .ok (.iload_n 3, 1) := by decide +kernel
theorem d_J_type_72 : decode b_J_type 72 = .ok (.iload 4, 2) := by decide +kernel
theorem d_J_type_74 : decode b_J_type 74 = .ok (.iload 5, 2) := by decide +kernel
theorem d_J_type_76 : decode b_J_type 76 = .ok (.invokestatic 44, 3) := by decide +kernel
theorem d_J_type_79 : decode b_J_type 79 = .ok (.ifCond .ne 5, 3) := by decide +kernel
theorem d_J_type_82 : decode b_J_type 82 = .ok (.iconst (-1), 1) := by decide +kernel
theorem d_J_type_83 : decode b_J_type 83 = .ok (.ireturn, 1) := by decide +kernel
theorem d_J_type_84 : decode b_J_type 84 = .ok (.aload 6, 2) := by decide +kernel
theorem d_J_type_86 : decode b_J_type 86 = .ok (.getfield 34, 3) := by decide +kernel
theorem d_J_type_89 : decode b_J_type 89 = .ok (.iload_n 2, 1) := by decide +kernel
theorem d_J_type_90 : decode b_J_type 90 = .ok (.aaload, 1) := by decide +kernel
theorem d_J_type_91 : decode b_J_type 91 = .ok (.iload_n 3, 1) := by decide +kernel
theorem d_J_type_92 : decode b_J_type 92 = .ok (.iload 4, 2) := by decide +kernel
theorem d_J_type_94 : decode b_J_type 94 = .ok (.iload 5, 2) := by decide +kernel
theorem d_J_type_96 : decode b_J_type 96 = .ok (.invokevirtual 48, 3) := by decide +kernel
theorem d_J_type_99 : decode b_J_type 99 = .ok (.aload 6, 2) := by decide +kernel
theorem d_J_type_101 : decode b_J_type 101 = .ok (.invokevirtual 52, 3) := by decide +kernel
theorem d_J_type_104 : decode b_J_type 104 = .ok (.aload_n 0, 1) := by decide +kernel
theorem d_J_type_105 : decode b_J_type 105 = .ok (.getfield 19, 3) := by decide +kernel
theorem d_J_type_108 : decode b_J_type 108 = .ok (.iconst 1, 1) := by decide +kernel
theorem d_J_type_109 : decode b_J_type 109 = .ok (.putfield 55, 3) := by decide +kernel
theorem d_J_type_112 : decode b_J_type 112 = .ok (.iconst 1, 1) := by decide +kernel
theorem d_J_type_113 : decode b_J_type 113 = .ok (.ireturn, 1) := by decide +kernel
theorem d_J_implement_0 : decode b_J_implement 0 = .ok (.iload_n 1, 1) := by decide +kernel
theorem d_J_implement_1 : decode b_J_implement 1 = .ok (.iload_n 2, 1) := by decide +kernel
theorem d_J_implement_2 : decode b_J_implement 2 = .ok (.invokestatic 27, 3) := by decide +kernel
theorem d_J_implement_5 : decode b_J_implement 5 = .ok (.ifCond .eq 17, 3) := by decide +kernel
theorem d_J_implement_8 : decode b_J_implement 8 = .ok (.iload_n 3, 1) := by decide +kernel
theorem d_J_implement_9 : decode b_J_implement 9 = .ok (.bipush 12, 2) := by decide +kernel
theorem d_J_implement_11 : decode b_J_implement 11 = .ok (.invokestatic 31, 3) := by decide +kernel
theorem d_J_implement_14 : decode b_J_implement 14 = .ok (.ifCond .eq 8, 3) := by decide +kernel
theorem d_J_implement_17 : decode b_J_implement 17 = .ok (.iload_n 3, 1) := by decide +kernel
theorem d_J_implement_18 : decode b_J_implement 18 = .ok (.iload_n 2, 1) := by decide +kernel
theorem d_J_implement_19 : decode b_J_implement 19 = .ok (.if_icmp .lt 5, 3) := by decide +kernel
theorem d_J_implement_22 : decode b_J_implement 22 = .ok (.iconst (-1), 1) := by decide +kernel
theorem d_J_implement_23 : decode b_J_implement 23 = .ok (.ireturn, 1) := by decide +kernel
theorem d_J_implement_24 : decode b_J_implement 24 = .ok (.aload_n 0, 1) := by decide +kernel
theorem d_J_implement_25 : decode b_J_implement 25 = .ok (.getfield 12, 3) := by decide +kernel
theorem d_J_implement_28 : decode b_J_implement 28 = .ok (.iload_n 1, 1) := by decide +kernel
theorem d_J_implement_29 : decode b_J_implement 29 = .ok (.aaload, 1) := by decide +kernel
theorem d_J_implement_30 : decode b_J_implement 30 = .ok (.astore 4, 2) := by decide +kernel
theorem d_J_implement_32 : decode b_J_implement 32 = .ok (.aload 4, 2) := by decide +kernel
theorem d_J_implement_34 : decode b_J_implement 34 = .ok (.getfield 34, 3) := by decide +kernel
theorem d_J_implement_37 : decode b_J_implement 37 = .ok (.iload_n 2, 1) := by decide +kernel
theorem d_J_implement_38 : decode b_J_implement 38 = .ok (.aaload, 1) := by decide +kernel
theorem d_J_implement_39 : decode b_J_implement 39 = .ok (.astore 5, 2) := by decide +kernel
theorem d_J_implement_41 : decode b_J_implement 41 = .ok (.aload 5, 2) := by decide +kernel
theorem d_J_implement_43 : decode b_J_implement 43 = .ok (.getfield 38, 3) := by decide +kernel
theorem d_J_implement_46 : decode b_J_implement 46 = .ok (.ifCond .eq 21, 3) := by decide +kernel
theorem d_J_implement_49 : decode b_J_implement 49 = .ok (.aload 5, 2) := by decide +kernel
theorem d_J_implement_51 : decode b_J_implement 51 = .ok (.getfield 58, 3) := by decide +kernel
theorem d_J_implement_54 : decode b_J_implement 54 = .ok (.iconst 3, 1) := by decide +kernel
theorem d_J_implement_55 : decode b_J_implement 55 = .ok (.if_icmp .ge 12, 3) := by decide +kernel
theorem d_J_implement_58 : decode b_J_implement 58 = .ok (.aload 5, 2) := by decide +kernel
theorem d_J_implement_60 : decode b_J_implement 60 = .ok (.iload_n 3, 1) := by decide +kernel
theorem d_J_implement_61 : decode b_J_implement 61 = .ok (.invokevirtual 62, 3) := by decide +kernel
theorem d_J_implement_64 : decode b_J_implement 64 = .ok (.ifCond .eq 5, 3) := by decide +kernel
theorem d_J_implement_67 : decode b_J_implement 67 = .ok (.iconst (-1), 1) := by decide +kernel
theorem d_J_implement_68 : decode b_J_implement 68 = .ok (.ireturn, 1) := by decide +kernel
theorem d_J_implement_69 : decode b_J_implement 69 = .ok (.aload 5, 2) := by decide +kernel
theorem d_J_implement_71 : decode b_J_implement 71 = .ok (.iload_n 3, 1) := by decide +kernel
theorem d_J_implement_72 : decode b_J_implement 72 = .ok (.invokevirtual 66, 3) := by decide +kernel
theorem d_J_implement_75 : decode b_J_implement 75 = .ok (.aload 4, 2) := by decide +kernel
theorem d_J_implement_77 : decode b_J_implement 77 = .ok (.invokevirtual 52, 3) := by decide +kernel
theorem d_J_implement_80 : decode b_J_implement 80 = .ok (.aload_n 0, 1) := by decide +kernel
theorem d_J_implement_81 : decode b_J_implement 81 = .ok (.getfield 19, 3) := by decide +kernel
theorem d_J_implement_84 : decode b_J_implement 84 = .ok (.iconst 1, 1) := by decide +kernel
theorem d_J_implement_85 : decode b_J_implement 85 = .ok (.putfield 55, 3) := by decide +kernel
theorem d_J_implement_88 : decode b_J_implement 88 = .ok (.aload 5, 2) := by decide +kernel
theorem d_J_implement_90 : decode b_J_implement 90 = .ok (.getfield 58, 3) := by decide +kernel
theorem d_J_implement_93 : decode b_J_implement 93 = .ok (.ireturn, 1) := by decide +kernel
theorem d_J_member_0 : decode b_J_member 0 = .ok (.iload_n 1, 1) := by decide +kernel
theorem d_J_member_1 : decode b_J_member 1 = .ok (.iload_n 2, 1) := by decide +kernel
theorem d_J_member_2 : decode b_J_member 2 = .ok (.invokestatic 27, 3) := by decide +kernel
theorem d_J_member_5 : decode b_J_member 5 = .ok (.ifCond .eq 22, 3) := by decide +kernel
theorem d_J_member_8 : decode b_J_member 8 = .ok (.iload_n 3, 1) := by decide +kernel
theorem d_J_member_9 : decode b_J_member 9 = .ok (.iload 4, 2) := by decide +kernel
theorem d_J_member_11 : decode b_J_member 11 = .ok (.invokestatic 70, 3) := by decide +kernel
theorem d_J_member_14 : decode b_J_member 14 = .ok (.ifCond .eq 13, 3) := by decide +kernel
theorem d_J_member_17 : decode b_J_member 17 = .ok (.iload 5, 2) := by decide +kernel
theorem d_J_member_19 : decode b_J_member 19 = .ok (.bipush 32, 2) := by decide +kernel
theorem d_J_member_21 : decode b_J_member 21 = .ok (.invokestatic 31, 3) := by decide +kernel
theorem d_J_member_24 : decode b_J_member 24 = .ok (.ifCond .ne 5, 3) := by decide +kernel
theorem d_J_member_27 : decode b_J_member 27 = .ok (.iconst (-1), 1) := by decide +kernel
theorem d_J_member_28 : decode b_J_member 28 = .ok (.ireturn, 1) := by decide +kernel
theorem d_J_member_29 : decode b_J_member 29 = .ok (.aload_n 0, 1) := by decide +kernel
theorem d_J_member_30 : decode b_J_member 30 = .ok (.getfield 12, 3) := by decide +kernel
theorem d_J_member_33 : decode b_J_member 33 = .ok (.iload_n 1, 1) := by decide +kernel
theorem d_J_member_34 : decode b_J_member 34 = .ok (.aaload, 1) := by decide +kernel
theorem d_J_member_35 : decode b_J_member 35 = .ok (.getfield 34, 3) := by decide +kernel
theorem d_J_member_38 : decode b_J_member 38 = .ok (.iload_n 2, 1) := by decide +kernel
theorem d_J_member_39 : decode b_J_member 39 = .ok (.aaload, 1) := by decide +kernel
theorem d_J_member_40 : decode b_J_member 40 = .ok (.astore 6, 2) := by decide +kernel
theorem d_J_member_42 : decode b_J_member 42 = .ok (.aload 6, 2) := by decide +kernel
theorem d_J_member_44 : decode b_J_member 44 = .ok (.getfield 38, 3) := by decide +kernel
theorem d_J_member_47 : decode b_J_member 47 = .ok (.ifCond .eq 51, 3) := by decide +kernel
theorem d_J_member_50 : decode b_J_member 50 = .ok (.aload 6, 2) := by decide +kernel
theorem d_J_member_52 : decode b_J_member 52 = .ok (.getfield 73, 3) := by decide +kernel
theorem d_J_member_55 : decode b_J_member 55 = .ok (.bipush 8, 2) := by decide +kernel
theorem d_J_member_57 : decode b_J_member 57 = .ok (.if_icmp .ge 41, 3) := by decide +kernel
theorem d_J_member_60 : decode b_J_member 60 = .ok (.aload 6, 2) := by decide +kernel
theorem d_J_member_62 : decode b_J_member 62 = .ok (.iload_n 3, 1) := by decide +kernel
theorem d_J_member_63 : decode b_J_member 63 = .ok (.iload 4, 2) := by decide +kernel
theorem d_J_member_65 : decode b_J_member 65 = .ok (.invokevirtual 76, 3) := by decide +kernel
theorem d_J_member_68 : decode b_J_member 68 = .ok (.ifnonnull 30, 3) := by decide +kernel
theorem d_J_member_71 : decode b_J_member 71 = .ok (.iload_n 3, 1) := by decide +kernel
theorem d_J_member_72 : decode b_J_member 72 = .ok (.iload 5, 2) := by decide +kernel
theorem d_J_member_74 : decode b_J_member 74 = .ok (.invokestatic 80, 3) := by decide +kernel
theorem d_J_member_77 : decode b_J_member 77 = .ok (.ifCond .eq 21, 3) := by decide +kernel
theorem d_J_member_80 : decode b_J_member 80 = .ok (.aload 6, 2) := by decide +kernel
theorem d_J_member_82 : decode b_J_member 82 = .ok (.getfield 83, 3) := by decide +kernel
theorem d_J_member_85 : decode b_J_member 85 = .ok (.iconst 1, 1) := by decide +kernel
theorem d_J_member_86 : decode b_J_member 86 = .ok (.if_icmp .ne 14, 3) := by decide +kernel
theorem d_J_member_89 : decode b_J_member 89 = .ok (.iload_n 3, 1) := by decide +kernel
theorem d_J_member_90 : decode b_J_member 90 = .ok (.iload 5, 2) := by decide +kernel
theorem d_J_member_92 : decode b_J_member 92 = .ok (.invokestatic 86, 3) := by decide +kernel
theorem d_J_member_95 : decode b_J_member 95 = .ok (.ifCond .ne 5, 3) := by decide +kernel
theorem d_J_member_98 : decode b_J_member 98 = .ok (.iconst (-1), 1) := by decide +kernel
theorem d_J_member_99 : decode b_J_member 99 = .ok (.ireturn, 1) := by decide +kernel
theorem d_J_member_100 : decode b_J_member 100 = .ok (.aload 6, 2) := by decide +kernel
theorem d_J_member_102 : decode b_J_member 102 = .ok (.iload_n 3, 1) := by decide +kernel
theorem d_J_member_103 : decode b_J_member 103 = .ok (.iload 4, 2) := by decide +kernel
theorem d_J_member_105 : decode b_J_member 105 = .ok (.iload 5, 2) := by decide +kernel
theorem d_J_member_107 : decode b_J_member 107 = .ok (.invokevirtual 89, 3) := by decide +kernel
theorem d_J_member_110 : decode b_J_member 110 = .ok (.aload_n 0, 1) := by decide +kernel
theorem d_J_member_111 : decode b_J_member 111 = .ok (.getfield 19, 3) := by decide +kernel
theorem d_J_member_114 : decode b_J_member 114 = .ok (.iconst 1, 1) := by decide +kernel
theorem d_J_member_115 : decode b_J_member 115 = .ok (.putfield 55, 3) := by decide +kernel
theorem d_J_member_118 : decode b_J_member 118 = .ok (.aload 6, 2) := by decide +kernel
theorem d_J_member_120 : decode b_J_member 120 = .ok (.getfield 73, 3) := by decide +kernel
theorem d_J_member_123 : decode b_J_member 123 = .ok (.iconst 1, 1) := by decide +kernel
theorem d_J_member_124 : decode b_J_member 124 = .ok (.isub, 1) := by decide +kernel
theorem d_J_member_125 : decode b_J_member 125 = .ok (.ireturn, 1) := by decide +kernel
theorem d_J_constant_0 : decode b_J_constant 0 = .ok (.aload_n 0, 1) := by decide +kernel
theorem d_J_constant_1 : decode b_J_constant 1 = .ok (.iload_n 1, 1) := by decide +kernel
theorem d_J_constant_2 : decode b_J_constant 2 = .ok (.iload_n 2, 1) := by decide +kernel
theorem d_J_constant_3 : decode b_J_constant 3 = .ok (.iload_n 3, 1) := by decide +kernel
theorem d_J_constant_4 : decode b_J_constant 4 = .ok (.invokevirtual 92, 3) := by decide +kernel
theorem d_J_constant_7 : decode b_J_constant 7 = .ok (.ifCond .ne 5, 3) := by decide +kernel
theorem d_J_constant_10 : decode b_J_constant 10 = .ok (.iconst (-1), 1) := by decide +kernel
theorem d_J_constant_11 : decode b_J_constant 11 = .ok (.ireturn, 1) := by decide +kernel
theorem d_J_constant_12 : decode b_J_constant 12 = .ok (.aload_n 0, 1) := by decide +kernel
theorem d_J_constant_13 : decode b_J_constant 13 = .ok (.getfield 12, 3) := by decide +kernel
theorem d_J_constant_16 : decode b_J_constant 16 = .ok (.iload_n 1, 1) := by decide +kernel
theorem d_J_constant_17 : decode b_J_constant 17 = .ok (.aaload, 1) := by decide +kernel
theorem d_J_constant_18 : decode b_J_constant 18 = .ok (.getfield 34, 3) := by decide +kernel
theorem d_J_constant_21 : decode b_J_constant 21 = .ok (.iload_n 2, 1) := by decide +kernel
theorem d_J_constant_22 : decode b_J_constant 22 = .ok (.aaload, 1) := by decide +kernel
theorem d_J_constant_23 : decode b_J_constant 23 = .ok (.getfield 95, 3) := by decide +kernel
theorem d_J_constant_26 : decode b_J_constant 26 = .ok (.iload_n 3, 1) := by decide +kernel
theorem d_J_constant_27 : decode b_J_constant 27 = .ok (.aaload, 1) := by decide +kernel
theorem d_J_constant_28 : decode b_J_constant 28 = .ok (.astore 5, 2) := by decide +kernel
theorem d_J_constant_30 : decode b_J_constant 30 = .ok (.aload 5, 2) := by decide +kernel
theorem d_J_constant_32 : decode b_J_constant 32 = .ok (.getfield 99, 3) := by decide +kernel
theorem d_J_constant_35 : decode b_J_constant 35 = .ok (.ifCond .eq 5, 3) := by decide +kernel
theorem d_J_constant_38 : decode b_J_constant 38 = .ok (.iconst (-1), 1) := by decide +kernel
theorem d_J_constant_39 : decode b_J_constant 39 = .ok (.ireturn, 1) := by decide +kernel
theorem d_J_constant_40 : decode b_J_constant 40 = .ok (.aload 5, 2) := by decide +kernel
theorem d_J_constant_42 : decode b_J_constant 42 = .ok (.getfield 102, 3) := by decide +kernel
theorem d_J_constant_45 : decode b_J_constant 45 = .ok (.ifCond .eq 7, 3) := by decide +kernel
theorem d_J_constant_48 : decode b_J_constant 48 = .ok (.iconst 1, 1) := by decide +kernel
theorem d_J_constant_49 : decode b_J_constant 49 = .ok (.goto 4, 3) := by decide +kernel
theorem d_J_constant_52 : decode b_J_constant 52 = .ok (.iconst 0, 1) := by decide +kernel
theorem d_J_constant_53 : decode b_J_constant 53 = .ok (.istore 6, 2) := by decide +kernel
theorem d_J_constant_55 : decode b_J_constant 55 = .ok (.aload 5, 2) := by decide +kernel
theorem d_J_constant_57 : decode b_J_constant 57 = .ok (.iconst 1, 1) := by decide +kernel
theorem d_J_constant_58 : decode b_J_constant 58 = .ok (.putfield 102, 3) := by decide +kernel
theorem d_J_constant_61 : decode b_J_constant 61 = .ok (.aload 5, 2) := by decide +kernel
theorem d_J_constant_63 : decode b_J_constant 63 = .ok (.iload 4, 2) := by decide +kernel
theorem d_J_constant_65 : decode b_J_constant 65 = .ok (.putfield 105, 3) := by decide +kernel
theorem d_J_constant_68 : decode b_J_constant 68 = .ok (.aload_n 0, 1) := by decide +kernel
theorem d_J_constant_69 : decode b_J_constant 69 = .ok (.getfield 19, 3) := by decide +kernel
theorem d_J_constant_72 : decode b_J_constant 72 = .ok (.iconst 1, 1) := by decide +kernel
theorem d_J_constant_73 : decode b_J_constant 73 = .ok (.putfield 55, 3) := by decide +kernel
theorem d_J_constant_76 : decode b_J_constant 76 = .ok (.iload 6, 2) := by decide +kernel
theorem d_J_constant_78 : decode b_J_constant 78 = .ok (.ireturn, 1) := by decide +kernel
theorem d_J_remove_0 : decode b_J_remove 0 = .ok (.iload_n 1, 1) := by decide +kernel
theorem d_J_remove_1 : decode b_J_remove 1 = .ok (.iload_n 2, 1) := by decide +kernel
theorem d_J_remove_2 : decode b_J_remove 2 = .ok (.invokestatic 27, 3) := by decide +kernel
theorem d_J_remove_5 : decode b_J_remove 5 = .ok (.ifCond .eq 20, 3) := by decide +kernel
theorem d_J_remove_8 : decode b_J_remove 8 = .ok (.aload_n 0, 1) := by decide +kernel
theorem d_J_remove_9 : decode b_J_remove 9 = .ok (.getfield 12, 3) := by decide +kernel
theorem d_J_remove_12 : decode b_J_remove 12 = .ok (.iload_n 1, 1) := by decide +kernel
theorem d_J_remove_13 : decode b_J_remove 13 = .ok (.aaload, 1) := by decide +kernel
theorem d_J_remove_14 : decode b_J_remove 14 = .ok (.getfield 34, 3) := by decide +kernel
theorem d_J_remove_17 : decode b_J_remove 17 = .ok (.iload_n 2, 1) := by decide +kernel
theorem d_J_remove_18 : decode b_J_remove 18 = .ok (.aaload, 1) := by decide +kernel
theorem d_J_remove_19 : decode b_J_remove 19 = .ok (.getfield 38, 3) := by decide +kernel
theorem d_J_remove_22 : decode b_J_remove 22 = .ok (.ifCond .ne 5, 3) := by decide +kernel
theorem d_J_remove_25 : decode b_J_remove 25 = .ok (.iconst (-1), 1) := by decide +kernel
theorem d_J_remove_26 : decode b_J_remove 26 = .ok (.ireturn, 1) := by decide +kernel
theorem d_J_remove_27 : decode b_J_remove 27 = .ok (.aload_n 0, 1) := by decide +kernel
theorem d_J_remove_28 : decode b_J_remove 28 = .ok (.getfield 12, 3) := by decide +kernel
theorem d_J_remove_31 : decode b_J_remove 31 = .ok (.iload_n 1, 1) := by decide +kernel
theorem d_J_remove_32 : decode b_J_remove 32 = .ok (.aaload, 1) := by decide +kernel
theorem d_J_remove_33 : decode b_J_remove 33 = .ok (.getfield 34, 3) := by decide +kernel
theorem d_J_remove_36 : decode b_J_remove 36 = .ok (.iload_n 2, 1) := by decide +kernel
theorem d_J_remove_37 : decode b_J_remove 37 = .ok (.aaload, 1) := by decide +kernel
theorem d_J_remove_38 : decode b_J_remove 38 = .ok (.invokevirtual 108, 3) := by decide +kernel
theorem d_J_remove_41 : decode b_J_remove 41 = .ok (.aload_n 0, 1) := by decide +kernel
theorem d_J_remove_42 : decode b_J_remove 42 = .ok (.getfield 12, 3) := by decide +kernel
theorem d_J_remove_45 : decode b_J_remove 45 = .ok (.iload_n 1, 1) := by decide +kernel
theorem d_J_remove_46 : decode b_J_remove 46 = .ok (.aaload, 1) := by decide +kernel
theorem d_J_remove_47 : decode b_J_remove 47 = .ok (.invokevirtual 52, 3) := by decide +kernel
theorem d_J_remove_50 : decode b_J_remove 50 = .ok (.aload_n 0, 1) := by decide +kernel
theorem d_J_remove_51 : decode b_J_remove 51 = .ok (.getfield 19, 3) := by decide +kernel
theorem d_J_remove_54 : decode b_J_remove 54 = .ok (.iconst 1, 1) := by decide +kernel
theorem d_J_remove_55 : decode b_J_remove 55 = .ok (.putfield 55, 3) := by decide +kernel
theorem d_J_remove_58 : decode b_J_remove 58 = .ok (.iconst 1, 1) := by decide +kernel
theorem d_J_remove_59 : decode b_J_remove 59 = .ok (.ireturn, 1) := by decide +kernel
theorem d_J_drop_0 : decode b_J_drop 0 = .ok (.aload_n 0, 1) := by decide +kernel
theorem d_J_drop_1 : decode b_J_drop 1 = .ok (.iload_n 1, 1) := by decide +kernel
theorem d_J_drop_2 : decode b_J_drop 2 = .ok (.iload_n 2, 1) := by decide +kernel
theorem d_J_drop_3 : decode b_J_drop 3 = .ok (.iload_n 3, 1) := by decide +kernel
theorem d_J_drop_4 : decode b_J_drop 4 = .ok (.invokevirtual 92, 3) := by decide +kernel
theorem d_J_drop_7 : decode b_J_drop 7 = .ok (.ifCond .ne 5, 3) := by decide +kernel
theorem d_J_drop_10 : decode b_J_drop 10 = .ok (.iconst (-1), 1) := by decide +kernel
theorem d_J_drop_11 : decode b_J_drop 11 = .ok (.ireturn, 1) := by decide +kernel
theorem d_J_drop_12 : decode b_J_drop 12 = .ok (.aload_n 0, 1) := by decide +kernel
theorem d_J_drop_13 : decode b_J_drop 13 = .ok (.getfield 12, 3) := by decide +kernel
theorem d_J_drop_16 : decode b_J_drop 16 = .ok (.iload_n 1, 1) := by decide +kernel
theorem d_J_drop_17 : decode b_J_drop 17 = .ok (.aaload, 1) := by decide +kernel
theorem d_J_drop_18 : decode b_J_drop 18 = .ok (.getfield 34, 3) := by decide +kernel
theorem d_J_drop_21 : decode b_J_drop 21 = .ok (.iload_n 2, 1) := by decide +kernel
theorem d_J_drop_22 : decode b_J_drop 22 = .ok (.aaload, 1) := by decide +kernel
theorem d_J_drop_23 : decode b_J_drop 23 = .ok (.astore 4, 2) := by decide +kernel
theorem d_J_drop_25 : decode b_J_drop 25 = .ok (.aload 4, 2) := by decide +kernel
theorem d_J_drop_27 : decode b_J_drop 27 = .ok (.iload_n 3, 1) := by decide +kernel
theorem d_J_drop_28 : decode b_J_drop 28 = .ok (.invokevirtual 111, 3) := by decide +kernel
theorem d_J_drop_31 : decode b_J_drop 31 = .ok (.aload_n 0, 1) := by decide +kernel
theorem d_J_drop_32 : decode b_J_drop 32 = .ok (.getfield 19, 3) := by decide +kernel
theorem d_J_drop_35 : decode b_J_drop 35 = .ok (.iconst 1, 1) := by decide +kernel
theorem d_J_drop_36 : decode b_J_drop 36 = .ok (.putfield 55, 3) := by decide +kernel
theorem d_J_drop_39 : decode b_J_drop 39 = .ok (.aload 4, 2) := by decide +kernel
theorem d_J_drop_41 : decode b_J_drop 41 = .ok (.getfield 73, 3) := by decide +kernel
theorem d_J_drop_44 : decode b_J_drop 44 = .ok (.ireturn, 1) := by decide +kernel
theorem d_J_copy_0 : decode b_J_copy 0 = .ok (.aload_n 0, 1) := by decide +kernel
theorem d_J_copy_1 : decode b_J_copy 1 = .ok (.getfield 12, 3) := by decide +kernel
theorem d_J_copy_4 : decode b_J_copy 4 = .ok (.iconst 1, 1) := by decide +kernel
theorem d_J_copy_5 : decode b_J_copy 5 = .ok (.aaload, 1) := by decide +kernel
theorem d_J_copy_6 : decode b_J_copy 6 = .ok (.aload_n 0, 1) := by decide +kernel
theorem d_J_copy_7 : decode b_J_copy 7 = .ok (.getfield 12, 3) := by decide +kernel
theorem d_J_copy_10 : decode b_J_copy 10 = .ok (.iconst 0, 1) := by decide +kernel
theorem d_J_copy_11 : decode b_J_copy 11 = .ok (.aaload, 1) := by decide +kernel
theorem d_J_copy_12 : decode b_J_copy 12 = .ok (.invokevirtual 114, 3) := by decide +kernel
theorem d_J_copy_15 : decode b_J_copy 15 = .ok (.aload_n 0, 1) := by decide +kernel
theorem d_J_copy_16 : decode b_J_copy 16 = .ok (.getfield 19, 3) := by decide +kernel
theorem d_J_copy_19 : decode b_J_copy 19 = .ok (.iconst 1, 1) := by decide +kernel
theorem d_J_copy_20 : decode b_J_copy 20 = .ok (.putfield 55, 3) := by decide +kernel
theorem d_J_copy_23 : decode b_J_copy 23 = .ok (.aload_n 0, 1) := by decide +kernel
theorem d_J_copy_24 : decode b_J_copy 24 = .ok (.getfield 12, 3) := by decide +kernel
theorem d_J_copy_27 : decode b_J_copy 27 = .ok (.iconst 1, 1) := by decide +kernel
theorem d_J_copy_28 : decode b_J_copy 28 = .ok (.aaload, 1) := by decide +kernel
theorem d_J_copy_29 : decode b_J_copy 29 = .ok (.invokevirtual 118, 3) := by decide +kernel
theorem d_J_copy_32 : decode b_J_copy 32 = .ok (.ireturn, 1) := by decide +kernel
theorem d_J_swap_0 : decode b_J_swap 0 = .ok (.aload_n 0, 1) := by decide +kernel
theorem d_J_swap_1 : decode b_J_swap 1 = .ok (.getfield 12, 3) := by decide +kernel
theorem d_J_swap_4 : decode b_J_swap 4 = .ok (.iconst 0, 1) := by decide +kernel
theorem d_J_swap_5 : decode b_J_swap 5 = .ok (.aaload, 1) := by decide +kernel
theorem d_J_swap_6 : decode b_J_swap 6 = .ok (.astore_n 1, 1) := by decide +kernel
theorem d_J_swap_7 : decode b_J_swap 7 = .ok (.aload_n 0, 1) := by decide +kernel
theorem d_J_swap_8 : decode b_J_swap 8 = .ok (.getfield 12, 3) := by decide +kernel
theorem d_J_swap_11 : decode b_J_swap 11 = .ok (.iconst 0, 1) := by decide +kernel
theorem d_J_swap_12 : decode b_J_swap 12 = .ok (.aload_n 0, 1) := by decide +kernel
theorem d_J_swap_13 : decode b_J_swap 13 = .ok (.getfield 12, 3) := by decide +kernel
theorem d_J_swap_16 : decode b_J_swap 16 = .ok (.iconst 1, 1) := by decide +kernel
theorem d_J_swap_17 : decode b_J_swap 17 = .ok (.aaload, 1) := by decide +kernel
theorem d_J_swap_18 : decode b_J_swap 18 = .ok (.aastore, 1) := by decide +kernel
theorem d_J_swap_19 : decode b_J_swap 19 = .ok (.aload_n 0, 1) := by decide +kernel
theorem d_J_swap_20 : decode b_J_swap 20 = .ok (.getfield 12, 3) := by decide +kernel
theorem d_J_swap_23 : decode b_J_swap 23 = .ok (.iconst 1, 1) := by decide +kernel
theorem d_J_swap_24 : decode b_J_swap 24 = .ok (.aload_n 1, 1) := by decide +kernel
theorem d_J_swap_25 : decode b_J_swap 25 = .ok (.aastore, 1) := by decide +kernel
theorem d_J_swap_26 : decode b_J_swap 26 = .ok (.aload_n 0, 1) := by decide +kernel
theorem d_J_swap_27 : decode b_J_swap 27 = .ok (.getfield 19, 3) := by decide +kernel
theorem d_J_swap_30 : decode b_J_swap 30 = .ok (.iconst 1, 1) := by decide +kernel
theorem d_J_swap_31 : decode b_J_swap 31 = .ok (.putfield 55, 3) := by decide +kernel
theorem d_J_swap_34 : decode b_J_swap 34 = .ok (.return_, 1) := by decide +kernel
theorem d_J_suppress_0 : decode b_J_suppress 0 = .ok (.iload_n 1, 1) := by decide +kernel
theorem d_J_suppress_1 : decode b_J_suppress 1 = .ok (.bipush 14, 2) := by decide +kernel
theorem d_J_suppress_3 : decode b_J_suppress 3 = .ok (.invokestatic 31, 3) := by decide +kernel
theorem d_J_suppress_6 : decode b_J_suppress 6 = .ok (.ifCond .eq 12, 3) := by decide +kernel
theorem d_J_suppress_9 : decode b_J_suppress 9 = .ok (.iload_n 2, 1) := by decide +kernel
theorem d_J_suppress_10 : decode b_J_suppress 10 = .ok (.bipush 12, 2) := by decide +kernel
theorem d_J_suppress_12 : decode b_J_suppress 12 = .ok (.invokestatic 31, 3) := by decide +kernel
theorem d_J_suppress_15 : decode b_J_suppress 15 = .ok (.ifCond .ne 5, 3) := by decide +kernel
theorem d_J_suppress_18 : decode b_J_suppress 18 = .ok (.iconst (-1), 1) := by decide +kernel
theorem d_J_suppress_19 : decode b_J_suppress 19 = .ok (.ireturn, 1) := by decide +kernel
theorem d_J_suppress_20 : decode b_J_suppress 20 = .ok (.aload_n 0, 1) := by decide +kernel
theorem d_J_suppress_21 : decode b_J_suppress 21 = .ok (.iload_n 1, 1) := by decide +kernel
theorem d_J_suppress_22 : decode b_J_suppress 22 = .ok (.iload_n 2, 1) := by decide +kernel
theorem d_J_suppress_23 : decode b_J_suppress 23 = .ok (.invokevirtual 122, 3) := by decide +kernel
theorem d_J_suppress_26 : decode b_J_suppress 26 = .ok (.iload_n 3, 1) := by decide +kernel
theorem d_J_suppress_27 : decode b_J_suppress 27 = .ok (.if_icmp .ne 5, 3) := by decide +kernel
theorem d_J_suppress_30 : decode b_J_suppress 30 = .ok (.iconst 0, 1) := by decide +kernel
theorem d_J_suppress_31 : decode b_J_suppress 31 = .ok (.ireturn, 1) := by decide +kernel
theorem d_J_suppress_32 : decode b_J_suppress 32 = .ok (.aload_n 0, 1) := by decide +kernel
theorem d_J_suppress_33 : decode b_J_suppress 33 = .ok (.getfield 23, 3) := by decide +kernel
theorem d_J_suppress_36 : decode b_J_suppress 36 = .ok (.iload_n 1, 1) := by decide +kernel
theorem d_J_suppress_37 : decode b_J_suppress 37 = .ok (.aload_n 0, 1) := by decide +kernel
theorem d_J_suppress_38 : decode b_J_suppress 38 = .ok (.getfield 23, 3) := by decide +kernel
theorem d_J_suppress_41 : decode b_J_suppress 41 = .ok (.iload_n 1, 1) := by decide +kernel
theorem d_J_suppress_42 : decode b_J_suppress 42 = .ok (.iaload, 1) := by decide +kernel
theorem d_J_suppress_43 : decode b_J_suppress 43 = .ok (.iconst 1, 1) := by decide +kernel
theorem d_J_suppress_44 : decode b_J_suppress 44 = .ok (.iload_n 2, 1) := by decide +kernel
theorem d_J_suppress_45 : decode b_J_suppress 45 = .ok (.ishl, 1) := by decide +kernel
theorem d_J_suppress_46 : decode b_J_suppress 46 = .ok (.ixor, 1) := by decide +kernel
theorem d_J_suppress_47 : decode b_J_suppress 47 = .ok (.iastore, 1) := by decide +kernel
theorem d_J_suppress_48 : decode b_J_suppress 48 = .ok (.iconst 1, 1) := by decide +kernel
theorem d_J_suppress_49 : decode b_J_suppress 49 = .ok (.ireturn, 1) := by decide +kernel
theorem d_J_supertypes_0 : decode b_J_supertypes 0 = .ok (.iload_n 1, 1) := by decide +kernel
theorem d_J_supertypes_1 : decode b_J_supertypes 1 = .ok (.iload_n 2, 1) := by decide +kernel
theorem d_J_supertypes_2 : decode b_J_supertypes 2 = .ok (.invokestatic 27, 3) := by decide +kernel
theorem d_J_supertypes_5 : decode b_J_supertypes 5 = .ok (.ifCond .ne 5, 3) := by decide +kernel
theorem d_J_supertypes_8 : decode b_J_supertypes 8 = .ok (.iconst (-1), 1) := by decide +kernel
theorem d_J_supertypes_9 : decode b_J_supertypes 9 = .ok (.ireturn, 1) := by decide +kernel
theorem d_J_supertypes_10 : decode b_J_supertypes 10 = .ok (.aload_n 0, 1) := by decide +kernel
theorem d_J_supertypes_11 : decode b_J_supertypes 11 = .ok (.getfield 12, 3) := by decide +kernel
theorem d_J_supertypes_14 : decode b_J_supertypes 14 = .ok (.iload_n 1, 1) := by decide +kernel
theorem d_J_supertypes_15 : decode b_J_supertypes 15 = .ok (.aaload, 1) := by decide +kernel
theorem d_J_supertypes_16 : decode b_J_supertypes 16 = .ok (.getfield 34, 3) := by decide +kernel
theorem d_J_supertypes_19 : decode b_J_supertypes 19 = .ok (.iload_n 2, 1) := by decide +kernel
theorem d_J_supertypes_20 : decode b_J_supertypes 20 = .ok (.aaload, 1) := by decide +kernel
theorem d_J_supertypes_21 : decode b_J_supertypes 21 = .ok (.getfield 125, 3) := by decide +kernel
theorem d_J_supertypes_24 : decode b_J_supertypes 24 = .ok (.ireturn, 1) := by decide +kernel
theorem d_J_look_0 : decode b_J_look 0 = .ok (.iload_n 1, 1) := by decide +kernel
theorem d_J_look_1 : decode b_J_look 1 = .ok (.iload_n 2, 1) := by decide +kernel
theorem d_J_look_2 : decode b_J_look 2 = .ok (.invokestatic 27, 3) := by decide +kernel
theorem d_J_look_5 : decode b_J_look 5 = .ok (.ifCond .eq 12, 3) := by decide +kernel
theorem d_J_look_8 : decode b_J_look 8 = .ok (.iload_n 3, 1) := by decide +kernel
theorem d_J_look_9 : decode b_J_look 9 = .ok (.iload 4, 2) := by decide +kernel
theorem d_J_look_11 : decode b_J_look 11 = .ok (.invokestatic 70, 3) := by decide +kernel
theorem d_J_look_14 : decode b_J_look 14 = .ok (.ifCond .ne 5, 3) := by decide +kernel
theorem d_J_look_17 : decode b_J_look 17 = .ok (.iconst (-1), 1) := by decide +kernel
theorem d_J_look_18 : decode b_J_look 18 = .ok (.ireturn, 1) := by decide +kernel
theorem d_J_look_19 : decode b_J_look 19 = .ok (.aload_n 0, 1) := by decide +kernel
theorem d_J_look_20 : decode b_J_look 20 = .ok (.getfield 12, 3) := by decide +kernel
theorem d_J_look_23 : decode b_J_look 23 = .ok (.iload_n 1, 1) := by decide +kernel
theorem d_J_look_24 : decode b_J_look 24 = .ok (.aaload, 1) := by decide +kernel
theorem d_J_look_25 : decode b_J_look 25 = .ok (.iload_n 2, 1) := by decide +kernel
theorem d_J_look_26 : decode b_J_look 26 = .ok (.iload_n 3, 1) := by decide +kernel
theorem d_J_look_27 : decode b_J_look 27 = .ok (.iload 4, 2) := by decide +kernel
theorem d_J_look_29 : decode b_J_look 29 = .ok (.invokevirtual 128, 3) := by decide +kernel
theorem d_J_look_32 : decode b_J_look 32 = .ok (.ireturn, 1) := by decide +kernel
theorem d_J_findings_0 : decode b_J_findings 0 = .ok (.aload_n 0, 1) := by decide +kernel
theorem d_J_findings_1 : decode b_J_findings 1 = .ok (.getfield 19, 3) := by decide +kernel
theorem d_J_findings_4 : decode b_J_findings 4 = .ok (.aload_n 0, 1) := by decide +kernel
theorem d_J_findings_5 : decode b_J_findings 5 = .ok (.getfield 12, 3) := by decide +kernel
theorem d_J_findings_8 : decode b_J_findings 8 = .ok (.iconst 0, 1) := by decide +kernel
theorem d_J_findings_9 : decode b_J_findings 9 = .ok (.aaload, 1) := by decide +kernel
theorem d_J_findings_10 : decode b_J_findings 10 = .ok (.aload_n 0, 1) := by decide +kernel
theorem d_J_findings_11 : decode b_J_findings 11 = .ok (.getfield 12, 3) := by decide +kernel
theorem d_J_findings_14 : decode b_J_findings 14 = .ok (.iconst 1, 1) := by decide +kernel
theorem d_J_findings_15 : decode b_J_findings 15 = .ok (.aaload, 1) := by decide +kernel
theorem d_J_findings_16 : decode b_J_findings 16 = .ok (.invokevirtual 132, 3) := by decide +kernel
theorem d_J_findings_19 : decode b_J_findings 19 = .ok (.aload_n 0, 1) := by decide +kernel
theorem d_J_findings_20 : decode b_J_findings 20 = .ok (.getfield 19, 3) := by decide +kernel
theorem d_J_findings_23 : decode b_J_findings 23 = .ok (.getfield 136, 3) := by decide +kernel
theorem d_J_findings_26 : decode b_J_findings 26 = .ok (.ireturn, 1) := by decide +kernel
theorem d_J_finding_0 : decode b_J_finding 0 = .ok (.aload_n 0, 1) := by decide +kernel
theorem d_J_finding_1 : decode b_J_finding 1 = .ok (.getfield 19, 3) := by decide +kernel
theorem d_J_finding_4 : decode b_J_finding 4 = .ok (.aload_n 0, 1) := by decide +kernel
theorem d_J_finding_5 : decode b_J_finding 5 = .ok (.getfield 12, 3) := by decide +kernel
theorem d_J_finding_8 : decode b_J_finding 8 = .ok (.iconst 0, 1) := by decide +kernel
theorem d_J_finding_9 : decode b_J_finding 9 = .ok (.aaload, 1) := by decide +kernel
theorem d_J_finding_10 : decode b_J_finding 10 = .ok (.aload_n 0, 1) := by decide +kernel
theorem d_J_finding_11 : decode b_J_finding 11 = .ok (.getfield 12, 3) := by decide +kernel
theorem d_J_finding_14 : decode b_J_finding 14 = .ok (.iconst 1, 1) := by decide +kernel
theorem d_J_finding_15 : decode b_J_finding 15 = .ok (.aaload, 1) := by decide +kernel
theorem d_J_finding_16 : decode b_J_finding 16 = .ok (.invokevirtual 132, 3) := by decide +kernel
theorem d_J_finding_19 : decode b_J_finding 19 = .ok (.iload_n 1, 1) := by decide +kernel
theorem d_J_finding_20 : decode b_J_finding 20 = .ok (.aload_n 0, 1) := by decide +kernel
theorem d_J_finding_21 : decode b_J_finding 21 = .ok (.getfield 19, 3) := by decide +kernel
theorem d_J_finding_24 : decode b_J_finding 24 = .ok (.getfield 136, 3) := by decide +kernel
theorem d_J_finding_27 : decode b_J_finding 27 = .ok (.invokestatic 31, 3) := by decide +kernel
theorem d_J_finding_30 : decode b_J_finding 30 = .ok (.ifCond .ne 5, 3) := by decide +kernel
theorem d_J_finding_33 : decode b_J_finding 33 = .ok (.iconst (-1), 1) := by decide +kernel
theorem d_J_finding_34 : decode b_J_finding 34 = .ok (.ireturn, 1) := by decide +kernel
theorem d_J_finding_35 : decode b_J_finding 35 = .ok (.aload_n 0, 1) := by decide +kernel
theorem d_J_finding_36 : decode b_J_finding 36 = .ok (.getfield 19, 3) := by decide +kernel
theorem d_J_finding_39 : decode b_J_finding 39 = .ok (.getfield 139, 3) := by decide +kernel
theorem d_J_finding_42 : decode b_J_finding 42 = .ok (.iload_n 1, 1) := by decide +kernel
theorem d_J_finding_43 : decode b_J_finding 43 = .ok (.iaload, 1) := by decide +kernel
theorem d_J_finding_44 : decode b_J_finding 44 = .ok (.istore_n 3, 1) := by decide +kernel
theorem d_J_finding_45 : decode b_J_finding 45 = .ok (.aload_n 0, 1) := by decide +kernel
theorem d_J_finding_46 : decode b_J_finding 46 = .ok (.getfield 19, 3) := by decide +kernel
theorem d_J_finding_49 : decode b_J_finding 49 = .ok (.getfield 142, 3) := by decide +kernel
theorem d_J_finding_52 : decode b_J_finding 52 = .ok (.iload_n 1, 1) := by decide +kernel
theorem d_J_finding_53 : decode b_J_finding 53 = .ok (.iaload, 1) := by decide +kernel
theorem d_J_finding_54 : decode b_J_finding 54 = .ok (.istore 4, 2) := by decide +kernel
theorem d_J_finding_56 : decode b_J_finding 56 = .ok (.iload_n 2, 1) := by decide +kernel
theorem d_J_finding_57 : decode b_J_finding 57 = .ok (.tableswitch 72 0 4 #[35, 37, 40, 50, 56], 35) := by decide +kernel
theorem d_J_finding_92 : decode b_J_finding 92 = .ok (.iload_n 3, 1) := by decide +kernel
theorem d_J_finding_93 : decode b_J_finding 93 = .ok (.ireturn, 1) := by decide +kernel
theorem d_J_finding_94 : decode b_J_finding 94 = .ok (.iload 4, 2) := by decide +kernel
theorem d_J_finding_96 : decode b_J_finding 96 = .ok (.ireturn, 1) := by decide +kernel
theorem d_J_finding_97 : decode b_J_finding 97 = .ok (.aload_n 0, 1) := by decide +kernel
theorem d_J_finding_98 : decode b_J_finding 98 = .ok (.getfield 19, 3) := by decide +kernel
theorem d_J_finding_101 : decode b_J_finding 101 = .ok (.getfield 144, 3) := by decide +kernel
theorem d_J_finding_104 : decode b_J_finding 104 = .ok (.iload_n 1, 1) := by decide +kernel
theorem d_J_finding_105 : decode b_J_finding 105 = .ok (.iaload, 1) := by decide +kernel
theorem d_J_finding_106 : decode b_J_finding 106 = .ok (.ireturn, 1) := by decide +kernel
theorem d_J_finding_107 : decode b_J_finding 107 = .ok (.getstatic 147, 3) := by decide +kernel
theorem d_J_finding_110 : decode b_J_finding 110 = .ok (.iload_n 3, 1) := by decide +kernel
theorem d_J_finding_111 : decode b_J_finding 111 = .ok (.iaload, 1) := by decide +kernel
theorem d_J_finding_112 : decode b_J_finding 112 = .ok (.ireturn, 1) := by decide +kernel
theorem d_J_finding_113 : decode b_J_finding 113 = .ok (.aload_n 0, 1) := by decide +kernel
theorem d_J_finding_114 : decode b_J_finding 114 = .ok (.iload_n 3, 1) := by decide +kernel
theorem d_J_finding_115 : decode b_J_finding 115 = .ok (.iload 4, 2) := by decide +kernel
theorem d_J_finding_117 : decode b_J_finding 117 = .ok (.invokevirtual 122, 3) := by decide +kernel
theorem d_J_finding_120 : decode b_J_finding 120 = .ok (.ifCond .eq 7, 3) := by decide +kernel
theorem d_J_finding_123 : decode b_J_finding 123 = .ok (.iconst 1, 1) := by decide +kernel
theorem d_J_finding_124 : decode b_J_finding 124 = .ok (.goto 4, 3) := by decide +kernel
theorem d_J_finding_127 : decode b_J_finding 127 = .ok (.iconst 0, 1) := by decide +kernel
theorem d_J_finding_128 : decode b_J_finding 128 = .ok (.ireturn, 1) := by decide +kernel
theorem d_J_finding_129 : decode b_J_finding 129 = .ok (.iconst (-1), 1) := by decide +kernel
theorem d_J_finding_130 : decode b_J_finding 130 = .ok (.ireturn, 1) := by decide +kernel
theorem d_J_verdict_0 : decode b_J_verdict 0 = .ok (.aload_n 0, 1) := by decide +kernel
theorem d_J_verdict_1 : decode b_J_verdict 1 = .ok (.getfield 19, 3) := by decide +kernel
theorem d_J_verdict_4 : decode b_J_verdict 4 = .ok (.aload_n 0, 1) := by decide +kernel
theorem d_J_verdict_5 : decode b_J_verdict 5 = .ok (.getfield 12, 3) := by decide +kernel
theorem d_J_verdict_8 : decode b_J_verdict 8 = .ok (.iconst 0, 1) := by decide +kernel
theorem d_J_verdict_9 : decode b_J_verdict 9 = .ok (.aaload, 1) := by decide +kernel
theorem d_J_verdict_10 : decode b_J_verdict 10 = .ok (.aload_n 0, 1) := by decide +kernel
theorem d_J_verdict_11 : decode b_J_verdict 11 = .ok (.getfield 12, 3) := by decide +kernel
theorem d_J_verdict_14 : decode b_J_verdict 14 = .ok (.iconst 1, 1) := by decide +kernel
theorem d_J_verdict_15 : decode b_J_verdict 15 = .ok (.aaload, 1) := by decide +kernel
theorem d_J_verdict_16 : decode b_J_verdict 16 = .ok (.invokevirtual 132, 3) := by decide +kernel
theorem d_J_verdict_19 : decode b_J_verdict 19 = .ok (.iconst 0, 1) := by decide +kernel
theorem d_J_verdict_20 : decode b_J_verdict 20 = .ok (.istore_n 1, 1) := by decide +kernel
theorem d_J_verdict_21 : decode b_J_verdict 21 = .ok (.iconst 0, 1) := by decide +kernel
theorem d_J_verdict_22 : decode b_J_verdict 22 = .ok (.istore_n 2, 1) := by decide +kernel
theorem d_J_verdict_23 : decode b_J_verdict 23 = .ok (.iload_n 2, 1) := by decide +kernel
theorem d_J_verdict_24 : decode b_J_verdict 24 = .ok (.aload_n 0, 1) := by decide +kernel
theorem d_J_verdict_25 : decode b_J_verdict 25 = .ok (.getfield 19, 3) := by decide +kernel
theorem d_J_verdict_28 : decode b_J_verdict 28 = .ok (.getfield 136, 3) := by decide +kernel
theorem d_J_verdict_31 : decode b_J_verdict 31 = .ok (.if_icmp .ge 46, 3) := by decide +kernel
theorem d_J_verdict_34 : decode b_J_verdict 34 = .ok (.aload_n 0, 1) := by decide +kernel
theorem d_J_verdict_35 : decode b_J_verdict 35 = .ok (.getfield 19, 3) := by decide +kernel
theorem d_J_verdict_38 : decode b_J_verdict 38 = .ok (.getfield 139, 3) := by decide +kernel
theorem d_J_verdict_41 : decode b_J_verdict 41 = .ok (.iload_n 2, 1) := by decide +kernel
theorem d_J_verdict_42 : decode b_J_verdict 42 = .ok (.iaload, 1) := by decide +kernel
theorem d_J_verdict_43 : decode b_J_verdict 43 = .ok (.istore_n 3, 1) := by decide +kernel
theorem d_J_verdict_44 : decode b_J_verdict 44 = .ok (.aload_n 0, 1) := by decide +kernel
theorem d_J_verdict_45 : decode b_J_verdict 45 = .ok (.iload_n 3, 1) := by decide +kernel
theorem d_J_verdict_46 : decode b_J_verdict 46 = .ok (.aload_n 0, 1) := by decide +kernel
theorem d_J_verdict_47 : decode b_J_verdict 47 = .ok (.getfield 19, 3) := by decide +kernel
theorem d_J_verdict_50 : decode b_J_verdict 50 = .ok (.getfield 142, 3) := by decide +kernel
theorem d_J_verdict_53 : decode b_J_verdict 53 = .ok (.iload_n 2, 1) := by decide +kernel
theorem d_J_verdict_54 : decode b_J_verdict 54 = .ok (.iaload, 1) := by decide +kernel
theorem d_J_verdict_55 : decode b_J_verdict 55 = .ok (.invokevirtual 122, 3) := by decide +kernel
theorem d_J_verdict_58 : decode b_J_verdict 58 = .ok (.ifCond .ne 13, 3) := by decide +kernel
theorem d_J_verdict_61 : decode b_J_verdict 61 = .ok (.iload_n 1, 1) := by decide +kernel
theorem d_J_verdict_62 : decode b_J_verdict 62 = .ok (.getstatic 147, 3) := by decide +kernel
theorem d_J_verdict_65 : decode b_J_verdict 65 = .ok (.iload_n 3, 1) := by decide +kernel
theorem d_J_verdict_66 : decode b_J_verdict 66 = .ok (.iaload, 1) := by decide +kernel
theorem d_J_verdict_67 : decode b_J_verdict 67 = .ok (.invokestatic 150, 3) := by decide +kernel
theorem d_J_verdict_70 : decode b_J_verdict 70 = .ok (.istore_n 1, 1) := by decide +kernel
theorem d_J_verdict_71 : decode b_J_verdict 71 = .ok (.iinc 2 1, 3) := by decide +kernel
theorem d_J_verdict_74 : decode b_J_verdict 74 = .ok (.goto (-51), 3) := by decide +kernel
theorem d_J_verdict_77 : decode b_J_verdict 77 = .ok (.iload_n 1, 1) := by decide +kernel
theorem d_J_verdict_78 : decode b_J_verdict 78 = .ok (.ireturn, 1) := by decide +kernel
theorem d_J_byRule_0 : decode b_J_byRule 0 = .ok (.iload_n 1, 1) := by decide +kernel
theorem d_J_byRule_1 : decode b_J_byRule 1 = .ok (.bipush 14, 2) := by decide +kernel
theorem d_J_byRule_3 : decode b_J_byRule 3 = .ok (.invokestatic 31, 3) := by decide +kernel
theorem d_J_byRule_6 : decode b_J_byRule 6 = .ok (.ifCond .ne 5, 3) := by decide +kernel
theorem d_J_byRule_9 : decode b_J_byRule 9 = .ok (.iconst (-1), 1) := by decide +kernel
theorem d_J_byRule_10 : decode b_J_byRule 10 = .ok (.ireturn, 1) := by decide +kernel
theorem d_J_byRule_11 : decode b_J_byRule 11 = .ok (.aload_n 0, 1) := by decide +kernel
theorem d_J_byRule_12 : decode b_J_byRule 12 = .ok (.getfield 19, 3) := by decide +kernel
theorem d_J_byRule_15 : decode b_J_byRule 15 = .ok (.aload_n 0, 1) := by decide +kernel
theorem d_J_byRule_16 : decode b_J_byRule 16 = .ok (.getfield 12, 3) := by decide +kernel
theorem d_J_byRule_19 : decode b_J_byRule 19 = .ok (.iconst 0, 1) := by decide +kernel
theorem d_J_byRule_20 : decode b_J_byRule 20 = .ok (.aaload, 1) := by decide +kernel
theorem d_J_byRule_21 : decode b_J_byRule 21 = .ok (.aload_n 0, 1) := by decide +kernel
theorem d_J_byRule_22 : decode b_J_byRule 22 = .ok (.getfield 12, 3) := by decide +kernel
theorem d_J_byRule_25 : decode b_J_byRule 25 = .ok (.iconst 1, 1) := by decide +kernel
theorem d_J_byRule_26 : decode b_J_byRule 26 = .ok (.aaload, 1) := by decide +kernel
theorem d_J_byRule_27 : decode b_J_byRule 27 = .ok (.invokevirtual 132, 3) := by decide +kernel
theorem d_J_byRule_30 : decode b_J_byRule 30 = .ok (.iconst 0, 1) := by decide +kernel
theorem d_J_byRule_31 : decode b_J_byRule 31 = .ok (.istore_n 2, 1) := by decide +kernel
theorem d_J_byRule_32 : decode b_J_byRule 32 = .ok (.iconst 0, 1) := by decide +kernel
theorem d_J_byRule_33 : decode b_J_byRule 33 = .ok (.istore_n 3, 1) := by decide +kernel
theorem d_J_byRule_34 : decode b_J_byRule 34 = .ok (.iload_n 3, 1) := by decide +kernel
theorem d_J_byRule_35 : decode b_J_byRule 35 = .ok (.aload_n 0, 1) := by decide +kernel
theorem d_J_byRule_36 : decode b_J_byRule 36 = .ok (.getfield 19, 3) := by decide +kernel
theorem d_J_byRule_39 : decode b_J_byRule 39 = .ok (.getfield 136, 3) := by decide +kernel
theorem d_J_byRule_42 : decode b_J_byRule 42 = .ok (.if_icmp .ge 42, 3) := by decide +kernel
theorem d_J_byRule_45 : decode b_J_byRule 45 = .ok (.aload_n 0, 1) := by decide +kernel
theorem d_J_byRule_46 : decode b_J_byRule 46 = .ok (.getfield 19, 3) := by decide +kernel
theorem d_J_byRule_49 : decode b_J_byRule 49 = .ok (.getfield 139, 3) := by decide +kernel
theorem d_J_byRule_52 : decode b_J_byRule 52 = .ok (.iload_n 3, 1) := by decide +kernel
theorem d_J_byRule_53 : decode b_J_byRule 53 = .ok (.iaload, 1) := by decide +kernel
theorem d_J_byRule_54 : decode b_J_byRule 54 = .ok (.iload_n 1, 1) := by decide +kernel
theorem d_J_byRule_55 : decode b_J_byRule 55 = .ok (.if_icmp .ne 23, 3) := by decide +kernel
theorem d_J_byRule_58 : decode b_J_byRule 58 = .ok (.aload_n 0, 1) := by decide +kernel
theorem d_J_byRule_59 : decode b_J_byRule 59 = .ok (.iload_n 1, 1) := by decide +kernel
theorem d_J_byRule_60 : decode b_J_byRule 60 = .ok (.aload_n 0, 1) := by decide +kernel
theorem d_J_byRule_61 : decode b_J_byRule 61 = .ok (.getfield 19, 3) := by decide +kernel
theorem d_J_byRule_64 : decode b_J_byRule 64 = .ok (.getfield 142, 3) := by decide +kernel
theorem d_J_byRule_67 : decode b_J_byRule 67 = .ok (.iload_n 3, 1) := by decide +kernel
theorem d_J_byRule_68 : decode b_J_byRule 68 = .ok (.iaload, 1) := by decide +kernel
theorem d_J_byRule_69 : decode b_J_byRule 69 = .ok (.invokevirtual 122, 3) := by decide +kernel
theorem d_J_byRule_72 : decode b_J_byRule 72 = .ok (.ifCond .ne 6, 3) := by decide +kernel
theorem d_J_byRule_75 : decode b_J_byRule 75 = .ok (.iinc 2 1, 3) := by decide +kernel
theorem d_J_byRule_78 : decode b_J_byRule 78 = .ok (.iinc 3 1, 3) := by decide +kernel
theorem d_J_byRule_81 : decode b_J_byRule 81 = .ok (.goto (-47), 3) := by decide +kernel
theorem d_J_byRule_84 : decode b_J_byRule 84 = .ok (.iload_n 2, 1) := by decide +kernel
theorem d_J_byRule_85 : decode b_J_byRule 85 = .ok (.ireturn, 1) := by decide +kernel
theorem d_J_count_0 : decode b_J_count 0 = .ok (.iload_n 1, 1) := by decide +kernel
theorem d_J_count_1 : decode b_J_count 1 = .ok (.tableswitch 80 0 4 #[35, 45, 55, 65, 75], 35) := by decide +kernel
theorem d_J_count_36 : decode b_J_count 36 = .ok (.aload_n 0, 1) := by decide +kernel
theorem d_J_count_37 : decode b_J_count 37 = .ok (.getfield 12, 3) := by decide +kernel
theorem d_J_count_40 : decode b_J_count 40 = .ok (.iconst 0, 1) := by decide +kernel
theorem d_J_count_41 : decode b_J_count 41 = .ok (.aaload, 1) := by decide +kernel
theorem d_J_count_42 : decode b_J_count 42 = .ok (.invokevirtual 118, 3) := by decide +kernel
theorem d_J_count_45 : decode b_J_count 45 = .ok (.ireturn, 1) := by decide +kernel
theorem d_J_count_46 : decode b_J_count 46 = .ok (.aload_n 0, 1) := by decide +kernel
theorem d_J_count_47 : decode b_J_count 47 = .ok (.getfield 12, 3) := by decide +kernel
theorem d_J_count_50 : decode b_J_count 50 = .ok (.iconst 1, 1) := by decide +kernel
theorem d_J_count_51 : decode b_J_count 51 = .ok (.aaload, 1) := by decide +kernel
theorem d_J_count_52 : decode b_J_count 52 = .ok (.invokevirtual 118, 3) := by decide +kernel
theorem d_J_count_55 : decode b_J_count 55 = .ok (.ireturn, 1) := by decide +kernel
theorem d_J_count_56 : decode b_J_count 56 = .ok (.aload_n 0, 1) := by decide +kernel
theorem d_J_count_57 : decode b_J_count 57 = .ok (.getfield 12, 3) := by decide +kernel
theorem d_J_count_60 : decode b_J_count 60 = .ok (.iconst 0, 1) := by decide +kernel
theorem d_J_count_61 : decode b_J_count 61 = .ok (.aaload, 1) := by decide +kernel
theorem d_J_count_62 : decode b_J_count 62 = .ok (.invokevirtual 156, 3) := by decide +kernel
theorem d_J_count_65 : decode b_J_count 65 = .ok (.ireturn, 1) := by decide +kernel
theorem d_J_count_66 : decode b_J_count 66 = .ok (.aload_n 0, 1) := by decide +kernel
theorem d_J_count_67 : decode b_J_count 67 = .ok (.getfield 12, 3) := by decide +kernel
theorem d_J_count_70 : decode b_J_count 70 = .ok (.iconst 1, 1) := by decide +kernel
theorem d_J_count_71 : decode b_J_count 71 = .ok (.aaload, 1) := by decide +kernel
theorem d_J_count_72 : decode b_J_count 72 = .ok (.invokevirtual 156, 3) := by decide +kernel
theorem d_J_count_75 : decode b_J_count 75 = .ok (.ireturn, 1) := by decide +kernel
theorem d_J_count_76 : decode b_J_count 76 = .ok (.aload_n 0, 1) := by decide +kernel
theorem d_J_count_77 : decode b_J_count 77 = .ok (.invokevirtual 158, 3) := by decide +kernel
theorem d_J_count_80 : decode b_J_count 80 = .ok (.ireturn, 1) := by decide +kernel
theorem d_J_count_81 : decode b_J_count 81 = .ok (.iconst (-1), 1) := by decide +kernel
theorem d_J_count_82 : decode b_J_count 82 = .ok (.ireturn, 1) := by decide +kernel
theorem d_J_isSuppressed_0 : decode b_J_isSuppressed 0 = .ok (.aload_n 0, 1) := by decide +kernel
theorem d_J_isSuppressed_1 : decode b_J_isSuppressed 1 = .ok (.getfield 23, 3) := by decide +kernel
theorem d_J_isSuppressed_4 : decode b_J_isSuppressed 4 = .ok (.iload_n 1, 1) := by decide +kernel
theorem d_J_isSuppressed_5 : decode b_J_isSuppressed 5 = .ok (.iaload, 1) := by decide +kernel
theorem d_J_isSuppressed_6 : decode b_J_isSuppressed 6 = .ok (.iload_n 2, 1) := by decide +kernel
theorem d_J_isSuppressed_7 : decode b_J_isSuppressed 7 = .ok (.invokestatic 161, 3) := by decide +kernel
theorem d_J_isSuppressed_10 : decode b_J_isSuppressed 10 = .ok (.ireturn, 1) := by decide +kernel
theorem d_J_suppressionCount_0 : decode b_J_suppressionCount 0 = .ok (.iconst 0, 1) := by decide +kernel
theorem d_J_suppressionCount_1 : decode b_J_suppressionCount 1 = .ok (.istore_n 1, 1) := by decide +kernel
theorem d_J_suppressionCount_2 : decode b_J_suppressionCount 2 = .ok (.iconst 0, 1) := by decide +kernel
theorem d_J_suppressionCount_3 : decode b_J_suppressionCount 3 = .ok (.istore_n 2, 1) := by decide +kernel
theorem d_J_suppressionCount_4 : decode b_J_suppressionCount 4 = .ok (.iload_n 2, 1) := by decide +kernel
theorem d_J_suppressionCount_5 : decode b_J_suppressionCount 5 = .ok (.bipush 14, 2) := by decide +kernel
theorem d_J_suppressionCount_7 : decode b_J_suppressionCount 7 = .ok (.if_icmp .ge 21, 3) := by decide +kernel
theorem d_J_suppressionCount_10 : decode b_J_suppressionCount 10 = .ok (.iload_n 1, 1) := by decide +kernel
theorem d_J_suppressionCount_11 : decode b_J_suppressionCount 11 = .ok (.aload_n 0, 1) := by decide +kernel
theorem d_J_suppressionCount_12 : decode b_J_suppressionCount 12 = .ok (.getfield 23, 3) := by decide +kernel
theorem d_J_suppressionCount_15 : decode b_J_suppressionCount 15 = .ok (.iload_n 2, 1) := by decide +kernel
theorem d_J_suppressionCount_16 : decode b_J_suppressionCount 16 = .ok (.iaload, 1) := by decide +kernel
theorem d_J_suppressionCount_17 : decode b_J_suppressionCount 17 = .ok (.invokestatic 164, 3) := by decide +kernel
theorem d_J_suppressionCount_20 : decode b_J_suppressionCount 20 = .ok (.iadd, 1) := by decide +kernel
theorem d_J_suppressionCount_21 : decode b_J_suppressionCount 21 = .ok (.istore_n 1, 1) := by decide +kernel
theorem d_J_suppressionCount_22 : decode b_J_suppressionCount 22 = .ok (.iinc 2 1, 3) := by decide +kernel
theorem d_J_suppressionCount_25 : decode b_J_suppressionCount 25 = .ok (.goto (-21), 3) := by decide +kernel
theorem d_J_suppressionCount_28 : decode b_J_suppressionCount 28 = .ok (.iload_n 1, 1) := by decide +kernel
theorem d_J_suppressionCount_29 : decode b_J_suppressionCount 29 = .ok (.ireturn, 1) := by decide +kernel
theorem d_J_isMemberOf_0 : decode b_J_isMemberOf 0 = .ok (.iload_n 1, 1) := by decide +kernel
theorem d_J_isMemberOf_1 : decode b_J_isMemberOf 1 = .ok (.iload_n 2, 1) := by decide +kernel
theorem d_J_isMemberOf_2 : decode b_J_isMemberOf 2 = .ok (.invokestatic 27, 3) := by decide +kernel
theorem d_J_isMemberOf_5 : decode b_J_isMemberOf 5 = .ok (.ifCond .eq 28, 3) := by decide +kernel
theorem d_J_isMemberOf_8 : decode b_J_isMemberOf 8 = .ok (.iload_n 3, 1) := by decide +kernel
theorem d_J_isMemberOf_9 : decode b_J_isMemberOf 9 = .ok (.aload_n 0, 1) := by decide +kernel
theorem d_J_isMemberOf_10 : decode b_J_isMemberOf 10 = .ok (.getfield 12, 3) := by decide +kernel
theorem d_J_isMemberOf_13 : decode b_J_isMemberOf 13 = .ok (.iload_n 1, 1) := by decide +kernel
theorem d_J_isMemberOf_14 : decode b_J_isMemberOf 14 = .ok (.aaload, 1) := by decide +kernel
theorem d_J_isMemberOf_15 : decode b_J_isMemberOf 15 = .ok (.getfield 34, 3) := by decide +kernel
theorem d_J_isMemberOf_18 : decode b_J_isMemberOf 18 = .ok (.iload_n 2, 1) := by decide +kernel
theorem d_J_isMemberOf_19 : decode b_J_isMemberOf 19 = .ok (.aaload, 1) := by decide +kernel
theorem d_J_isMemberOf_20 : decode b_J_isMemberOf 20 = .ok (.getfield 73, 3) := by decide +kernel
theorem d_J_isMemberOf_23 : decode b_J_isMemberOf 23 = .ok (.invokestatic 31, 3) := by decide +kernel
theorem d_J_isMemberOf_26 : decode b_J_isMemberOf 26 = .ok (.ifCond .eq 7, 3) := by decide +kernel
theorem d_J_isMemberOf_29 : decode b_J_isMemberOf 29 = .ok (.iconst 1, 1) := by decide +kernel
theorem d_J_isMemberOf_30 : decode b_J_isMemberOf 30 = .ok (.goto 4, 3) := by decide +kernel
theorem d_J_isMemberOf_33 : decode b_J_isMemberOf 33 = .ok (.iconst 0, 1) := by decide +kernel
theorem d_J_isMemberOf_34 : decode b_J_isMemberOf 34 = .ok (.ireturn, 1) := by decide +kernel
theorem d_J_isTypeOf_0 : decode b_J_isTypeOf 0 = .ok (.iload_n 0, 1) := by decide +kernel
theorem d_J_isTypeOf_1 : decode b_J_isTypeOf 1 = .ok (.iconst 2, 1) := by decide +kernel
theorem d_J_isTypeOf_2 : decode b_J_isTypeOf 2 = .ok (.invokestatic 31, 3) := by decide +kernel
theorem d_J_isTypeOf_5 : decode b_J_isTypeOf 5 = .ok (.ifCond .eq 16, 3) := by decide +kernel
theorem d_J_isTypeOf_8 : decode b_J_isTypeOf 8 = .ok (.iload_n 1, 1) := by decide +kernel
theorem d_J_isTypeOf_9 : decode b_J_isTypeOf 9 = .ok (.bipush 12, 2) := by decide +kernel
theorem d_J_isTypeOf_11 : decode b_J_isTypeOf 11 = .ok (.invokestatic 31, 3) := by decide +kernel
theorem d_J_isTypeOf_14 : decode b_J_isTypeOf 14 = .ok (.ifCond .eq 7, 3) := by decide +kernel
theorem d_J_isTypeOf_17 : decode b_J_isTypeOf 17 = .ok (.iconst 1, 1) := by decide +kernel
theorem d_J_isTypeOf_18 : decode b_J_isTypeOf 18 = .ok (.goto 4, 3) := by decide +kernel
theorem d_J_isTypeOf_21 : decode b_J_isTypeOf 21 = .ok (.iconst 0, 1) := by decide +kernel
theorem d_J_isTypeOf_22 : decode b_J_isTypeOf 22 = .ok (.ireturn, 1) := by decide +kernel
theorem d_J_isKey_0 : decode b_J_isKey 0 = .ok (.iload_n 0, 1) := by decide +kernel
theorem d_J_isKey_1 : decode b_J_isKey 1 = .ok (.iconst 3, 1) := by decide +kernel
theorem d_J_isKey_2 : decode b_J_isKey 2 = .ok (.invokestatic 31, 3) := by decide +kernel
theorem d_J_isKey_5 : decode b_J_isKey 5 = .ok (.ifCond .eq 19, 3) := by decide +kernel
theorem d_J_isKey_8 : decode b_J_isKey 8 = .ok (.iload_n 1, 1) := by decide +kernel
theorem d_J_isKey_9 : decode b_J_isKey 9 = .ok (.getstatic 170, 3) := by decide +kernel
theorem d_J_isKey_12 : decode b_J_isKey 12 = .ok (.iload_n 0, 1) := by decide +kernel
theorem d_J_isKey_13 : decode b_J_isKey 13 = .ok (.iaload, 1) := by decide +kernel
theorem d_J_isKey_14 : decode b_J_isKey 14 = .ok (.invokestatic 31, 3) := by decide +kernel
theorem d_J_isKey_17 : decode b_J_isKey 17 = .ok (.ifCond .eq 7, 3) := by decide +kernel
theorem d_J_isKey_20 : decode b_J_isKey 20 = .ok (.iconst 1, 1) := by decide +kernel
theorem d_J_isKey_21 : decode b_J_isKey 21 = .ok (.goto 4, 3) := by decide +kernel
theorem d_J_isKey_24 : decode b_J_isKey 24 = .ok (.iconst 0, 1) := by decide +kernel
theorem d_J_isKey_25 : decode b_J_isKey 25 = .ok (.ireturn, 1) := by decide +kernel
theorem d_J_isWithin_0 : decode b_J_isWithin 0 = .ok (.iload_n 0, 1) := by decide +kernel
theorem d_J_isWithin_1 : decode b_J_isWithin 1 = .ok (.ifCond .lt 12, 3) := by decide +kernel
theorem d_J_isWithin_4 : decode b_J_isWithin 4 = .ok (.iload_n 0, 1) := by decide +kernel
theorem d_J_isWithin_5 : decode b_J_isWithin 5 = .ok (.iload_n 1, 1) := by decide +kernel
theorem d_J_isWithin_6 : decode b_J_isWithin 6 = .ok (.if_icmp .ge 7, 3) := by decide +kernel
theorem d_J_isWithin_9 : decode b_J_isWithin 9 = .ok (.iconst 1, 1) := by decide +kernel
theorem d_J_isWithin_10 : decode b_J_isWithin 10 = .ok (.goto 4, 3) := by decide +kernel
theorem d_J_isWithin_13 : decode b_J_isWithin 13 = .ok (.iconst 0, 1) := by decide +kernel
theorem d_J_isWithin_14 : decode b_J_isWithin 14 = .ok (.ireturn, 1) := by decide +kernel
theorem d_J_contains_0 : decode b_J_contains 0 = .ok (.iload_n 0, 1) := by decide +kernel
theorem d_J_contains_1 : decode b_J_contains 1 = .ok (.iload_n 1, 1) := by decide +kernel
theorem d_J_contains_2 : decode b_J_contains 2 = .ok (.ishr, 1) := by decide +kernel
theorem d_J_contains_3 : decode b_J_contains 3 = .ok (.iconst 1, 1) := by decide +kernel
theorem d_J_contains_4 : decode b_J_contains 4 = .ok (.iand, 1) := by decide +kernel
theorem d_J_contains_5 : decode b_J_contains 5 = .ok (.ifCond .eq 7, 3) := by decide +kernel
theorem d_J_contains_8 : decode b_J_contains 8 = .ok (.iconst 1, 1) := by decide +kernel
theorem d_J_contains_9 : decode b_J_contains 9 = .ok (.goto 4, 3) := by decide +kernel
theorem d_J_contains_12 : decode b_J_contains 12 = .ok (.iconst 0, 1) := by decide +kernel
theorem d_J_contains_13 : decode b_J_contains 13 = .ok (.ireturn, 1) := by decide +kernel
theorem d_J_isTypeAllowed_0 : decode b_J_isTypeAllowed 0 = .ok (.iload_n 1, 1) := by decide +kernel
theorem d_J_isTypeAllowed_1 : decode b_J_isTypeAllowed 1 = .ok (.iconst 2, 1) := by decide +kernel
theorem d_J_isTypeAllowed_2 : decode b_J_isTypeAllowed 2 = .ok (.iand, 1) := by decide +kernel
theorem d_J_isTypeAllowed_3 : decode b_J_isTypeAllowed 3 = .ok (.ifCond .eq 7, 3) := by decide +kernel
theorem d_J_isTypeAllowed_6 : decode b_J_isTypeAllowed 6 = .ok (.iconst 1, 1) := by decide +kernel
theorem d_J_isTypeAllowed_7 : decode b_J_isTypeAllowed 7 = .ok (.goto 4, 3) := by decide +kernel
theorem d_J_isTypeAllowed_10 : decode b_J_isTypeAllowed 10 = .ok (.iconst 0, 1) := by decide +kernel
theorem d_J_isTypeAllowed_11 : decode b_J_isTypeAllowed 11 = .ok (.istore_n 3, 1) := by decide +kernel
theorem d_J_isTypeAllowed_12 : decode b_J_isTypeAllowed 12 = .ok (.iload_n 1, 1) := by decide +kernel
theorem d_J_isTypeAllowed_13 : decode b_J_isTypeAllowed 13 = .ok (.iconst 4, 1) := by decide +kernel
theorem d_J_isTypeAllowed_14 : decode b_J_isTypeAllowed 14 = .ok (.iand, 1) := by decide +kernel
theorem d_J_isTypeAllowed_15 : decode b_J_isTypeAllowed 15 = .ok (.ifCond .eq 7, 3) := by decide +kernel
theorem d_J_isTypeAllowed_18 : decode b_J_isTypeAllowed 18 = .ok (.iconst 1, 1) := by decide +kernel
theorem d_J_isTypeAllowed_19 : decode b_J_isTypeAllowed 19 = .ok (.goto 4, 3) := by decide +kernel
theorem d_J_isTypeAllowed_22 : decode b_J_isTypeAllowed 22 = .ok (.iconst 0, 1) := by decide +kernel
theorem d_J_isTypeAllowed_23 : decode b_J_isTypeAllowed 23 = .ok (.istore 4, 2) := by decide +kernel
theorem d_J_isTypeAllowed_25 : decode b_J_isTypeAllowed 25 = .ok (.iload_n 0, 1) := by decide +kernel
theorem d_J_isTypeAllowed_26 : decode b_J_isTypeAllowed 26 = .ok (.iconst 1, 1) := by decide +kernel
theorem d_J_isTypeAllowed_27 : decode b_J_isTypeAllowed 27 = .ok (.if_icmp .ne 23, 3) := by decide +kernel
theorem d_J_isTypeAllowed_30 : decode b_J_isTypeAllowed 30 = .ok (.iload_n 3, 1) := by decide +kernel
theorem d_J_isTypeAllowed_31 : decode b_J_isTypeAllowed 31 = .ok (.ifCond .ne 17, 3) := by decide +kernel
theorem d_J_isTypeAllowed_34 : decode b_J_isTypeAllowed 34 = .ok (.iload 4, 2) := by decide +kernel
theorem d_J_isTypeAllowed_36 : decode b_J_isTypeAllowed 36 = .ok (.ifCond .ne 12, 3) := by decide +kernel
theorem d_J_isTypeAllowed_39 : decode b_J_isTypeAllowed 39 = .ok (.iload_n 2, 1) := by decide +kernel
theorem d_J_isTypeAllowed_40 : decode b_J_isTypeAllowed 40 = .ok (.iconst (-1), 1) := by decide +kernel
theorem d_J_isTypeAllowed_41 : decode b_J_isTypeAllowed 41 = .ok (.if_icmp .ne 7, 3) := by decide +kernel
theorem d_J_isTypeAllowed_44 : decode b_J_isTypeAllowed 44 = .ok (.iconst 1, 1) := by decide +kernel
theorem d_J_isTypeAllowed_45 : decode b_J_isTypeAllowed 45 = .ok (.goto 4, 3) := by decide +kernel
theorem d_J_isTypeAllowed_48 : decode b_J_isTypeAllowed 48 = .ok (.iconst 0, 1) := by decide +kernel
theorem d_J_isTypeAllowed_49 : decode b_J_isTypeAllowed 49 = .ok (.ireturn, 1) := by decide +kernel
theorem d_J_isTypeAllowed_50 : decode b_J_isTypeAllowed 50 = .ok (.iload_n 3, 1) := by decide +kernel
theorem d_J_isTypeAllowed_51 : decode b_J_isTypeAllowed 51 = .ok (.ifCond .eq 8, 3) := by decide +kernel
theorem d_J_isTypeAllowed_54 : decode b_J_isTypeAllowed 54 = .ok (.iload 4, 2) := by decide +kernel
theorem d_J_isTypeAllowed_56 : decode b_J_isTypeAllowed 56 = .ok (.ifCond .ne 7, 3) := by decide +kernel
theorem d_J_isTypeAllowed_59 : decode b_J_isTypeAllowed 59 = .ok (.iconst 1, 1) := by decide +kernel
theorem d_J_isTypeAllowed_60 : decode b_J_isTypeAllowed 60 = .ok (.goto 4, 3) := by decide +kernel
theorem d_J_isTypeAllowed_63 : decode b_J_isTypeAllowed 63 = .ok (.iconst 0, 1) := by decide +kernel
theorem d_J_isTypeAllowed_64 : decode b_J_isTypeAllowed 64 = .ok (.ireturn, 1) := by decide +kernel
theorem d_J_isMemberAllowed_0 : decode b_J_isMemberAllowed 0 = .ok (.iload_n 1, 1) := by decide +kernel
theorem d_J_isMemberAllowed_1 : decode b_J_isMemberAllowed 1 = .ok (.bipush 16, 2) := by decide +kernel
theorem d_J_isMemberAllowed_3 : decode b_J_isMemberAllowed 3 = .ok (.iand, 1) := by decide +kernel
theorem d_J_isMemberAllowed_4 : decode b_J_isMemberAllowed 4 = .ok (.ifCond .eq 7, 3) := by decide +kernel
theorem d_J_isMemberAllowed_7 : decode b_J_isMemberAllowed 7 = .ok (.iconst 1, 1) := by decide +kernel
theorem d_J_isMemberAllowed_8 : decode b_J_isMemberAllowed 8 = .ok (.goto 4, 3) := by decide +kernel
theorem d_J_isMemberAllowed_11 : decode b_J_isMemberAllowed 11 = .ok (.iconst 0, 1) := by decide +kernel
theorem d_J_isMemberAllowed_12 : decode b_J_isMemberAllowed 12 = .ok (.istore_n 2, 1) := by decide +kernel
theorem d_J_isMemberAllowed_13 : decode b_J_isMemberAllowed 13 = .ok (.iload_n 2, 1) := by decide +kernel
theorem d_J_isMemberAllowed_14 : decode b_J_isMemberAllowed 14 = .ok (.ifCond .eq 23, 3) := by decide +kernel
theorem d_J_isMemberAllowed_17 : decode b_J_isMemberAllowed 17 = .ok (.iload_n 0, 1) := by decide +kernel
theorem d_J_isMemberAllowed_18 : decode b_J_isMemberAllowed 18 = .ok (.iconst 1, 1) := by decide +kernel
theorem d_J_isMemberAllowed_19 : decode b_J_isMemberAllowed 19 = .ok (.if_icmp .ne 16, 3) := by decide +kernel
theorem d_J_isMemberAllowed_22 : decode b_J_isMemberAllowed 22 = .ok (.iload_n 1, 1) := by decide +kernel
theorem d_J_isMemberAllowed_23 : decode b_J_isMemberAllowed 23 = .ok (.bipush 12, 2) := by decide +kernel
theorem d_J_isMemberAllowed_25 : decode b_J_isMemberAllowed 25 = .ok (.iand, 1) := by decide +kernel
theorem d_J_isMemberAllowed_26 : decode b_J_isMemberAllowed 26 = .ok (.ifCond .ne 9, 3) := by decide +kernel
theorem d_J_isMemberAllowed_29 : decode b_J_isMemberAllowed 29 = .ok (.iload_n 1, 1) := by decide +kernel
theorem d_J_isMemberAllowed_30 : decode b_J_isMemberAllowed 30 = .ok (.iconst 3, 1) := by decide +kernel
theorem d_J_isMemberAllowed_31 : decode b_J_isMemberAllowed 31 = .ok (.iand, 1) := by decide +kernel
theorem d_J_isMemberAllowed_32 : decode b_J_isMemberAllowed 32 = .ok (.ifCond .ne 5, 3) := by decide +kernel
theorem d_J_isMemberAllowed_35 : decode b_J_isMemberAllowed 35 = .ok (.iconst 0, 1) := by decide +kernel
theorem d_J_isMemberAllowed_36 : decode b_J_isMemberAllowed 36 = .ok (.ireturn, 1) := by decide +kernel
theorem d_J_isMemberAllowed_37 : decode b_J_isMemberAllowed 37 = .ok (.iload_n 0, 1) := by decide +kernel
theorem d_J_isMemberAllowed_38 : decode b_J_isMemberAllowed 38 = .ok (.iconst 2, 1) := by decide +kernel
theorem d_J_isMemberAllowed_39 : decode b_J_isMemberAllowed 39 = .ok (.if_icmp .ne 10, 3) := by decide +kernel
theorem d_J_isMemberAllowed_42 : decode b_J_isMemberAllowed 42 = .ok (.iload_n 1, 1) := by decide +kernel
theorem d_J_isMemberAllowed_43 : decode b_J_isMemberAllowed 43 = .ok (.bipush 12, 2) := by decide +kernel
theorem d_J_isMemberAllowed_45 : decode b_J_isMemberAllowed 45 = .ok (.iand, 1) := by decide +kernel
theorem d_J_isMemberAllowed_46 : decode b_J_isMemberAllowed 46 = .ok (.ifCond .ne 7, 3) := by decide +kernel
theorem d_J_isMemberAllowed_49 : decode b_J_isMemberAllowed 49 = .ok (.iconst 1, 1) := by decide +kernel
theorem d_J_isMemberAllowed_50 : decode b_J_isMemberAllowed 50 = .ok (.goto 4, 3) := by decide +kernel
theorem d_J_isMemberAllowed_53 : decode b_J_isMemberAllowed 53 = .ok (.iconst 0, 1) := by decide +kernel
theorem d_J_isMemberAllowed_54 : decode b_J_isMemberAllowed 54 = .ok (.ireturn, 1) := by decide +kernel
theorem d_J_isAllowedInInterface_0 : decode b_J_isAllowedInInterface 0 = .ok (.iload_n 1, 1) := by decide +kernel
theorem d_J_isAllowedInInterface_1 : decode b_J_isAllowedInInterface 1 = .ok (.iconst 3, 1) := by decide +kernel
theorem d_J_isAllowedInInterface_2 : decode b_J_isAllowedInInterface 2 = .ok (.iand, 1) := by decide +kernel
theorem d_J_isAllowedInInterface_3 : decode b_J_isAllowedInInterface 3 = .ok (.istore_n 2, 1) := by decide +kernel
theorem d_J_isAllowedInInterface_4 : decode b_J_isAllowedInInterface 4 = .ok (.iload_n 0, 1) := by decide +kernel
theorem d_J_isAllowedInInterface_5 : decode b_J_isAllowedInInterface 5 = .ok (.ifCond .ne 27, 3) := by decide +kernel
theorem d_J_isAllowedInInterface_8 : decode b_J_isAllowedInInterface 8 = .ok (.iload_n 2, 1) := by decide +kernel
theorem d_J_isAllowedInInterface_9 : decode b_J_isAllowedInInterface 9 = .ok (.iconst 3, 1) := by decide +kernel
theorem d_J_isAllowedInInterface_10 : decode b_J_isAllowedInInterface 10 = .ok (.if_icmp .ne 20, 3) := by decide +kernel
theorem d_J_isAllowedInInterface_13 : decode b_J_isAllowedInInterface 13 = .ok (.iload_n 1, 1) := by decide +kernel
theorem d_J_isAllowedInInterface_14 : decode b_J_isAllowedInInterface 14 = .ok (.iconst 4, 1) := by decide +kernel
theorem d_J_isAllowedInInterface_15 : decode b_J_isAllowedInInterface 15 = .ok (.iand, 1) := by decide +kernel
theorem d_J_isAllowedInInterface_16 : decode b_J_isAllowedInInterface 16 = .ok (.ifCond .eq 14, 3) := by decide +kernel
theorem d_J_isAllowedInInterface_19 : decode b_J_isAllowedInInterface 19 = .ok (.iload_n 1, 1) := by decide +kernel
theorem d_J_isAllowedInInterface_20 : decode b_J_isAllowedInInterface 20 = .ok (.bipush 8, 2) := by decide +kernel
theorem d_J_isAllowedInInterface_22 : decode b_J_isAllowedInInterface 22 = .ok (.iand, 1) := by decide +kernel
theorem d_J_isAllowedInInterface_23 : decode b_J_isAllowedInInterface 23 = .ok (.ifCond .eq 7, 3) := by decide +kernel
theorem d_J_isAllowedInInterface_26 : decode b_J_isAllowedInInterface 26 = .ok (.iconst 1, 1) := by decide +kernel
theorem d_J_isAllowedInInterface_27 : decode b_J_isAllowedInInterface 27 = .ok (.goto 4, 3) := by decide +kernel
theorem d_J_isAllowedInInterface_30 : decode b_J_isAllowedInInterface 30 = .ok (.iconst 0, 1) := by decide +kernel
theorem d_J_isAllowedInInterface_31 : decode b_J_isAllowedInInterface 31 = .ok (.ireturn, 1) := by decide +kernel
theorem d_J_isAllowedInInterface_32 : decode b_J_isAllowedInInterface 32 = .ok (.iload_n 0, 1) := by decide +kernel
theorem d_J_isAllowedInInterface_33 : decode b_J_isAllowedInInterface 33 = .ok (.iconst 1, 1) := by decide +kernel
theorem d_J_isAllowedInInterface_34 : decode b_J_isAllowedInInterface 34 = .ok (.if_icmp .ne 23, 3) := by decide +kernel
theorem d_J_isAllowedInInterface_37 : decode b_J_isAllowedInInterface 37 = .ok (.iload_n 1, 1) := by decide +kernel
theorem d_J_isAllowedInInterface_38 : decode b_J_isAllowedInInterface 38 = .ok (.bipush 8, 2) := by decide +kernel
theorem d_J_isAllowedInInterface_40 : decode b_J_isAllowedInInterface 40 = .ok (.iand, 1) := by decide +kernel
theorem d_J_isAllowedInInterface_41 : decode b_J_isAllowedInInterface 41 = .ok (.ifCond .ne 16, 3) := by decide +kernel
theorem d_J_isAllowedInInterface_44 : decode b_J_isAllowedInInterface 44 = .ok (.iload_n 2, 1) := by decide +kernel
theorem d_J_isAllowedInInterface_45 : decode b_J_isAllowedInInterface 45 = .ok (.iconst 3, 1) := by decide +kernel
theorem d_J_isAllowedInInterface_46 : decode b_J_isAllowedInInterface 46 = .ok (.if_icmp .eq 7, 3) := by decide +kernel
theorem d_J_isAllowedInInterface_49 : decode b_J_isAllowedInInterface 49 = .ok (.iload_n 2, 1) := by decide +kernel
theorem d_J_isAllowedInInterface_50 : decode b_J_isAllowedInInterface 50 = .ok (.ifCond .ne 7, 3) := by decide +kernel
theorem d_J_isAllowedInInterface_53 : decode b_J_isAllowedInInterface 53 = .ok (.iconst 1, 1) := by decide +kernel
theorem d_J_isAllowedInInterface_54 : decode b_J_isAllowedInInterface 54 = .ok (.goto 4, 3) := by decide +kernel
theorem d_J_isAllowedInInterface_57 : decode b_J_isAllowedInInterface 57 = .ok (.iconst 0, 1) := by decide +kernel
theorem d_J_isAllowedInInterface_58 : decode b_J_isAllowedInInterface 58 = .ok (.ireturn, 1) := by decide +kernel
theorem d_R_init_0 : decode b_R_init 0 = .ok (.aload_n 0, 1) := by decide +kernel
theorem d_R_init_1 : decode b_R_init 1 = .ok (.invokespecial 1, 3) := by decide +kernel
theorem d_R_init_4 : decode b_R_init 4 = .ok (.aload_n 0, 1) := by decide +kernel
theorem d_R_init_5 : decode b_R_init 5 = .ok (.bipush 24, 2) := by decide +kernel
theorem d_R_init_7 : decode b_R_init 7 = .ok (.newarray .boolean, 2) := by decide +kernel
theorem d_R_init_9 : decode b_R_init 9 = .ok (.putfield 7, 3) := by decide +kernel
theorem d_R_init_12 : decode b_R_init 12 = .ok (.aload_n 0, 1) := by decide +kernel
theorem d_R_init_13 : decode b_R_init 13 = .ok (.bipush 24, 2) := by decide +kernel
theorem d_R_init_15 : decode b_R_init 15 = .ok (.newarray .int, 2) := by decide +kernel
theorem d_R_init_17 : decode b_R_init 17 = .ok (.putfield 13, 3) := by decide +kernel
theorem d_R_init_20 : decode b_R_init 20 = .ok (.aload_n 0, 1) := by decide +kernel
theorem d_R_init_21 : decode b_R_init 21 = .ok (.bipush 24, 2) := by decide +kernel
theorem d_R_init_23 : decode b_R_init 23 = .ok (.newarray .int, 2) := by decide +kernel
theorem d_R_init_25 : decode b_R_init 25 = .ok (.putfield 17, 3) := by decide +kernel
theorem d_R_init_28 : decode b_R_init 28 = .ok (.aload_n 0, 1) := by decide +kernel
theorem d_R_init_29 : decode b_R_init 29 = .ok (.bipush 24, 2) := by decide +kernel
theorem d_R_init_31 : decode b_R_init 31 = .ok (.newarray .int, 2) := by decide +kernel
theorem d_R_init_33 : decode b_R_init 33 = .ok (.putfield 20, 3) := by decide +kernel
theorem d_R_init_36 : decode b_R_init 36 = .ok (.aload_n 0, 1) := by decide +kernel
theorem d_R_init_37 : decode b_R_init 37 = .ok (.bipush 24, 2) := by decide +kernel
theorem d_R_init_39 : decode b_R_init 39 = .ok (.newarray .int, 2) := by decide +kernel
theorem d_R_init_41 : decode b_R_init 41 = .ok (.putfield 23, 3) := by decide +kernel
theorem d_R_init_44 : decode b_R_init 44 = .ok (.aload_n 0, 1) := by decide +kernel
theorem d_R_init_45 : decode b_R_init 45 = .ok (.bipush 72, 2) := by decide +kernel
theorem d_R_init_47 : decode b_R_init 47 = .ok (.newarray .int, 2) := by decide +kernel
theorem d_R_init_49 : decode b_R_init 49 = .ok (.putfield 26, 3) := by decide +kernel
theorem d_R_init_52 : decode b_R_init 52 = .ok (.aload_n 0, 1) := by decide +kernel
theorem d_R_init_53 : decode b_R_init 53 = .ok (.bipush 24, 2) := by decide +kernel
theorem d_R_init_55 : decode b_R_init 55 = .ok (.newarray .int, 2) := by decide +kernel
theorem d_R_init_57 : decode b_R_init 57 = .ok (.putfield 29, 3) := by decide +kernel
theorem d_R_init_60 : decode b_R_init 60 = .ok (.aload_n 0, 1) := by decide +kernel
theorem d_R_init_61 : decode b_R_init 61 = .ok (.sipush 192, 3) := by decide +kernel
theorem d_R_init_64 : decode b_R_init 64 = .ok (.newarray .int, 2) := by decide +kernel
theorem d_R_init_66 : decode b_R_init 66 = .ok (.putfield 32, 3) := by decide +kernel
theorem d_R_init_69 : decode b_R_init 69 = .ok (.aload_n 0, 1) := by decide +kernel
theorem d_R_init_70 : decode b_R_init 70 = .ok (.sipush 192, 3) := by decide +kernel
theorem d_R_init_73 : decode b_R_init 73 = .ok (.newarray .int, 2) := by decide +kernel
theorem d_R_init_75 : decode b_R_init 75 = .ok (.putfield 35, 3) := by decide +kernel
theorem d_R_init_78 : decode b_R_init 78 = .ok (.aload_n 0, 1) := by decide +kernel
theorem d_R_init_79 : decode b_R_init 79 = .ok (.sipush 192, 3) := by decide +kernel
theorem d_R_init_82 : decode b_R_init 82 = .ok (.newarray .int, 2) := by decide +kernel
theorem d_R_init_84 : decode b_R_init 84 = .ok (.putfield 38, 3) := by decide +kernel
theorem d_R_init_87 : decode b_R_init 87 = .ok (.aload_n 0, 1) := by decide +kernel
theorem d_R_init_88 : decode b_R_init 88 = .ok (.sipush 192, 3) := by decide +kernel
theorem d_R_init_91 : decode b_R_init 91 = .ok (.newarray .boolean, 2) := by decide +kernel
theorem d_R_init_93 : decode b_R_init 93 = .ok (.putfield 41, 3) := by decide +kernel
theorem d_R_init_96 : decode b_R_init 96 = .ok (.aload_n 0, 1) := by decide +kernel
theorem d_R_init_97 : decode b_R_init 97 = .ok (.sipush 192, 3) := by decide +kernel
theorem d_R_init_100 : decode b_R_init 100 = .ok (.newarray .int, 2) := by decide +kernel
theorem d_R_init_102 : decode b_R_init 102 = .ok (.putfield 44, 3) := by decide +kernel
theorem d_R_init_105 : decode b_R_init 105 = .ok (.aload_n 0, 1) := by decide +kernel
theorem d_R_init_106 : decode b_R_init 106 = .ok (.sipush 168, 3) := by decide +kernel
theorem d_R_init_109 : decode b_R_init 109 = .ok (.newarray .boolean, 2) := by decide +kernel
theorem d_R_init_111 : decode b_R_init 111 = .ok (.putfield 47, 3) := by decide +kernel
theorem d_R_init_114 : decode b_R_init 114 = .ok (.aload_n 0, 1) := by decide +kernel
theorem d_R_init_115 : decode b_R_init 115 = .ok (.bipush 12, 2) := by decide +kernel
theorem d_R_init_117 : decode b_R_init 117 = .ok (.newarray .boolean, 2) := by decide +kernel
theorem d_R_init_119 : decode b_R_init 119 = .ok (.putfield 50, 3) := by decide +kernel
theorem d_R_init_122 : decode b_R_init 122 = .ok (.aload_n 0, 1) := by decide +kernel
theorem d_R_init_123 : decode b_R_init 123 = .ok (.bipush 48, 2) := by decide +kernel
theorem d_R_init_125 : decode b_R_init 125 = .ok (.newarray .int, 2) := by decide +kernel
theorem d_R_init_127 : decode b_R_init 127 = .ok (.putfield 53, 3) := by decide +kernel
theorem d_R_init_130 : decode b_R_init 130 = .ok (.aload_n 0, 1) := by decide +kernel
theorem d_R_init_131 : decode b_R_init 131 = .ok (.bipush 14, 2) := by decide +kernel
theorem d_R_init_133 : decode b_R_init 133 = .ok (.newarray .int, 2) := by decide +kernel
theorem d_R_init_135 : decode b_R_init 135 = .ok (.putfield 56, 3) := by decide +kernel
theorem d_R_init_138 : decode b_R_init 138 = .ok (.return_, 1) := by decide +kernel
theorem d_R_out_0 : decode b_R_out 0 = .ok (.iload_n 0, 1) := by decide +kernel
theorem d_R_out_1 : decode b_R_out 1 = .ok (.ifCond .lt 8, 3) := by decide +kernel
theorem d_R_out_4 : decode b_R_out 4 = .ok (.iload_n 0, 1) := by decide +kernel
theorem d_R_out_5 : decode b_R_out 5 = .ok (.iload_n 1, 1) := by decide +kernel
theorem d_R_out_6 : decode b_R_out 6 = .ok (.if_icmp .le 7, 3) := by decide +kernel
theorem d_R_out_9 : decode b_R_out 9 = .ok (.iconst 1, 1) := by decide +kernel
theorem d_R_out_10 : decode b_R_out 10 = .ok (.goto 4, 3) := by decide +kernel
theorem d_R_out_13 : decode b_R_out 13 = .ok (.iconst 0, 1) := by decide +kernel
theorem d_R_out_14 : decode b_R_out 14 = .ok (.ireturn, 1) := by decide +kernel
theorem d_R_bad_0 : decode b_R_bad 0 = .ok (.iload_n 0, 1) := by decide +kernel
theorem d_R_bad_1 : decode b_R_bad 1 = .ok (.iconst 1, 1) := by decide +kernel
theorem d_R_bad_2 : decode b_R_bad 2 = .ok (.invokestatic 59, 3) := by decide +kernel
theorem d_R_bad_5 : decode b_R_bad 5 = .ok (.ifCond .ne 12, 3) := by decide +kernel
theorem d_R_bad_8 : decode b_R_bad 8 = .ok (.iload_n 1, 1) := by decide +kernel
theorem d_R_bad_9 : decode b_R_bad 9 = .ok (.bipush 11, 2) := by decide +kernel
theorem d_R_bad_11 : decode b_R_bad 11 = .ok (.invokestatic 59, 3) := by decide +kernel
theorem d_R_bad_14 : decode b_R_bad 14 = .ok (.ifCond .eq 7, 3) := by decide +kernel
theorem d_R_bad_17 : decode b_R_bad 17 = .ok (.iconst 1, 1) := by decide +kernel
theorem d_R_bad_18 : decode b_R_bad 18 = .ok (.goto 4, 3) := by decide +kernel
theorem d_R_bad_21 : decode b_R_bad 21 = .ok (.iconst 0, 1) := by decide +kernel
theorem d_R_bad_22 : decode b_R_bad 22 = .ok (.ireturn, 1) := by decide +kernel
theorem d_R_type_0 : decode b_R_type 0 = .ok (.iload_n 1, 1) := by decide +kernel
theorem d_R_type_1 : decode b_R_type 1 = .ok (.iload_n 2, 1) := by decide +kernel
theorem d_R_type_2 : decode b_R_type 2 = .ok (.invokestatic 63, 3) := by decide +kernel
theorem d_R_type_5 : decode b_R_type 5 = .ok (.ifCond .ne 47, 3) := by decide +kernel
theorem d_R_type_8 : decode b_R_type 8 = .ok (.iload_n 3, 1) := by decide +kernel
theorem d_R_type_9 : decode b_R_type 9 = .ok (.iconst 1, 1) := by decide +kernel
theorem d_R_type_10 : decode b_R_type 10 = .ok (.invokestatic 59, 3) := by decide +kernel
theorem d_R_type_13 : decode b_R_type 13 = .ok (.ifCond .ne 39, 3) := by decide +kernel
theorem d_R_type_16 : decode b_R_type 16 = .ok (.iload 4, 2) := by decide +kernel
theorem d_R_type_18 : decode b_R_type 18 = .ok (.bipush 7, 2) := by decide +kernel
theorem d_R_type_20 : decode b_R_type 20 = .ok (.invokestatic 59, 3) := by decide +kernel
theorem d_R_type_23 : decode b_R_type 23 = .ok (.ifCond .ne 29, 3) := by decide +kernel
theorem d_R_type_26 : decode b_R_type 26 = .ok (.iload 5, 2) := by decide +kernel
theorem d_R_type_28 : decode b_R_type 28 = .ok (.iconst 1, 1) := by decide +kernel
theorem d_R_type_29 : decode b_R_type 29 = .ok (.iadd, 1) := by decide +kernel
theorem d_R_type_30 : decode b_R_type 30 = .ok (.bipush 12, 2) := by decide +kernel
theorem d_R_type_32 : decode b_R_type 32 = .ok (.invokestatic 59, 3) := by decide +kernel
theorem d_R_type_35 : decode b_R_type 35 = .ok (.ifCond .ne 17, 3) := by decide +kernel
theorem d_R_type_38 : decode b_R_type 38 = .ok (.aload_n 0, 1) := by decide +kernel
theorem d_R_type_39 : decode b_R_type 39 = .ok (.getfield 7, 3) := by decide +kernel
theorem d_R_type_42 : decode b_R_type 42 = .ok (.bipush 12, 2) := by decide +kernel
theorem d_R_type_44 : decode b_R_type 44 = .ok (.iload_n 1, 1) := by decide +kernel
theorem d_R_type_45 : decode b_R_type 45 = .ok (.imul, 1) := by decide +kernel
theorem d_R_type_46 : decode b_R_type 46 = .ok (.iload_n 2, 1) := by decide +kernel
theorem d_R_type_47 : decode b_R_type 47 = .ok (.iadd, 1) := by decide +kernel
theorem d_R_type_48 : decode b_R_type 48 = .ok (.baload, 1) := by decide +kernel
theorem d_R_type_49 : decode b_R_type 49 = .ok (.ifCond .eq 5, 3) := by decide +kernel
theorem d_R_type_52 : decode b_R_type 52 = .ok (.iconst (-1), 1) := by decide +kernel
theorem d_R_type_53 : decode b_R_type 53 = .ok (.ireturn, 1) := by decide +kernel
theorem d_R_type_54 : decode b_R_type 54 = .ok (.iload 5, 2) := by decide +kernel
theorem d_R_type_56 : decode b_R_type 56 = .ok (.iload_n 2, 1) := by decide +kernel
theorem d_R_type_57 : decode b_R_type 57 = .ok (.if_icmp .ge 26, 3) := by decide +kernel
theorem d_R_type_60 : decode b_R_type 60 = .ok (.iload_n 3, 1) := by decide +kernel
theorem d_R_type_61 : decode b_R_type 61 = .ok (.iconst 1, 1) := by decide +kernel
theorem d_R_type_62 : decode b_R_type 62 = .ok (.if_icmp .ne 14, 3) := by decide +kernel
theorem d_R_type_65 : decode b_R_type 65 = .ok (.iload 4, 2) := by decide +kernel
theorem d_R_type_67 : decode b_R_type 67 = .ok (.iconst 1, 1) := by decide +kernel
theorem d_R_type_68 : decode b_R_type 68 = .ok (.if_icmp .gt 15, 3) := by decide +kernel
theorem d_R_type_71 : decode b_R_type 71 = .ok (.iload 5, 2) := by decide +kernel
theorem d_R_type_73 : decode b_R_type 73 = .ok (.ifCond .ge 10, 3) := by decide +kernel
theorem d_R_type_76 : decode b_R_type 76 = .ok (.iload 4, 2) := by decide +kernel
theorem d_R_type_78 : decode b_R_type 78 = .ok (.bipush 6, 2) := by decide +kernel
theorem d_R_type_80 : decode b_R_type 80 = .ok (.if_icmp .lt 5, 3) := by decide +kernel
theorem d_R_type_83 : decode b_R_type 83 = .ok (.iconst (-1), 1) := by decide +kernel
theorem d_R_type_84 : decode b_R_type 84 = .ok (.ireturn, 1) := by decide +kernel
theorem d_R_type_85 : decode b_R_type 85 = .ok (.bipush 12, 2) := by decide +kernel
theorem d_R_type_87 : decode b_R_type 87 = .ok (.iload_n 1, 1) := by decide +kernel
theorem d_R_type_88 : decode b_R_type 88 = .ok (.imul, 1) := by decide +kernel
theorem d_R_type_89 : decode b_R_type 89 = .ok (.iload_n 2, 1) := by decide +kernel
theorem d_R_type_90 : decode b_R_type 90 = .ok (.iadd, 1) := by decide +kernel
theorem d_R_type_91 : decode b_R_type 91 = .ok (.istore 6, 2) := by decide +kernel
theorem d_R_type_93 : decode b_R_type 93 = .ok (.aload_n 0, 1) := by decide +kernel
theorem d_R_type_94 : decode b_R_type 94 = .ok (.getfield 7, 3) := by decide +kernel
theorem d_R_type_97 : decode b_R_type 97 = .ok (.iload 6, 2) := by decide +kernel
theorem d_R_type_99 : decode b_R_type 99 = .ok (.iconst 1, 1) := by decide +kernel
theorem d_R_type_100 : decode b_R_type 100 = .ok (.bastore, 1) := by decide +kernel
theorem d_R_type_101 : decode b_R_type 101 = .ok (.aload_n 0, 1) := by decide +kernel
theorem d_R_type_102 : decode b_R_type 102 = .ok (.getfield 13, 3) := by decide +kernel
theorem d_R_type_105 : decode b_R_type 105 = .ok (.iload 6, 2) := by decide +kernel
theorem d_R_type_107 : decode b_R_type 107 = .ok (.iload_n 3, 1) := by decide +kernel
theorem d_R_type_108 : decode b_R_type 108 = .ok (.iastore, 1) := by decide +kernel
theorem d_R_type_109 : decode b_R_type 109 = .ok (.aload_n 0, 1) := by decide +kernel
theorem d_R_type_110 : decode b_R_type 110 = .ok (.getfield 17, 3) := by decide +kernel
theorem d_R_type_113 : decode b_R_type 113 = .ok (.iload 6, 2) := by decide +kernel
theorem d_R_type_115 : decode b_R_type 115 = .ok (.iload 4, 2) := by decide +kernel
theorem d_R_type_117 : decode b_R_type 117 = .ok (.iastore, 1) := by decide +kernel
theorem d_R_type_118 : decode b_R_type 118 = .ok (.aload_n 0, 1) := by decide +kernel
theorem d_R_type_119 : decode b_R_type 119 = .ok (.getfield 20, 3) := by decide +kernel
theorem d_R_type_122 : decode b_R_type 122 = .ok (.iload 6, 2) := by decide +kernel
theorem d_R_type_124 : decode b_R_type 124 = .ok (.iload 5, 2) := by decide +kernel
theorem d_R_type_126 : decode b_R_type 126 = .ok (.iastore, 1) := by decide +kernel
theorem d_R_type_127 : decode b_R_type 127 = .ok (.aload_n 0, 1) := by decide +kernel
theorem d_R_type_128 : decode b_R_type 128 = .ok (.getfield 23, 3) := by decide +kernel
theorem d_R_type_131 : decode b_R_type 131 = .ok (.iload 6, 2) := by decide +kernel
theorem d_R_type_133 : decode b_R_type 133 = .ok (.iconst 0, 1) := by decide +kernel
theorem d_R_type_134 : decode b_R_type 134 = .ok (.iastore, 1) := by decide +kernel
theorem d_R_type_135 : decode b_R_type 135 = .ok (.aload_n 0, 1) := by decide +kernel
theorem d_R_type_136 : decode b_R_type 136 = .ok (.getfield 29, 3) := by decide +kernel
theorem d_R_type_139 : decode b_R_type 139 = .ok (.iload 6, 2) := by decide +kernel
theorem d_R_type_141 : decode b_R_type 141 = .ok (.iconst 0, 1) := by decide +kernel
theorem d_R_type_142 : decode b_R_type 142 = .ok (.iastore, 1) := by decide +kernel
theorem d_R_type_143 : decode b_R_type 143 = .ok (.iconst 1, 1) := by decide +kernel
theorem d_R_type_144 : decode b_R_type 144 = .ok (.ireturn, 1) := by decide +kernel
theorem d_R_implement_0 : decode b_R_implement 0 = .ok (.iload_n 1, 1) := by decide +kernel
theorem d_R_implement_1 : decode b_R_implement 1 = .ok (.iload_n 2, 1) := by decide +kernel
theorem d_R_implement_2 : decode b_R_implement 2 = .ok (.invokestatic 63, 3) := by decide +kernel
theorem d_R_implement_5 : decode b_R_implement 5 = .ok (.ifCond .ne 17, 3) := by decide +kernel
theorem d_R_implement_8 : decode b_R_implement 8 = .ok (.iload_n 3, 1) := by decide +kernel
theorem d_R_implement_9 : decode b_R_implement 9 = .ok (.bipush 11, 2) := by decide +kernel
theorem d_R_implement_11 : decode b_R_implement 11 = .ok (.invokestatic 59, 3) := by decide +kernel
theorem d_R_implement_14 : decode b_R_implement 14 = .ok (.ifCond .ne 8, 3) := by decide +kernel
theorem d_R_implement_17 : decode b_R_implement 17 = .ok (.iload_n 3, 1) := by decide +kernel
theorem d_R_implement_18 : decode b_R_implement 18 = .ok (.iload_n 2, 1) := by decide +kernel
theorem d_R_implement_19 : decode b_R_implement 19 = .ok (.if_icmp .lt 5, 3) := by decide +kernel
theorem d_R_implement_22 : decode b_R_implement 22 = .ok (.iconst (-1), 1) := by decide +kernel
theorem d_R_implement_23 : decode b_R_implement 23 = .ok (.ireturn, 1) := by decide +kernel
theorem d_R_implement_24 : decode b_R_implement 24 = .ok (.bipush 12, 2) := by decide +kernel
theorem d_R_implement_26 : decode b_R_implement 26 = .ok (.iload_n 1, 1) := by decide +kernel
theorem d_R_implement_27 : decode b_R_implement 27 = .ok (.imul, 1) := by decide +kernel
theorem d_R_implement_28 : decode b_R_implement 28 = .ok (.iload_n 2, 1) := by decide +kernel
theorem d_R_implement_29 : decode b_R_implement 29 = .ok (.iadd, 1) := by decide +kernel
theorem d_R_implement_30 : decode b_R_implement 30 = .ok (.istore 4, 2) := by decide +kernel
theorem d_R_implement_32 : decode b_R_implement 32 = .ok (.aload_n 0, 1) := by decide +kernel
theorem d_R_implement_33 : decode b_R_implement 33 = .ok (.getfield 7, 3) := by decide +kernel
theorem d_R_implement_36 : decode b_R_implement 36 = .ok (.iload 4, 2) := by decide +kernel
theorem d_R_implement_38 : decode b_R_implement 38 = .ok (.baload, 1) := by decide +kernel
theorem d_R_implement_39 : decode b_R_implement 39 = .ok (.ifCond .eq 14, 3) := by decide +kernel
theorem d_R_implement_42 : decode b_R_implement 42 = .ok (.aload_n 0, 1) := by decide +kernel
theorem d_R_implement_43 : decode b_R_implement 43 = .ok (.getfield 23, 3) := by decide +kernel
theorem d_R_implement_46 : decode b_R_implement 46 = .ok (.iload 4, 2) := by decide +kernel
theorem d_R_implement_48 : decode b_R_implement 48 = .ok (.iaload, 1) := by decide +kernel
theorem d_R_implement_49 : decode b_R_implement 49 = .ok (.iconst 3, 1) := by decide +kernel
theorem d_R_implement_50 : decode b_R_implement 50 = .ok (.if_icmp .ne 5, 3) := by decide +kernel
theorem d_R_implement_53 : decode b_R_implement 53 = .ok (.iconst (-1), 1) := by decide +kernel
theorem d_R_implement_54 : decode b_R_implement 54 = .ok (.ireturn, 1) := by decide +kernel
theorem d_R_implement_55 : decode b_R_implement 55 = .ok (.iconst 0, 1) := by decide +kernel
theorem d_R_implement_56 : decode b_R_implement 56 = .ok (.istore 5, 2) := by decide +kernel
theorem d_R_implement_58 : decode b_R_implement 58 = .ok (.iload 5, 2) := by decide +kernel
theorem d_R_implement_60 : decode b_R_implement 60 = .ok (.aload_n 0, 1) := by decide +kernel
theorem d_R_implement_61 : decode b_R_implement 61 = .ok (.getfield 23, 3) := by decide +kernel
theorem d_R_implement_64 : decode b_R_implement 64 = .ok (.iload 4, 2) := by decide +kernel
theorem d_R_implement_66 : decode b_R_implement 66 = .ok (.iaload, 1) := by decide +kernel
theorem d_R_implement_67 : decode b_R_implement 67 = .ok (.if_icmp .ge 27, 3) := by decide +kernel
theorem d_R_implement_70 : decode b_R_implement 70 = .ok (.aload_n 0, 1) := by decide +kernel
theorem d_R_implement_71 : decode b_R_implement 71 = .ok (.getfield 26, 3) := by decide +kernel
theorem d_R_implement_74 : decode b_R_implement 74 = .ok (.iconst 3, 1) := by decide +kernel
theorem d_R_implement_75 : decode b_R_implement 75 = .ok (.iload 4, 2) := by decide +kernel
theorem d_R_implement_77 : decode b_R_implement 77 = .ok (.imul, 1) := by decide +kernel
theorem d_R_implement_78 : decode b_R_implement 78 = .ok (.iload 5, 2) := by decide +kernel
theorem d_R_implement_80 : decode b_R_implement 80 = .ok (.iadd, 1) := by decide +kernel
theorem d_R_implement_81 : decode b_R_implement 81 = .ok (.iaload, 1) := by decide +kernel
theorem d_R_implement_82 : decode b_R_implement 82 = .ok (.iload_n 3, 1) := by decide +kernel
theorem d_R_implement_83 : decode b_R_implement 83 = .ok (.if_icmp .ne 5, 3) := by decide +kernel
theorem d_R_implement_86 : decode b_R_implement 86 = .ok (.iconst (-1), 1) := by decide +kernel
theorem d_R_implement_87 : decode b_R_implement 87 = .ok (.ireturn, 1) := by decide +kernel
theorem d_R_implement_88 : decode b_R_implement 88 = .ok (.iinc 5 1, 3) := by decide +kernel
theorem d_R_implement_91 : decode b_R_implement 91 = .ok (.goto (-33), 3) := by decide +kernel
theorem d_R_implement_94 : decode b_R_implement 94 = .ok (.aload_n 0, 1) := by decide +kernel
theorem d_R_implement_95 : decode b_R_implement 95 = .ok (.getfield 26, 3) := by decide +kernel
theorem d_R_implement_98 : decode b_R_implement 98 = .ok (.iconst 3, 1) := by decide +kernel
theorem d_R_implement_99 : decode b_R_implement 99 = .ok (.iload 4, 2) := by decide +kernel
theorem d_R_implement_101 : decode b_R_implement 101 = .ok (.imul, 1) := by decide +kernel
theorem d_R_implement_102 : decode b_R_implement 102 = .ok (.aload_n 0, 1) := by decide +kernel
theorem d_R_implement_103 : decode b_R_implement 103 = .ok (.getfield 23, 3) := by decide +kernel
theorem d_R_implement_106 : decode b_R_implement 106 = .ok (.iload 4, 2) := by decide +kernel
theorem d_R_implement_108 : decode b_R_implement 108 = .ok (.iaload, 1) := by decide +kernel
theorem d_R_implement_109 : decode b_R_implement 109 = .ok (.iadd, 1) := by decide +kernel
theorem d_R_implement_110 : decode b_R_implement 110 = .ok (.iload_n 3, 1) := by decide +kernel
theorem d_R_implement_111 : decode b_R_implement 111 = .ok (.iastore, 1) := by decide +kernel
theorem d_R_implement_112 : decode b_R_implement 112 = .ok (.aload_n 0, 1) := by decide +kernel
theorem d_R_implement_113 : decode b_R_implement 113 = .ok (.getfield 23, 3) := by decide +kernel
theorem d_R_implement_116 : decode b_R_implement 116 = .ok (.iload 4, 2) := by decide +kernel
theorem d_R_implement_118 : decode b_R_implement 118 = .ok (.dup2, 1) := by decide +kernel
theorem d_R_implement_119 : decode b_R_implement 119 = .ok (.iaload, 1) := by decide +kernel
theorem d_R_implement_120 : decode b_R_implement 120 = .ok (.iconst 1, 1) := by decide +kernel
theorem d_R_implement_121 : decode b_R_implement 121 = .ok (.iadd, 1) := by decide +kernel
theorem d_R_implement_122 : decode b_R_implement 122 = .ok (.iastore, 1) := by decide +kernel
theorem d_R_implement_123 : decode b_R_implement 123 = .ok (.aload_n 0, 1) := by decide +kernel
theorem d_R_implement_124 : decode b_R_implement 124 = .ok (.getfield 23, 3) := by decide +kernel
theorem d_R_implement_127 : decode b_R_implement 127 = .ok (.iload 4, 2) := by decide +kernel
theorem d_R_implement_129 : decode b_R_implement 129 = .ok (.iaload, 1) := by decide +kernel
theorem d_R_implement_130 : decode b_R_implement 130 = .ok (.ireturn, 1) := by decide +kernel
theorem d_R_badKey_0 : decode b_R_badKey 0 = .ok (.iload_n 0, 1) := by decide +kernel
theorem d_R_badKey_1 : decode b_R_badKey 1 = .ok (.iconst 2, 1) := by decide +kernel
theorem d_R_badKey_2 : decode b_R_badKey 2 = .ok (.invokestatic 59, 3) := by decide +kernel
theorem d_R_badKey_5 : decode b_R_badKey 5 = .ok (.ifCond .ne 32, 3) := by decide +kernel
theorem d_R_badKey_8 : decode b_R_badKey 8 = .ok (.iload_n 1, 1) := by decide +kernel
theorem d_R_badKey_9 : decode b_R_badKey 9 = .ok (.iload_n 0, 1) := by decide +kernel
theorem d_R_badKey_10 : decode b_R_badKey 10 = .ok (.ifCond .ne 8, 3) := by decide +kernel
theorem d_R_badKey_13 : decode b_R_badKey 13 = .ok (.bipush 63, 2) := by decide +kernel
theorem d_R_badKey_15 : decode b_R_badKey 15 = .ok (.goto 16, 3) := by decide +kernel
theorem d_R_badKey_18 : decode b_R_badKey 18 = .ok (.iload_n 0, 1) := by decide +kernel
theorem d_R_badKey_19 : decode b_R_badKey 19 = .ok (.iconst 1, 1) := by decide +kernel
theorem d_R_badKey_20 : decode b_R_badKey 20 = .ok (.if_icmp .ne 9, 3) := by decide +kernel
theorem d_R_badKey_23 : decode b_R_badKey 23 = .ok (.sipush 511, 3) := by decide +kernel
theorem d_R_badKey_26 : decode b_R_badKey 26 = .ok (.goto 5, 3) := by decide +kernel
theorem d_R_badKey_29 : decode b_R_badKey 29 = .ok (.bipush 7, 2) := by decide +kernel
theorem d_R_badKey_31 : decode b_R_badKey 31 = .ok (.invokestatic 59, 3) := by decide +kernel
theorem d_R_badKey_34 : decode b_R_badKey 34 = .ok (.ifCond .eq 7, 3) := by decide +kernel
theorem d_R_badKey_37 : decode b_R_badKey 37 = .ok (.iconst 1, 1) := by decide +kernel
theorem d_R_badKey_38 : decode b_R_badKey 38 = .ok (.goto 4, 3) := by decide +kernel
theorem d_R_badKey_41 : decode b_R_badKey 41 = .ok (.iconst 0, 1) := by decide +kernel
theorem d_R_badKey_42 : decode b_R_badKey 42 = .ok (.ireturn, 1) := by decide +kernel
theorem d_R_own_0 : decode b_R_own 0 = .ok (.aload_n 0, 1) := by decide +kernel
theorem d_R_own_1 : decode b_R_own 1 = .ok (.getfield 7, 3) := by decide +kernel
theorem d_R_own_4 : decode b_R_own 4 = .ok (.iload_n 1, 1) := by decide +kernel
theorem d_R_own_5 : decode b_R_own 5 = .ok (.baload, 1) := by decide +kernel
theorem d_R_own_6 : decode b_R_own 6 = .ok (.ifCond .ne 5, 3) := by decide +kernel
theorem d_R_own_9 : decode b_R_own 9 = .ok (.iconst (-1), 1) := by decide +kernel
theorem d_R_own_10 : decode b_R_own 10 = .ok (.ireturn, 1) := by decide +kernel
theorem d_R_own_11 : decode b_R_own 11 = .ok (.bipush 8, 2) := by decide +kernel
theorem d_R_own_13 : decode b_R_own 13 = .ok (.iload_n 1, 1) := by decide +kernel
theorem d_R_own_14 : decode b_R_own 14 = .ok (.imul, 1) := by decide +kernel
theorem d_R_own_15 : decode b_R_own 15 = .ok (.istore 4, 2) := by decide +kernel
theorem d_R_own_17 : decode b_R_own 17 = .ok (.iload 4, 2) := by decide +kernel
theorem d_R_own_19 : decode b_R_own 19 = .ok (.bipush 8, 2) := by decide +kernel
theorem d_R_own_21 : decode b_R_own 21 = .ok (.iload_n 1, 1) := by decide +kernel
theorem d_R_own_22 : decode b_R_own 22 = .ok (.imul, 1) := by decide +kernel
theorem d_R_own_23 : decode b_R_own 23 = .ok (.aload_n 0, 1) := by decide +kernel
theorem d_R_own_24 : decode b_R_own 24 = .ok (.getfield 29, 3) := by decide +kernel
theorem d_R_own_27 : decode b_R_own 27 = .ok (.iload_n 1, 1) := by decide +kernel
theorem d_R_own_28 : decode b_R_own 28 = .ok (.iaload, 1) := by decide +kernel
theorem d_R_own_29 : decode b_R_own 29 = .ok (.iadd, 1) := by decide +kernel
theorem d_R_own_30 : decode b_R_own 30 = .ok (.if_icmp .ge 34, 3) := by decide +kernel
theorem d_R_own_33 : decode b_R_own 33 = .ok (.aload_n 0, 1) := by decide +kernel
theorem d_R_own_34 : decode b_R_own 34 = .ok (.getfield 32, 3) := by decide +kernel
theorem d_R_own_37 : decode b_R_own 37 = .ok (.iload 4, 2) := by decide +kernel
theorem d_R_own_39 : decode b_R_own 39 = .ok (.iaload, 1) := by decide +kernel
theorem d_R_own_40 : decode b_R_own 40 = .ok (.iload_n 2, 1) := by decide +kernel
theorem d_R_own_41 : decode b_R_own 41 = .ok (.if_icmp .ne 17, 3) := by decide +kernel
theorem d_R_own_44 : decode b_R_own 44 = .ok (.aload_n 0, 1) := by decide +kernel
theorem d_R_own_45 : decode b_R_own 45 = .ok (.getfield 35, 3) := by decide +kernel
theorem d_R_own_48 : decode b_R_own 48 = .ok (.iload 4, 2) := by decide +kernel
theorem d_R_own_50 : decode b_R_own 50 = .ok (.iaload, 1) := by decide +kernel
theorem d_R_own_51 : decode b_R_own 51 = .ok (.iload_n 3, 1) := by decide +kernel
theorem d_R_own_52 : decode b_R_own 52 = .ok (.if_icmp .ne 6, 3) := by decide +kernel
theorem d_R_own_55 : decode b_R_own 55 = .ok (.iload 4, 2) := by decide +kernel
theorem d_R_own_57 : decode b_R_own 57 = .ok (.ireturn, 1) := by decide +kernel
theorem d_R_own_58 : decode b_R_own 58 = .ok (.iinc 4 1, 3) := by decide +kernel
theorem d_R_own_61 : decode b_R_own 61 = .ok (.goto (-44), 3) := by decide +kernel
theorem d_R_own_64 : decode b_R_own 64 = .ok (.iconst (-1), 1) := by decide +kernel
theorem d_R_own_65 : decode b_R_own 65 = .ok (.ireturn, 1) := by decide +kernel
theorem d_R_has_0 : decode b_R_has 0 = .ok (.iload_n 0, 1) := by decide +kernel
theorem d_R_has_1 : decode b_R_has 1 = .ok (.iload_n 1, 1) := by decide +kernel
theorem d_R_has_2 : decode b_R_has 2 = .ok (.iand, 1) := by decide +kernel
theorem d_R_has_3 : decode b_R_has 3 = .ok (.ifCond .eq 7, 3) := by decide +kernel
theorem d_R_has_6 : decode b_R_has 6 = .ok (.iconst 1, 1) := by decide +kernel
theorem d_R_has_7 : decode b_R_has 7 = .ok (.goto 4, 3) := by decide +kernel
theorem d_R_has_10 : decode b_R_has 10 = .ok (.iconst 0, 1) := by decide +kernel
theorem d_R_has_11 : decode b_R_has 11 = .ok (.ireturn, 1) := by decide +kernel
theorem d_R_badFlags_0 : decode b_R_badFlags 0 = .ok (.iload_n 1, 1) := by decide +kernel
theorem d_R_badFlags_1 : decode b_R_badFlags 1 = .ok (.iconst 1, 1) := by decide +kernel
theorem d_R_badFlags_2 : decode b_R_badFlags 2 = .ok (.if_icmp .eq 12, 3) := by decide +kernel
theorem d_R_badFlags_5 : decode b_R_badFlags 5 = .ok (.iload_n 2, 1) := by decide +kernel
theorem d_R_badFlags_6 : decode b_R_badFlags 6 = .ok (.bipush 16, 2) := by decide +kernel
theorem d_R_badFlags_8 : decode b_R_badFlags 8 = .ok (.invokestatic 66, 3) := by decide +kernel
theorem d_R_badFlags_11 : decode b_R_badFlags 11 = .ok (.ifCond .ne 17, 3) := by decide +kernel
theorem d_R_badFlags_14 : decode b_R_badFlags 14 = .ok (.iload_n 1, 1) := by decide +kernel
theorem d_R_badFlags_15 : decode b_R_badFlags 15 = .ok (.iconst 2, 1) := by decide +kernel
theorem d_R_badFlags_16 : decode b_R_badFlags 16 = .ok (.if_icmp .ne 14, 3) := by decide +kernel
theorem d_R_badFlags_19 : decode b_R_badFlags 19 = .ok (.iload_n 2, 1) := by decide +kernel
theorem d_R_badFlags_20 : decode b_R_badFlags 20 = .ok (.bipush 12, 2) := by decide +kernel
theorem d_R_badFlags_22 : decode b_R_badFlags 22 = .ok (.invokestatic 66, 3) := by decide +kernel
theorem d_R_badFlags_25 : decode b_R_badFlags 25 = .ok (.ifCond .eq 5, 3) := by decide +kernel
theorem d_R_badFlags_28 : decode b_R_badFlags 28 = .ok (.iconst 1, 1) := by decide +kernel
theorem d_R_badFlags_29 : decode b_R_badFlags 29 = .ok (.ireturn, 1) := by decide +kernel
theorem d_R_badFlags_30 : decode b_R_badFlags 30 = .ok (.iload_n 2, 1) := by decide +kernel
theorem d_R_badFlags_31 : decode b_R_badFlags 31 = .ok (.bipush 16, 2) := by decide +kernel
theorem d_R_badFlags_33 : decode b_R_badFlags 33 = .ok (.invokestatic 66, 3) := by decide +kernel
theorem d_R_badFlags_36 : decode b_R_badFlags 36 = .ok (.ifCond .eq 20, 3) := by decide +kernel
theorem d_R_badFlags_39 : decode b_R_badFlags 39 = .ok (.iload_n 2, 1) := by decide +kernel
theorem d_R_badFlags_40 : decode b_R_badFlags 40 = .ok (.iconst 3, 1) := by decide +kernel
theorem d_R_badFlags_41 : decode b_R_badFlags 41 = .ok (.iand, 1) := by decide +kernel
theorem d_R_badFlags_42 : decode b_R_badFlags 42 = .ok (.ifCond .eq 12, 3) := by decide +kernel
theorem d_R_badFlags_45 : decode b_R_badFlags 45 = .ok (.iload_n 2, 1) := by decide +kernel
theorem d_R_badFlags_46 : decode b_R_badFlags 46 = .ok (.bipush 12, 2) := by decide +kernel
theorem d_R_badFlags_48 : decode b_R_badFlags 48 = .ok (.invokestatic 66, 3) := by decide +kernel
theorem d_R_badFlags_51 : decode b_R_badFlags 51 = .ok (.ifCond .eq 5, 3) := by decide +kernel
theorem d_R_badFlags_54 : decode b_R_badFlags 54 = .ok (.iconst 1, 1) := by decide +kernel
theorem d_R_badFlags_55 : decode b_R_badFlags 55 = .ok (.ireturn, 1) := by decide +kernel
theorem d_R_badFlags_56 : decode b_R_badFlags 56 = .ok (.iload_n 0, 1) := by decide +kernel
theorem d_R_badFlags_57 : decode b_R_badFlags 57 = .ok (.ifCond .ne 5, 3) := by decide +kernel
theorem d_R_badFlags_60 : decode b_R_badFlags 60 = .ok (.iconst 0, 1) := by decide +kernel
theorem d_R_badFlags_61 : decode b_R_badFlags 61 = .ok (.ireturn, 1) := by decide +kernel
theorem d_R_badFlags_62 : decode b_R_badFlags 62 = .ok (.iload_n 2, 1) := by decide +kernel
theorem d_R_badFlags_63 : decode b_R_badFlags 63 = .ok (.iconst 3, 1) := by decide +kernel
theorem d_R_badFlags_64 : decode b_R_badFlags 64 = .ok (.iand, 1) := by decide +kernel
theorem d_R_badFlags_65 : decode b_R_badFlags 65 = .ok (.istore_n 3, 1) := by decide +kernel
theorem d_R_badFlags_66 : decode b_R_badFlags 66 = .ok (.iload_n 1, 1) := by decide +kernel
theorem d_R_badFlags_67 : decode b_R_badFlags 67 = .ok (.iconst 2, 1) := by decide +kernel
theorem d_R_badFlags_68 : decode b_R_badFlags 68 = .ok (.if_icmp .eq 37, 3) := by decide +kernel
theorem d_R_badFlags_71 : decode b_R_badFlags 71 = .ok (.iload_n 1, 1) := by decide +kernel
theorem d_R_badFlags_72 : decode b_R_badFlags 72 = .ok (.ifCond .ne 9, 3) := by decide +kernel
theorem d_R_badFlags_75 : decode b_R_badFlags 75 = .ok (.iload_n 2, 1) := by decide +kernel
theorem d_R_badFlags_76 : decode b_R_badFlags 76 = .ok (.bipush 15, 2) := by decide +kernel
theorem d_R_badFlags_78 : decode b_R_badFlags 78 = .ok (.if_icmp .ne 27, 3) := by decide +kernel
theorem d_R_badFlags_81 : decode b_R_badFlags 81 = .ok (.iload_n 1, 1) := by decide +kernel
theorem d_R_badFlags_82 : decode b_R_badFlags 82 = .ok (.iconst 1, 1) := by decide +kernel
theorem d_R_badFlags_83 : decode b_R_badFlags 83 = .ok (.if_icmp .ne 26, 3) := by decide +kernel
theorem d_R_badFlags_86 : decode b_R_badFlags 86 = .ok (.iload_n 2, 1) := by decide +kernel
theorem d_R_badFlags_87 : decode b_R_badFlags 87 = .ok (.bipush 8, 2) := by decide +kernel
theorem d_R_badFlags_89 : decode b_R_badFlags 89 = .ok (.invokestatic 66, 3) := by decide +kernel
theorem d_R_badFlags_92 : decode b_R_badFlags 92 = .ok (.ifCond .ne 13, 3) := by decide +kernel
theorem d_R_badFlags_95 : decode b_R_badFlags 95 = .ok (.iload_n 3, 1) := by decide +kernel
theorem d_R_badFlags_96 : decode b_R_badFlags 96 = .ok (.iconst 1, 1) := by decide +kernel
theorem d_R_badFlags_97 : decode b_R_badFlags 97 = .ok (.if_icmp .eq 8, 3) := by decide +kernel
theorem d_R_badFlags_100 : decode b_R_badFlags 100 = .ok (.iload_n 3, 1) := by decide +kernel
theorem d_R_badFlags_101 : decode b_R_badFlags 101 = .ok (.iconst 2, 1) := by decide +kernel
theorem d_R_badFlags_102 : decode b_R_badFlags 102 = .ok (.if_icmp .ne 7, 3) := by decide +kernel
