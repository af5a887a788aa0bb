theorem d_R_forUnseal_48 : decode b_R_forUnseal 48 = .ok (.ifCond .le 5, 3) := by decide +kernel
theorem d_R_forUnseal_51 : decode b_R_forUnseal 51 = .ok (.iconst 2, 1) := by decide +kernel
theorem d_R_forUnseal_52 : decode b_R_forUnseal 52 = .ok (.ireturn, 1) := by decide +kernel
theorem d_R_forUnseal_53 : decode b_R_forUnseal 53 = .ok (.aload_n 0, 1) := by decide +kernel
theorem d_R_forUnseal_54 : decode b_R_forUnseal 54 = .ok (.getfield 26, 3) := by decide +kernel
theorem d_R_forUnseal_57 : decode b_R_forUnseal 57 = .ok (.aload_n 0, 1) := by decide +kernel
theorem d_R_forUnseal_58 : decode b_R_forUnseal 58 = .ok (.getfield 60, 3) := by decide +kernel
theorem d_R_forUnseal_61 : decode b_R_forUnseal 61 = .ok (.iaload, 1) := by decide +kernel
theorem d_R_forUnseal_62 : decode b_R_forUnseal 62 = .ok (.aload_n 0, 1) := by decide +kernel
theorem d_R_forUnseal_63 : decode b_R_forUnseal 63 = .ok (.getfield 32, 3) := by decide +kernel
theorem d_R_forUnseal_66 : decode b_R_forUnseal 66 = .ok (.aload_n 0, 1) := by decide +kernel
theorem d_R_forUnseal_67 : decode b_R_forUnseal 67 = .ok (.getfield 57, 3) := by decide +kernel
theorem d_R_forUnseal_70 : decode b_R_forUnseal 70 = .ok (.iaload, 1) := by decide +kernel
theorem d_R_forUnseal_71 : decode b_R_forUnseal 71 = .ok (.if_icmp .eq 6, 3) := by decide +kernel
theorem d_R_forUnseal_74 : decode b_R_forUnseal 74 = .ok (.bipush 7, 2) := by decide +kernel
theorem d_R_forUnseal_76 : decode b_R_forUnseal 76 = .ok (.ireturn, 1) := by decide +kernel
theorem d_R_forUnseal_77 : decode b_R_forUnseal 77 = .ok (.aload_n 0, 1) := by decide +kernel
theorem d_R_forUnseal_78 : decode b_R_forUnseal 78 = .ok (.aload_n 0, 1) := by decide +kernel
theorem d_R_forUnseal_79 : decode b_R_forUnseal 79 = .ok (.getfield 60, 3) := by decide +kernel
theorem d_R_forUnseal_82 : decode b_R_forUnseal 82 = .ok (.bipush 64, 2) := by decide +kernel
theorem d_R_forUnseal_84 : decode b_R_forUnseal 84 = .ok (.invokevirtual 51, 3) := by decide +kernel
theorem d_R_forUnseal_87 : decode b_R_forUnseal 87 = .ok (.ifCond .ne 7, 3) := by decide +kernel
theorem d_R_forUnseal_90 : decode b_R_forUnseal 90 = .ok (.iconst 3, 1) := by decide +kernel
theorem d_R_forUnseal_91 : decode b_R_forUnseal 91 = .ok (.goto 19, 3) := by decide +kernel
theorem d_R_forUnseal_94 : decode b_R_forUnseal 94 = .ok (.aload_n 0, 1) := by decide +kernel
theorem d_R_forUnseal_95 : decode b_R_forUnseal 95 = .ok (.aload_n 0, 1) := by decide +kernel
theorem d_R_forUnseal_96 : decode b_R_forUnseal 96 = .ok (.getfield 60, 3) := by decide +kernel
theorem d_R_forUnseal_99 : decode b_R_forUnseal 99 = .ok (.invokevirtual 75, 3) := by decide +kernel
theorem d_R_forUnseal_102 : decode b_R_forUnseal 102 = .ok (.ifCond .eq 7, 3) := by decide +kernel
theorem d_R_forUnseal_105 : decode b_R_forUnseal 105 = .ok (.iconst 0, 1) := by decide +kernel
theorem d_R_forUnseal_106 : decode b_R_forUnseal 106 = .ok (.goto 4, 3) := by decide +kernel
theorem d_R_forUnseal_109 : decode b_R_forUnseal 109 = .ok (.iconst 4, 1) := by decide +kernel
theorem d_R_forUnseal_110 : decode b_R_forUnseal 110 = .ok (.ireturn, 1) := by decide +kernel
theorem d_R_goes_0 : decode b_R_goes 0 = .ok (.aload_n 0, 1) := by decide +kernel
theorem d_R_goes_1 : decode b_R_goes 1 = .ok (.getfield 72, 3) := by decide +kernel
theorem d_R_goes_4 : decode b_R_goes 4 = .ok (.iconst 4, 1) := by decide +kernel
theorem d_R_goes_5 : decode b_R_goes 5 = .ok (.if_icmp .ne 32, 3) := by decide +kernel
theorem d_R_goes_8 : decode b_R_goes 8 = .ok (.aload_n 0, 1) := by decide +kernel
theorem d_R_goes_9 : decode b_R_goes 9 = .ok (.getfield 26, 3) := by decide +kernel
theorem d_R_goes_12 : decode b_R_goes 12 = .ok (.aload_n 0, 1) := by decide +kernel
theorem d_R_goes_13 : decode b_R_goes 13 = .ok (.getfield 79, 3) := by decide +kernel
theorem d_R_goes_16 : decode b_R_goes 16 = .ok (.iaload, 1) := by decide +kernel
theorem d_R_goes_17 : decode b_R_goes 17 = .ok (.aload_n 0, 1) := by decide +kernel
theorem d_R_goes_18 : decode b_R_goes 18 = .ok (.getfield 26, 3) := by decide +kernel
theorem d_R_goes_21 : decode b_R_goes 21 = .ok (.aload_n 0, 1) := by decide +kernel
theorem d_R_goes_22 : decode b_R_goes 22 = .ok (.getfield 57, 3) := by decide +kernel
theorem d_R_goes_25 : decode b_R_goes 25 = .ok (.iaload, 1) := by decide +kernel
theorem d_R_goes_26 : decode b_R_goes 26 = .ok (.if_icmp .ne 7, 3) := by decide +kernel
theorem d_R_goes_29 : decode b_R_goes 29 = .ok (.iconst 1, 1) := by decide +kernel
theorem d_R_goes_30 : decode b_R_goes 30 = .ok (.goto 70, 3) := by decide +kernel
theorem d_R_goes_33 : decode b_R_goes 33 = .ok (.iconst 0, 1) := by decide +kernel
theorem d_R_goes_34 : decode b_R_goes 34 = .ok (.goto 66, 3) := by decide +kernel
theorem d_R_goes_37 : decode b_R_goes 37 = .ok (.aload_n 0, 1) := by decide +kernel
theorem d_R_goes_38 : decode b_R_goes 38 = .ok (.getfield 72, 3) := by decide +kernel
theorem d_R_goes_41 : decode b_R_goes 41 = .ok (.iconst 5, 1) := by decide +kernel
theorem d_R_goes_42 : decode b_R_goes 42 = .ok (.if_icmp .ne 32, 3) := by decide +kernel
theorem d_R_goes_45 : decode b_R_goes 45 = .ok (.aload_n 0, 1) := by decide +kernel
theorem d_R_goes_46 : decode b_R_goes 46 = .ok (.getfield 26, 3) := by decide +kernel
theorem d_R_goes_49 : decode b_R_goes 49 = .ok (.aload_n 0, 1) := by decide +kernel
theorem d_R_goes_50 : decode b_R_goes 50 = .ok (.getfield 79, 3) := by decide +kernel
theorem d_R_goes_53 : decode b_R_goes 53 = .ok (.iaload, 1) := by decide +kernel
theorem d_R_goes_54 : decode b_R_goes 54 = .ok (.aload_n 0, 1) := by decide +kernel
theorem d_R_goes_55 : decode b_R_goes 55 = .ok (.getfield 26, 3) := by decide +kernel
theorem d_R_goes_58 : decode b_R_goes 58 = .ok (.aload_n 0, 1) := by decide +kernel
theorem d_R_goes_59 : decode b_R_goes 59 = .ok (.getfield 57, 3) := by decide +kernel
theorem d_R_goes_62 : decode b_R_goes 62 = .ok (.iaload, 1) := by decide +kernel
theorem d_R_goes_63 : decode b_R_goes 63 = .ok (.if_icmp .ge 7, 3) := by decide +kernel
theorem d_R_goes_66 : decode b_R_goes 66 = .ok (.iconst 1, 1) := by decide +kernel
theorem d_R_goes_67 : decode b_R_goes 67 = .ok (.goto 33, 3) := by decide +kernel
theorem d_R_goes_70 : decode b_R_goes 70 = .ok (.iconst 0, 1) := by decide +kernel
theorem d_R_goes_71 : decode b_R_goes 71 = .ok (.goto 29, 3) := by decide +kernel
theorem d_R_goes_74 : decode b_R_goes 74 = .ok (.aload_n 0, 1) := by decide +kernel
theorem d_R_goes_75 : decode b_R_goes 75 = .ok (.getfield 26, 3) := by decide +kernel
theorem d_R_goes_78 : decode b_R_goes 78 = .ok (.aload_n 0, 1) := by decide +kernel
theorem d_R_goes_79 : decode b_R_goes 79 = .ok (.getfield 79, 3) := by decide +kernel
theorem d_R_goes_82 : decode b_R_goes 82 = .ok (.iaload, 1) := by decide +kernel
theorem d_R_goes_83 : decode b_R_goes 83 = .ok (.aload_n 0, 1) := by decide +kernel
theorem d_R_goes_84 : decode b_R_goes 84 = .ok (.getfield 26, 3) := by decide +kernel
theorem d_R_goes_87 : decode b_R_goes 87 = .ok (.aload_n 0, 1) := by decide +kernel
theorem d_R_goes_88 : decode b_R_goes 88 = .ok (.getfield 57, 3) := by decide +kernel
theorem d_R_goes_91 : decode b_R_goes 91 = .ok (.iaload, 1) := by decide +kernel
theorem d_R_goes_92 : decode b_R_goes 92 = .ok (.if_icmp .eq 7, 3) := by decide +kernel
theorem d_R_goes_95 : decode b_R_goes 95 = .ok (.iconst 1, 1) := by decide +kernel
theorem d_R_goes_96 : decode b_R_goes 96 = .ok (.goto 4, 3) := by decide +kernel
theorem d_R_goes_99 : decode b_R_goes 99 = .ok (.iconst 0, 1) := by decide +kernel
theorem d_R_goes_100 : decode b_R_goes 100 = .ok (.ireturn, 1) := by decide +kernel
theorem d_R_grant_0 : decode b_R_grant 0 = .ok (.aload_n 0, 1) := by decide +kernel
theorem d_R_grant_1 : decode b_R_grant 1 = .ok (.iload_n 1, 1) := by decide +kernel
theorem d_R_grant_2 : decode b_R_grant 2 = .ok (.iconst 0, 1) := by decide +kernel
theorem d_R_grant_3 : decode b_R_grant 3 = .ok (.bipush 9, 2) := by decide +kernel
theorem d_R_grant_5 : decode b_R_grant 5 = .ok (.invokestatic 43, 3) := by decide +kernel
theorem d_R_grant_8 : decode b_R_grant 8 = .ok (.ifCond .ne 31, 3) := by decide +kernel
theorem d_R_grant_11 : decode b_R_grant 11 = .ok (.iload_n 2, 1) := by decide +kernel
theorem d_R_grant_12 : decode b_R_grant 12 = .ok (.ifCond .lt 27, 3) := by decide +kernel
theorem d_R_grant_15 : decode b_R_grant 15 = .ok (.iload_n 2, 1) := by decide +kernel
theorem d_R_grant_16 : decode b_R_grant 16 = .ok (.iload_n 3, 1) := by decide +kernel
theorem d_R_grant_17 : decode b_R_grant 17 = .ok (.if_icmp .gt 22, 3) := by decide +kernel
theorem d_R_grant_20 : decode b_R_grant 20 = .ok (.iload_n 3, 1) := by decide +kernel
theorem d_R_grant_21 : decode b_R_grant 21 = .ok (.sipush 512, 3) := by decide +kernel
theorem d_R_grant_24 : decode b_R_grant 24 = .ok (.if_icmp .gt 15, 3) := by decide +kernel
theorem d_R_grant_27 : decode b_R_grant 27 = .ok (.iload 5, 2) := by decide +kernel
theorem d_R_grant_29 : decode b_R_grant 29 = .ok (.iconst 0, 1) := by decide +kernel
theorem d_R_grant_30 : decode b_R_grant 30 = .ok (.sipush 255, 3) := by decide +kernel
theorem d_R_grant_33 : decode b_R_grant 33 = .ok (.invokestatic 43, 3) := by decide +kernel
theorem d_R_grant_36 : decode b_R_grant 36 = .ok (.ifCond .eq 7, 3) := by decide +kernel
theorem d_R_grant_39 : decode b_R_grant 39 = .ok (.iconst 1, 1) := by decide +kernel
theorem d_R_grant_40 : decode b_R_grant 40 = .ok (.goto 4, 3) := by decide +kernel
theorem d_R_grant_43 : decode b_R_grant 43 = .ok (.iconst 0, 1) := by decide +kernel
theorem d_R_grant_44 : decode b_R_grant 44 = .ok (.putfield 39, 3) := by decide +kernel
theorem d_R_grant_47 : decode b_R_grant 47 = .ok (.aload_n 0, 1) := by decide +kernel
theorem d_R_grant_48 : decode b_R_grant 48 = .ok (.getfield 39, 3) := by decide +kernel
theorem d_R_grant_51 : decode b_R_grant 51 = .ok (.ifCond .le 4, 3) := by decide +kernel
theorem d_R_grant_54 : decode b_R_grant 54 = .ok (.return_, 1) := by decide +kernel
theorem d_R_grant_55 : decode b_R_grant 55 = .ok (.aload_n 0, 1) := by decide +kernel
theorem d_R_grant_56 : decode b_R_grant 56 = .ok (.iload_n 1, 1) := by decide +kernel
theorem d_R_grant_57 : decode b_R_grant 57 = .ok (.iload_n 2, 1) := by decide +kernel
theorem d_R_grant_58 : decode b_R_grant 58 = .ok (.iload_n 3, 1) := by decide +kernel
theorem d_R_grant_59 : decode b_R_grant 59 = .ok (.iload 4, 2) := by decide +kernel
theorem d_R_grant_61 : decode b_R_grant 61 = .ok (.iload 5, 2) := by decide +kernel
theorem d_R_grant_63 : decode b_R_grant 63 = .ok (.invokevirtual 35, 3) := by decide +kernel
theorem d_R_grant_66 : decode b_R_grant 66 = .ok (.aload_n 0, 1) := by decide +kernel
theorem d_R_grant_67 : decode b_R_grant 67 = .ok (.iconst 0, 1) := by decide +kernel
theorem d_R_grant_68 : decode b_R_grant 68 = .ok (.putfield 168, 3) := by decide +kernel
theorem d_R_grant_71 : decode b_R_grant 71 = .ok (.return_, 1) := by decide +kernel
theorem d_R_init_0 : decode b_R_init 0 = .ok (.aload_n 0, 1) := by decide +kernel
theorem d_R_init_1 : decode b_R_init 1 = .ok (.invokespecial 1, 3) := by decide +kernel
theorem d_R_init_4 : decode b_R_init 4 = .ok (.aload_n 0, 1) := by decide +kernel
theorem d_R_init_5 : decode b_R_init 5 = .ok (.sipush 512, 3) := by decide +kernel
theorem d_R_init_8 : decode b_R_init 8 = .ok (.newarray .int, 2) := by decide +kernel
theorem d_R_init_10 : decode b_R_init 10 = .ok (.putfield 7, 3) := by decide +kernel
theorem d_R_init_13 : decode b_R_init 13 = .ok (.aload_n 0, 1) := by decide +kernel
theorem d_R_init_14 : decode b_R_init 14 = .ok (.bipush 64, 2) := by decide +kernel
theorem d_R_init_16 : decode b_R_init 16 = .ok (.newarray .boolean, 2) := by decide +kernel
theorem d_R_init_18 : decode b_R_init 18 = .ok (.putfield 13, 3) := by decide +kernel
theorem d_R_init_21 : decode b_R_init 21 = .ok (.aload_n 0, 1) := by decide +kernel
theorem d_R_init_22 : decode b_R_init 22 = .ok (.bipush 12, 2) := by decide +kernel
theorem d_R_init_24 : decode b_R_init 24 = .ok (.newarray .boolean, 2) := by decide +kernel
theorem d_R_init_26 : decode b_R_init 26 = .ok (.putfield 17, 3) := by decide +kernel
theorem d_R_init_29 : decode b_R_init 29 = .ok (.aload_n 0, 1) := by decide +kernel
theorem d_R_init_30 : decode b_R_init 30 = .ok (.bipush 12, 2) := by decide +kernel
theorem d_R_init_32 : decode b_R_init 32 = .ok (.newarray .int, 2) := by decide +kernel
theorem d_R_init_34 : decode b_R_init 34 = .ok (.putfield 20, 3) := by decide +kernel
theorem d_R_init_37 : decode b_R_init 37 = .ok (.aload_n 0, 1) := by decide +kernel
theorem d_R_init_38 : decode b_R_init 38 = .ok (.bipush 12, 2) := by decide +kernel
theorem d_R_init_40 : decode b_R_init 40 = .ok (.newarray .int, 2) := by decide +kernel
theorem d_R_init_42 : decode b_R_init 42 = .ok (.putfield 23, 3) := by decide +kernel
theorem d_R_init_45 : decode b_R_init 45 = .ok (.aload_n 0, 1) := by decide +kernel
theorem d_R_init_46 : decode b_R_init 46 = .ok (.bipush 12, 2) := by decide +kernel
theorem d_R_init_48 : decode b_R_init 48 = .ok (.newarray .int, 2) := by decide +kernel
theorem d_R_init_50 : decode b_R_init 50 = .ok (.putfield 26, 3) := by decide +kernel
theorem d_R_init_53 : decode b_R_init 53 = .ok (.aload_n 0, 1) := by decide +kernel
theorem d_R_init_54 : decode b_R_init 54 = .ok (.bipush 12, 2) := by decide +kernel
theorem d_R_init_56 : decode b_R_init 56 = .ok (.newarray .int, 2) := by decide +kernel
theorem d_R_init_58 : decode b_R_init 58 = .ok (.putfield 29, 3) := by decide +kernel
theorem d_R_init_61 : decode b_R_init 61 = .ok (.aload_n 0, 1) := by decide +kernel
theorem d_R_init_62 : decode b_R_init 62 = .ok (.bipush 12, 2) := by decide +kernel
theorem d_R_init_64 : decode b_R_init 64 = .ok (.newarray .int, 2) := by decide +kernel
theorem d_R_init_66 : decode b_R_init 66 = .ok (.putfield 32, 3) := by decide +kernel
theorem d_R_init_69 : decode b_R_init 69 = .ok (.aload_n 0, 1) := by decide +kernel
theorem d_R_init_70 : decode b_R_init 70 = .ok (.bipush 8, 2) := by decide +kernel
theorem d_R_init_72 : decode b_R_init 72 = .ok (.iconst 0, 1) := by decide +kernel
theorem d_R_init_73 : decode b_R_init 73 = .ok (.sipush 512, 3) := by decide +kernel
theorem d_R_init_76 : decode b_R_init 76 = .ok (.iconst 0, 1) := by decide +kernel
theorem d_R_init_77 : decode b_R_init 77 = .ok (.sipush 255, 3) := by decide +kernel
theorem d_R_init_80 : decode b_R_init 80 = .ok (.invokevirtual 35, 3) := by decide +kernel
theorem d_R_init_83 : decode b_R_init 83 = .ok (.aload_n 0, 1) := by decide +kernel
theorem d_R_init_84 : decode b_R_init 84 = .ok (.iconst 1, 1) := by decide +kernel
theorem d_R_init_85 : decode b_R_init 85 = .ok (.iconst 0, 1) := by decide +kernel
theorem d_R_init_86 : decode b_R_init 86 = .ok (.sipush 512, 3) := by decide +kernel
theorem d_R_init_89 : decode b_R_init 89 = .ok (.iconst 0, 1) := by decide +kernel
theorem d_R_init_90 : decode b_R_init 90 = .ok (.sipush 255, 3) := by decide +kernel
theorem d_R_init_93 : decode b_R_init 93 = .ok (.invokevirtual 35, 3) := by decide +kernel
theorem d_R_init_96 : decode b_R_init 96 = .ok (.return_, 1) := by decide +kernel
theorem d_R_jump_0 : decode b_R_jump 0 = .ok (.aload_n 0, 1) := by decide +kernel
theorem d_R_jump_1 : decode b_R_jump 1 = .ok (.aload_n 0, 1) := by decide +kernel
theorem d_R_jump_2 : decode b_R_jump 2 = .ok (.getfield 57, 3) := by decide +kernel
theorem d_R_jump_5 : decode b_R_jump 5 = .ok (.bipush 11, 2) := by decide +kernel
theorem d_R_jump_7 : decode b_R_jump 7 = .ok (.invokevirtual 134, 3) := by decide +kernel
theorem d_R_jump_10 : decode b_R_jump 10 = .ok (.aload_n 0, 1) := by decide +kernel
theorem d_R_jump_11 : decode b_R_jump 11 = .ok (.bipush 8, 2) := by decide +kernel
theorem d_R_jump_13 : decode b_R_jump 13 = .ok (.aload_n 0, 1) := by decide +kernel
theorem d_R_jump_14 : decode b_R_jump 14 = .ok (.getfield 79, 3) := by decide +kernel
theorem d_R_jump_17 : decode b_R_jump 17 = .ok (.invokevirtual 134, 3) := by decide +kernel
theorem d_R_jump_20 : decode b_R_jump 20 = .ok (.aload_n 0, 1) := by decide +kernel
theorem d_R_jump_21 : decode b_R_jump 21 = .ok (.aload_n 0, 1) := by decide +kernel
theorem d_R_jump_22 : decode b_R_jump 22 = .ok (.getfield 79, 3) := by decide +kernel
theorem d_R_jump_25 : decode b_R_jump 25 = .ok (.aload_n 0, 1) := by decide +kernel
theorem d_R_jump_26 : decode b_R_jump 26 = .ok (.getfield 26, 3) := by decide +kernel
theorem d_R_jump_29 : decode b_R_jump 29 = .ok (.bipush 8, 2) := by decide +kernel
theorem d_R_jump_31 : decode b_R_jump 31 = .ok (.iaload, 1) := by decide +kernel
theorem d_R_jump_32 : decode b_R_jump 32 = .ok (.iconst 4, 1) := by decide +kernel
theorem d_R_jump_33 : decode b_R_jump 33 = .ok (.iadd, 1) := by decide +kernel
theorem d_R_jump_34 : decode b_R_jump 34 = .ok (.invokevirtual 137, 3) := by decide +kernel
theorem d_R_jump_37 : decode b_R_jump 37 = .ok (.aload_n 0, 1) := by decide +kernel
theorem d_R_jump_38 : decode b_R_jump 38 = .ok (.getfield 32, 3) := by decide +kernel
theorem d_R_jump_41 : decode b_R_jump 41 = .ok (.aload_n 0, 1) := by decide +kernel
theorem d_R_jump_42 : decode b_R_jump 42 = .ok (.getfield 79, 3) := by decide +kernel
theorem d_R_jump_45 : decode b_R_jump 45 = .ok (.iconst 1, 1) := by decide +kernel
theorem d_R_jump_46 : decode b_R_jump 46 = .ok (.iastore, 1) := by decide +kernel
theorem d_R_jump_47 : decode b_R_jump 47 = .ok (.aload_n 0, 1) := by decide +kernel
theorem d_R_jump_48 : decode b_R_jump 48 = .ok (.bipush 11, 2) := by decide +kernel
theorem d_R_jump_50 : decode b_R_jump 50 = .ok (.bipush 8, 2) := by decide +kernel
theorem d_R_jump_52 : decode b_R_jump 52 = .ok (.invokevirtual 134, 3) := by decide +kernel
theorem d_R_jump_55 : decode b_R_jump 55 = .ok (.aload_n 0, 1) := by decide +kernel
theorem d_R_jump_56 : decode b_R_jump 56 = .ok (.getfield 32, 3) := by decide +kernel
theorem d_R_jump_59 : decode b_R_jump 59 = .ok (.bipush 8, 2) := by decide +kernel
theorem d_R_jump_61 : decode b_R_jump 61 = .ok (.iconst 0, 1) := by decide +kernel
theorem d_R_jump_62 : decode b_R_jump 62 = .ok (.iastore, 1) := by decide +kernel
theorem d_R_jump_63 : decode b_R_jump 63 = .ok (.return_, 1) := by decide +kernel
theorem d_R_load_0 : decode b_R_load 0 = .ok (.aload_n 0, 1) := by decide +kernel
theorem d_R_load_1 : decode b_R_load 1 = .ok (.iload_n 1, 1) := by decide +kernel
theorem d_R_load_2 : decode b_R_load 2 = .ok (.invokevirtual 111, 3) := by decide +kernel
theorem d_R_load_5 : decode b_R_load 5 = .ok (.istore_n 2, 1) := by decide +kernel
theorem d_R_load_6 : decode b_R_load 6 = .ok (.aload_n 0, 1) := by decide +kernel
theorem d_R_load_7 : decode b_R_load 7 = .ok (.iload_n 1, 1) := by decide +kernel
theorem d_R_load_8 : decode b_R_load 8 = .ok (.iconst 4, 1) := by decide +kernel
theorem d_R_load_9 : decode b_R_load 9 = .ok (.iadd, 1) := by decide +kernel
theorem d_R_load_10 : decode b_R_load 10 = .ok (.invokevirtual 111, 3) := by decide +kernel
theorem d_R_load_13 : decode b_R_load 13 = .ok (.istore_n 3, 1) := by decide +kernel
theorem d_R_load_14 : decode b_R_load 14 = .ok (.aload_n 0, 1) := by decide +kernel
theorem d_R_load_15 : decode b_R_load 15 = .ok (.aload_n 0, 1) := by decide +kernel
theorem d_R_load_16 : decode b_R_load 16 = .ok (.getfield 79, 3) := by decide +kernel
theorem d_R_load_19 : decode b_R_load 19 = .ok (.iload_n 3, 1) := by decide +kernel
theorem d_R_load_20 : decode b_R_load 20 = .ok (.sipush 1023, 3) := by decide +kernel
theorem d_R_load_23 : decode b_R_load 23 = .ok (.iand, 1) := by decide +kernel
theorem d_R_load_24 : decode b_R_load 24 = .ok (.iload_n 3, 1) := by decide +kernel
theorem d_R_load_25 : decode b_R_load 25 = .ok (.bipush 10, 2) := by decide +kernel
theorem d_R_load_27 : decode b_R_load 27 = .ok (.ishr, 1) := by decide +kernel
theorem d_R_load_28 : decode b_R_load 28 = .ok (.sipush 1023, 3) := by decide +kernel
theorem d_R_load_31 : decode b_R_load 31 = .ok (.iand, 1) := by decide +kernel
theorem d_R_load_32 : decode b_R_load 32 = .ok (.iload_n 2, 1) := by decide +kernel
theorem d_R_load_33 : decode b_R_load 33 = .ok (.iload_n 3, 1) := by decide +kernel
theorem d_R_load_34 : decode b_R_load 34 = .ok (.bipush 24, 2) := by decide +kernel
theorem d_R_load_36 : decode b_R_load 36 = .ok (.ishr, 1) := by decide +kernel
theorem d_R_load_37 : decode b_R_load 37 = .ok (.sipush 255, 3) := by decide +kernel
theorem d_R_load_40 : decode b_R_load 40 = .ok (.iand, 1) := by decide +kernel
theorem d_R_load_41 : decode b_R_load 41 = .ok (.invokevirtual 35, 3) := by decide +kernel
theorem d_R_load_44 : decode b_R_load 44 = .ok (.aload_n 0, 1) := by decide +kernel
theorem d_R_load_45 : decode b_R_load 45 = .ok (.getfield 32, 3) := by decide +kernel
theorem d_R_load_48 : decode b_R_load 48 = .ok (.aload_n 0, 1) := by decide +kernel
theorem d_R_load_49 : decode b_R_load 49 = .ok (.getfield 79, 3) := by decide +kernel
theorem d_R_load_52 : decode b_R_load 52 = .ok (.iload_n 3, 1) := by decide +kernel
theorem d_R_load_53 : decode b_R_load 53 = .ok (.bipush 20, 2) := by decide +kernel
theorem d_R_load_55 : decode b_R_load 55 = .ok (.ishr, 1) := by decide +kernel
theorem d_R_load_56 : decode b_R_load 56 = .ok (.bipush 15, 2) := by decide +kernel
theorem d_R_load_58 : decode b_R_load 58 = .ok (.iand, 1) := by decide +kernel
theorem d_R_load_59 : decode b_R_load 59 = .ok (.iastore, 1) := by decide +kernel
theorem d_R_load_60 : decode b_R_load 60 = .ok (.aload_n 0, 1) := by decide +kernel
theorem d_R_load_61 : decode b_R_load 61 = .ok (.getfield 17, 3) := by decide +kernel
theorem d_R_load_64 : decode b_R_load 64 = .ok (.aload_n 0, 1) := by decide +kernel
theorem d_R_load_65 : decode b_R_load 65 = .ok (.getfield 79, 3) := by decide +kernel
theorem d_R_load_68 : decode b_R_load 68 = .ok (.aload_n 0, 1) := by decide +kernel
theorem d_R_load_69 : decode b_R_load 69 = .ok (.getfield 13, 3) := by decide +kernel
theorem d_R_load_72 : decode b_R_load 72 = .ok (.iload_n 1, 1) := by decide +kernel
theorem d_R_load_73 : decode b_R_load 73 = .ok (.bipush 8, 2) := by decide +kernel
theorem d_R_load_75 : decode b_R_load 75 = .ok (.idiv, 1) := by decide +kernel
theorem d_R_load_76 : decode b_R_load 76 = .ok (.baload, 1) := by decide +kernel
theorem d_R_load_77 : decode b_R_load 77 = .ok (.bastore, 1) := by decide +kernel
theorem d_R_load_78 : decode b_R_load 78 = .ok (.return_, 1) := by decide +kernel
theorem d_R_look_0 : decode b_R_look 0 = .ok (.iload_n 1, 1) := by decide +kernel
theorem d_R_look_1 : decode b_R_look 1 = .ok (.iconst 0, 1) := by decide +kernel
theorem d_R_look_2 : decode b_R_look 2 = .ok (.bipush 10, 2) := by decide +kernel
theorem d_R_look_4 : decode b_R_look 4 = .ok (.invokestatic 43, 3) := by decide +kernel
theorem d_R_look_7 : decode b_R_look 7 = .ok (.ifCond .ne 12, 3) := by decide +kernel
theorem d_R_look_10 : decode b_R_look 10 = .ok (.iload_n 2, 1) := by decide +kernel
theorem d_R_look_11 : decode b_R_look 11 = .ok (.iconst 0, 1) := by decide +kernel
theorem d_R_look_12 : decode b_R_look 12 = .ok (.iconst 5, 1) := by decide +kernel
theorem d_R_look_13 : decode b_R_look 13 = .ok (.invokestatic 43, 3) := by decide +kernel
theorem d_R_look_16 : decode b_R_look 16 = .ok (.ifCond .eq 9, 3) := by decide +kernel
theorem d_R_look_19 : decode b_R_look 19 = .ok (.aload_n 0, 1) := by decide +kernel
theorem d_R_look_20 : decode b_R_look 20 = .ok (.iconst 1, 1) := by decide +kernel
theorem d_R_look_21 : decode b_R_look 21 = .ok (.invokevirtual 180, 3) := by decide +kernel
theorem d_R_look_24 : decode b_R_look 24 = .ok (.ireturn, 1) := by decide +kernel
theorem d_R_look_25 : decode b_R_look 25 = .ok (.aload_n 0, 1) := by decide +kernel
theorem d_R_look_26 : decode b_R_look 26 = .ok (.iconst 0, 1) := by decide +kernel
theorem d_R_look_27 : decode b_R_look 27 = .ok (.putfield 39, 3) := by decide +kernel
theorem d_R_look_30 : decode b_R_look 30 = .ok (.iload_n 2, 1) := by decide +kernel
theorem d_R_look_31 : decode b_R_look 31 = .ok (.iconst 1, 1) := by decide +kernel
theorem d_R_look_32 : decode b_R_look 32 = .ok (.if_icmp .ne 12, 3) := by decide +kernel
theorem d_R_look_35 : decode b_R_look 35 = .ok (.aload_n 0, 1) := by decide +kernel
theorem d_R_look_36 : decode b_R_look 36 = .ok (.getfield 20, 3) := by decide +kernel
theorem d_R_look_39 : decode b_R_look 39 = .ok (.iload_n 1, 1) := by decide +kernel
theorem d_R_look_40 : decode b_R_look 40 = .ok (.iaload, 1) := by decide +kernel
theorem d_R_look_41 : decode b_R_look 41 = .ok (.goto 9, 3) := by decide +kernel
theorem d_R_look_44 : decode b_R_look 44 = .ok (.aload_n 0, 1) := by decide +kernel
theorem d_R_look_45 : decode b_R_look 45 = .ok (.getfield 23, 3) := by decide +kernel
theorem d_R_look_48 : decode b_R_look 48 = .ok (.iload_n 1, 1) := by decide +kernel
theorem d_R_look_49 : decode b_R_look 49 = .ok (.iaload, 1) := by decide +kernel
theorem d_R_look_50 : decode b_R_look 50 = .ok (.istore_n 3, 1) := by decide +kernel
theorem d_R_look_51 : decode b_R_look 51 = .ok (.iload_n 2, 1) := by decide +kernel
theorem d_R_look_52 : decode b_R_look 52 = .ok (.iconst 3, 1) := by decide +kernel
theorem d_R_look_53 : decode b_R_look 53 = .ok (.if_icmp .ne 12, 3) := by decide +kernel
theorem d_R_look_56 : decode b_R_look 56 = .ok (.aload_n 0, 1) := by decide +kernel
theorem d_R_look_57 : decode b_R_look 57 = .ok (.getfield 29, 3) := by decide +kernel
theorem d_R_look_60 : decode b_R_look 60 = .ok (.iload_n 1, 1) := by decide +kernel
theorem d_R_look_61 : decode b_R_look 61 = .ok (.iaload, 1) := by decide +kernel
theorem d_R_look_62 : decode b_R_look 62 = .ok (.goto 23, 3) := by decide +kernel
theorem d_R_look_65 : decode b_R_look 65 = .ok (.iload_n 2, 1) := by decide +kernel
theorem d_R_look_66 : decode b_R_look 66 = .ok (.iconst 4, 1) := by decide +kernel
theorem d_R_look_67 : decode b_R_look 67 = .ok (.if_icmp .ne 12, 3) := by decide +kernel
theorem d_R_look_70 : decode b_R_look 70 = .ok (.aload_n 0, 1) := by decide +kernel
theorem d_R_look_71 : decode b_R_look 71 = .ok (.getfield 32, 3) := by decide +kernel
theorem d_R_look_74 : decode b_R_look 74 = .ok (.iload_n 1, 1) := by decide +kernel
theorem d_R_look_75 : decode b_R_look 75 = .ok (.iaload, 1) := by decide +kernel
theorem d_R_look_76 : decode b_R_look 76 = .ok (.goto 9, 3) := by decide +kernel
theorem d_R_look_79 : decode b_R_look 79 = .ok (.aload_n 0, 1) := by decide +kernel
theorem d_R_look_80 : decode b_R_look 80 = .ok (.getfield 26, 3) := by decide +kernel
theorem d_R_look_83 : decode b_R_look 83 = .ok (.iload_n 1, 1) := by decide +kernel
theorem d_R_look_84 : decode b_R_look 84 = .ok (.iaload, 1) := by decide +kernel
theorem d_R_look_85 : decode b_R_look 85 = .ok (.istore 4, 2) := by decide +kernel
theorem d_R_look_87 : decode b_R_look 87 = .ok (.iload_n 2, 1) := by decide +kernel
theorem d_R_look_88 : decode b_R_look 88 = .ok (.ifCond .ne 20, 3) := by decide +kernel
theorem d_R_look_91 : decode b_R_look 91 = .ok (.aload_n 0, 1) := by decide +kernel
theorem d_R_look_92 : decode b_R_look 92 = .ok (.getfield 17, 3) := by decide +kernel
theorem d_R_look_95 : decode b_R_look 95 = .ok (.iload_n 1, 1) := by decide +kernel
theorem d_R_look_96 : decode b_R_look 96 = .ok (.baload, 1) := by decide +kernel
theorem d_R_look_97 : decode b_R_look 97 = .ok (.ifCond .eq 7, 3) := by decide +kernel
theorem d_R_look_100 : decode b_R_look 100 = .ok (.iconst 1, 1) := by decide +kernel
theorem d_R_look_101 : decode b_R_look 101 = .ok (.goto 18, 3) := by decide +kernel
theorem d_R_look_104 : decode b_R_look 104 = .ok (.iconst 0, 1) := by decide +kernel
theorem d_R_look_105 : decode b_R_look 105 = .ok (.goto 14, 3) := by decide +kernel
theorem d_R_look_108 : decode b_R_look 108 = .ok (.iload_n 2, 1) := by decide +kernel
theorem d_R_look_109 : decode b_R_look 109 = .ok (.iconst 3, 1) := by decide +kernel
theorem d_R_look_110 : decode b_R_look 110 = .ok (.if_icmp .ge 7, 3) := by decide +kernel
theorem d_R_look_113 : decode b_R_look 113 = .ok (.iload_n 3, 1) := by decide +kernel
theorem d_R_look_114 : decode b_R_look 114 = .ok (.goto 5, 3) := by decide +kernel
theorem d_R_look_117 : decode b_R_look 117 = .ok (.iload 4, 2) := by decide +kernel
theorem d_R_look_119 : decode b_R_look 119 = .ok (.ireturn, 1) := by decide +kernel
theorem d_R_loose_0 : decode b_R_loose 0 = .ok (.aload_n 0, 1) := by decide +kernel
theorem d_R_loose_1 : decode b_R_loose 1 = .ok (.getfield 17, 3) := by decide +kernel
theorem d_R_loose_4 : decode b_R_loose 4 = .ok (.iload_n 1, 1) := by decide +kernel
theorem d_R_loose_5 : decode b_R_loose 5 = .ok (.baload, 1) := by decide +kernel
theorem d_R_loose_6 : decode b_R_loose 6 = .ok (.ifCond .eq 16, 3) := by decide +kernel
theorem d_R_loose_9 : decode b_R_loose 9 = .ok (.aload_n 0, 1) := by decide +kernel
theorem d_R_loose_10 : decode b_R_loose 10 = .ok (.getfield 32, 3) := by decide +kernel
theorem d_R_loose_13 : decode b_R_loose 13 = .ok (.iload_n 1, 1) := by decide +kernel
theorem d_R_loose_14 : decode b_R_loose 14 = .ok (.iaload, 1) := by decide +kernel
theorem d_R_loose_15 : decode b_R_loose 15 = .ok (.ifCond .le 7, 3) := by decide +kernel
theorem d_R_loose_18 : decode b_R_loose 18 = .ok (.iconst 2, 1) := by decide +kernel
theorem d_R_loose_19 : decode b_R_loose 19 = .ok (.goto 4, 3) := by decide +kernel
theorem d_R_loose_22 : decode b_R_loose 22 = .ok (.iconst 0, 1) := by decide +kernel
theorem d_R_loose_23 : decode b_R_loose 23 = .ok (.ireturn, 1) := by decide +kernel
theorem d_R_may_0 : decode b_R_may 0 = .ok (.aload_n 0, 1) := by decide +kernel
theorem d_R_may_1 : decode b_R_may 1 = .ok (.getfield 29, 3) := by decide +kernel
theorem d_R_may_4 : decode b_R_may 4 = .ok (.iload_n 1, 1) := by decide +kernel
theorem d_R_may_5 : decode b_R_may 5 = .ok (.iaload, 1) := by decide +kernel
theorem d_R_may_6 : decode b_R_may 6 = .ok (.iload_n 2, 1) := by decide +kernel
theorem d_R_may_7 : decode b_R_may 7 = .ok (.iand, 1) := by decide +kernel
theorem d_R_may_8 : decode b_R_may 8 = .ok (.iload_n 2, 1) := by decide +kernel
theorem d_R_may_9 : decode b_R_may 9 = .ok (.if_icmp .ne 7, 3) := by decide +kernel
theorem d_R_may_12 : decode b_R_may 12 = .ok (.iconst 1, 1) := by decide +kernel
theorem d_R_may_13 : decode b_R_may 13 = .ok (.goto 4, 3) := by decide +kernel
theorem d_R_may_16 : decode b_R_may 16 = .ok (.iconst 0, 1) := by decide +kernel
theorem d_R_may_17 : decode b_R_may 17 = .ok (.ireturn, 1) := by decide +kernel
theorem d_R_move_0 : decode b_R_move 0 = .ok (.aload_n 0, 1) := by decide +kernel
theorem d_R_move_1 : decode b_R_move 1 = .ok (.getfield 17, 3) := by decide +kernel
theorem d_R_move_4 : decode b_R_move 4 = .ok (.iload_n 1, 1) := by decide +kernel
theorem d_R_move_5 : decode b_R_move 5 = .ok (.aload_n 0, 1) := by decide +kernel
theorem d_R_move_6 : decode b_R_move 6 = .ok (.getfield 17, 3) := by decide +kernel
theorem d_R_move_9 : decode b_R_move 9 = .ok (.iload_n 1, 1) := by decide +kernel
theorem d_R_move_10 : decode b_R_move 10 = .ok (.baload, 1) := by decide +kernel
theorem d_R_move_11 : decode b_R_move 11 = .ok (.ifCond .eq 32, 3) := by decide +kernel
theorem d_R_move_14 : decode b_R_move 14 = .ok (.iload_n 2, 1) := by decide +kernel
theorem d_R_move_15 : decode b_R_move 15 = .ok (.aload_n 0, 1) := by decide +kernel
theorem d_R_move_16 : decode b_R_move 16 = .ok (.getfield 20, 3) := by decide +kernel
theorem d_R_move_19 : decode b_R_move 19 = .ok (.iload_n 1, 1) := by decide +kernel
theorem d_R_move_20 : decode b_R_move 20 = .ok (.iaload, 1) := by decide +kernel
theorem d_R_move_21 : decode b_R_move 21 = .ok (.bipush 64, 2) := by decide +kernel
theorem d_R_move_23 : decode b_R_move 23 = .ok (.isub, 1) := by decide +kernel
theorem d_R_move_24 : decode b_R_move 24 = .ok (.aload_n 0, 1) := by decide +kernel
theorem d_R_move_25 : decode b_R_move 25 = .ok (.getfield 23, 3) := by decide +kernel
theorem d_R_move_28 : decode b_R_move 28 = .ok (.iload_n 1, 1) := by decide +kernel
theorem d_R_move_29 : decode b_R_move 29 = .ok (.iaload, 1) := by decide +kernel
theorem d_R_move_30 : decode b_R_move 30 = .ok (.bipush 63, 2) := by decide +kernel
theorem d_R_move_32 : decode b_R_move 32 = .ok (.iadd, 1) := by decide +kernel
theorem d_R_move_33 : decode b_R_move 33 = .ok (.invokestatic 43, 3) := by decide +kernel
theorem d_R_move_36 : decode b_R_move 36 = .ok (.ifCond .ne 7, 3) := by decide +kernel
theorem d_R_move_39 : decode b_R_move 39 = .ok (.iconst 1, 1) := by decide +kernel
theorem d_R_move_40 : decode b_R_move 40 = .ok (.goto 4, 3) := by decide +kernel
theorem d_R_move_43 : decode b_R_move 43 = .ok (.iconst 0, 1) := by decide +kernel
theorem d_R_move_44 : decode b_R_move 44 = .ok (.bastore, 1) := by decide +kernel
theorem d_R_move_45 : decode b_R_move 45 = .ok (.aload_n 0, 1) := by decide +kernel
theorem d_R_move_46 : decode b_R_move 46 = .ok (.getfield 26, 3) := by decide +kernel
theorem d_R_move_49 : decode b_R_move 49 = .ok (.iload_n 1, 1) := by decide +kernel
theorem d_R_move_50 : decode b_R_move 50 = .ok (.iload_n 2, 1) := by decide +kernel
theorem d_R_move_51 : decode b_R_move 51 = .ok (.iastore, 1) := by decide +kernel
theorem d_R_move_52 : decode b_R_move 52 = .ok (.return_, 1) := by decide +kernel
theorem d_R_number_0 : decode b_R_number 0 = .ok (.aload_n 0, 1) := by decide +kernel
theorem d_R_number_1 : decode b_R_number 1 = .ok (.iload_n 1, 1) := by decide +kernel
theorem d_R_number_2 : decode b_R_number 2 = .ok (.iconst 0, 1) := by decide +kernel
theorem d_R_number_3 : decode b_R_number 3 = .ok (.iconst 0, 1) := by decide +kernel
theorem d_R_number_4 : decode b_R_number 4 = .ok (.iload_n 2, 1) := by decide +kernel
theorem d_R_number_5 : decode b_R_number 5 = .ok (.iconst 0, 1) := by decide +kernel
theorem d_R_number_6 : decode b_R_number 6 = .ok (.invokevirtual 35, 3) := by decide +kernel
theorem d_R_number_9 : decode b_R_number 9 = .ok (.aload_n 0, 1) := by decide +kernel
theorem d_R_number_10 : decode b_R_number 10 = .ok (.getfield 17, 3) := by decide +kernel
theorem d_R_number_13 : decode b_R_number 13 = .ok (.iload_n 1, 1) := by decide +kernel
theorem d_R_number_14 : decode b_R_number 14 = .ok (.iconst 0, 1) := by decide +kernel
theorem d_R_number_15 : decode b_R_number 15 = .ok (.bastore, 1) := by decide +kernel
theorem d_R_number_16 : decode b_R_number 16 = .ok (.return_, 1) := by decide +kernel
theorem d_R_outside_0 : decode b_R_outside 0 = .ok (.iload_n 0, 1) := by decide +kernel
theorem d_R_outside_1 : decode b_R_outside 1 = .ok (.iload_n 1, 1) := by decide +kernel
theorem d_R_outside_2 : decode b_R_outside 2 = .ok (.if_icmp .lt 8, 3) := by decide +kernel
theorem d_R_outside_5 : decode b_R_outside 5 = .ok (.iload_n 0, 1) := by decide +kernel
theorem d_R_outside_6 : decode b_R_outside 6 = .ok (.iload_n 2, 1) := by decide +kernel
theorem d_R_outside_7 : decode b_R_outside 7 = .ok (.if_icmp .le 7, 3) := by decide +kernel
theorem d_R_outside_10 : decode b_R_outside 10 = .ok (.iconst 1, 1) := by decide +kernel
theorem d_R_outside_11 : decode b_R_outside 11 = .ok (.goto 4, 3) := by decide +kernel
theorem d_R_outside_14 : decode b_R_outside 14 = .ok (.iconst 0, 1) := by decide +kernel
theorem d_R_outside_15 : decode b_R_outside 15 = .ok (.ireturn, 1) := by decide +kernel
theorem d_R_peek_0 : decode b_R_peek 0 = .ok (.iload_n 1, 1) := by decide +kernel
theorem d_R_peek_1 : decode b_R_peek 1 = .ok (.iconst 0, 1) := by decide +kernel
theorem d_R_peek_2 : decode b_R_peek 2 = .ok (.sipush 511, 3) := by decide +kernel
theorem d_R_peek_5 : decode b_R_peek 5 = .ok (.invokestatic 43, 3) := by decide +kernel
theorem d_R_peek_8 : decode b_R_peek 8 = .ok (.ifCond .eq 9, 3) := by decide +kernel
theorem d_R_peek_11 : decode b_R_peek 11 = .ok (.aload_n 0, 1) := by decide +kernel
theorem d_R_peek_12 : decode b_R_peek 12 = .ok (.iconst 1, 1) := by decide +kernel
theorem d_R_peek_13 : decode b_R_peek 13 = .ok (.invokevirtual 180, 3) := by decide +kernel
theorem d_R_peek_16 : decode b_R_peek 16 = .ok (.ireturn, 1) := by decide +kernel
theorem d_R_peek_17 : decode b_R_peek 17 = .ok (.aload_n 0, 1) := by decide +kernel
theorem d_R_peek_18 : decode b_R_peek 18 = .ok (.iconst 0, 1) := by decide +kernel
theorem d_R_peek_19 : decode b_R_peek 19 = .ok (.putfield 39, 3) := by decide +kernel
theorem d_R_peek_22 : decode b_R_peek 22 = .ok (.aload_n 0, 1) := by decide +kernel
theorem d_R_peek_23 : decode b_R_peek 23 = .ok (.getfield 7, 3) := by decide +kernel
theorem d_R_peek_26 : decode b_R_peek 26 = .ok (.iload_n 1, 1) := by decide +kernel
theorem d_R_peek_27 : decode b_R_peek 27 = .ok (.iaload, 1) := by decide +kernel
theorem d_R_peek_28 : decode b_R_peek 28 = .ok (.ireturn, 1) := by decide +kernel
theorem d_R_points_0 : decode b_R_points 0 = .ok (.aload_n 0, 1) := by decide +kernel
theorem d_R_points_1 : decode b_R_points 1 = .ok (.getfield 26, 3) := by decide +kernel
theorem d_R_points_4 : decode b_R_points 4 = .ok (.iload_n 1, 1) := by decide +kernel
theorem d_R_points_5 : decode b_R_points 5 = .ok (.iaload, 1) := by decide +kernel
theorem d_R_points_6 : decode b_R_points 6 = .ok (.aload_n 0, 1) := by decide +kernel
theorem d_R_points_7 : decode b_R_points 7 = .ok (.getfield 20, 3) := by decide +kernel
theorem d_R_points_10 : decode b_R_points 10 = .ok (.iload_n 1, 1) := by decide +kernel
theorem d_R_points_11 : decode b_R_points 11 = .ok (.iaload, 1) := by decide +kernel
theorem d_R_points_12 : decode b_R_points 12 = .ok (.if_icmp .lt 22, 3) := by decide +kernel
theorem d_R_points_15 : decode b_R_points 15 = .ok (.aload_n 0, 1) := by decide +kernel
theorem d_R_points_16 : decode b_R_points 16 = .ok (.getfield 26, 3) := by decide +kernel
theorem d_R_points_19 : decode b_R_points 19 = .ok (.iload_n 1, 1) := by decide +kernel
theorem d_R_points_20 : decode b_R_points 20 = .ok (.iaload, 1) := by decide +kernel
theorem d_R_points_21 : decode b_R_points 21 = .ok (.aload_n 0, 1) := by decide +kernel
theorem d_R_points_22 : decode b_R_points 22 = .ok (.getfield 23, 3) := by decide +kernel
theorem d_R_points_25 : decode b_R_points 25 = .ok (.iload_n 1, 1) := by decide +kernel
theorem d_R_points_26 : decode b_R_points 26 = .ok (.iaload, 1) := by decide +kernel
theorem d_R_points_27 : decode b_R_points 27 = .ok (.if_icmp .ge 7, 3) := by decide +kernel
theorem d_R_points_30 : decode b_R_points 30 = .ok (.iconst 1, 1) := by decide +kernel
theorem d_R_points_31 : decode b_R_points 31 = .ok (.goto 4, 3) := by decide +kernel
theorem d_R_points_34 : decode b_R_points 34 = .ok (.iconst 0, 1) := by decide +kernel
theorem d_R_points_35 : decode b_R_points 35 = .ok (.ireturn, 1) := by decide +kernel
theorem d_R_poke_0 : decode b_R_poke 0 = .ok (.aload_n 0, 1) := by decide +kernel
theorem d_R_poke_1 : decode b_R_poke 1 = .ok (.iload_n 3, 1) := by decide +kernel
theorem d_R_poke_2 : decode b_R_poke 2 = .ok (.iconst 1, 1) := by decide +kernel
theorem d_R_poke_3 : decode b_R_poke 3 = .ok (.iconst 4, 1) := by decide +kernel
theorem d_R_poke_4 : decode b_R_poke 4 = .ok (.invokestatic 43, 3) := by decide +kernel
theorem d_R_poke_7 : decode b_R_poke 7 = .ok (.ifCond .ne 16, 3) := by decide +kernel
theorem d_R_poke_10 : decode b_R_poke 10 = .ok (.iload_n 1, 1) := by decide +kernel
theorem d_R_poke_11 : decode b_R_poke 11 = .ok (.ifCond .lt 12, 3) := by decide +kernel
theorem d_R_poke_14 : decode b_R_poke 14 = .ok (.iload_n 1, 1) := by decide +kernel
theorem d_R_poke_15 : decode b_R_poke 15 = .ok (.sipush 512, 3) := by decide +kernel
theorem d_R_poke_18 : decode b_R_poke 18 = .ok (.iload_n 3, 1) := by decide +kernel
theorem d_R_poke_19 : decode b_R_poke 19 = .ok (.isub, 1) := by decide +kernel
theorem d_R_poke_20 : decode b_R_poke 20 = .ok (.if_icmp .le 7, 3) := by decide +kernel
theorem d_R_poke_23 : decode b_R_poke 23 = .ok (.iconst 1, 1) := by decide +kernel
theorem d_R_poke_24 : decode b_R_poke 24 = .ok (.goto 4, 3) := by decide +kernel
theorem d_R_poke_27 : decode b_R_poke 27 = .ok (.iconst 0, 1) := by decide +kernel
theorem d_R_poke_28 : decode b_R_poke 28 = .ok (.putfield 39, 3) := by decide +kernel
theorem d_R_poke_31 : decode b_R_poke 31 = .ok (.aload_n 0, 1) := by decide +kernel
theorem d_R_poke_32 : decode b_R_poke 32 = .ok (.getfield 39, 3) := by decide +kernel
theorem d_R_poke_35 : decode b_R_poke 35 = .ok (.ifCond .ne 10, 3) := by decide +kernel
theorem d_R_poke_38 : decode b_R_poke 38 = .ok (.aload_n 0, 1) := by decide +kernel
theorem d_R_poke_39 : decode b_R_poke 39 = .ok (.iload_n 1, 1) := by decide +kernel
theorem d_R_poke_40 : decode b_R_poke 40 = .ok (.iload_n 2, 1) := by decide +kernel
theorem d_R_poke_41 : decode b_R_poke 41 = .ok (.iload_n 3, 1) := by decide +kernel
theorem d_R_poke_42 : decode b_R_poke 42 = .ok (.invokevirtual 122, 3) := by decide +kernel
theorem d_R_poke_45 : decode b_R_poke 45 = .ok (.return_, 1) := by decide +kernel
theorem d_R_reckon_0 : decode b_R_reckon 0 = .ok (.aload_n 0, 1) := by decide +kernel
theorem d_R_reckon_1 : decode b_R_reckon 1 = .ok (.getfield 72, 3) := by decide +kernel
theorem d_R_reckon_4 : decode b_R_reckon 4 = .ok (.tableswitch 241 1 28 #[128, 133, 153, 241, 241, 241, 241, 241, 241, 241, 241, 241, 241, 241, 241, 241, 241, 241, 241, 241, 241, 241, 173, 191, 201, 211, 221, 231], 128) := by decide +kernel
theorem d_R_reckon_132 : decode b_R_reckon 132 = .ok (.aload_n 0, 1) := by decide +kernel
theorem d_R_reckon_133 : decode b_R_reckon 133 = .ok (.getfield 127, 3) := by decide +kernel
theorem d_R_reckon_136 : decode b_R_reckon 136 = .ok (.ireturn, 1) := by decide +kernel
theorem d_R_reckon_137 : decode b_R_reckon 137 = .ok (.aload_n 0, 1) := by decide +kernel
theorem d_R_reckon_138 : decode b_R_reckon 138 = .ok (.getfield 26, 3) := by decide +kernel
theorem d_R_reckon_141 : decode b_R_reckon 141 = .ok (.aload_n 0, 1) := by decide +kernel
theorem d_R_reckon_142 : decode b_R_reckon 142 = .ok (.getfield 57, 3) := by decide +kernel
theorem d_R_reckon_145 : decode b_R_reckon 145 = .ok (.iaload, 1) := by decide +kernel
theorem d_R_reckon_146 : decode b_R_reckon 146 = .ok (.aload_n 0, 1) := by decide +kernel
theorem d_R_reckon_147 : decode b_R_reckon 147 = .ok (.getfield 26, 3) := by decide +kernel
theorem d_R_reckon_150 : decode b_R_reckon 150 = .ok (.aload_n 0, 1) := by decide +kernel
theorem d_R_reckon_151 : decode b_R_reckon 151 = .ok (.getfield 60, 3) := by decide +kernel
theorem d_R_reckon_154 : decode b_R_reckon 154 = .ok (.iaload, 1) := by decide +kernel
theorem d_R_reckon_155 : decode b_R_reckon 155 = .ok (.iadd, 1) := by decide +kernel
theorem d_R_reckon_156 : decode b_R_reckon 156 = .ok (.ireturn, 1) := by decide +kernel
theorem d_R_reckon_157 : decode b_R_reckon 157 = .ok (.aload_n 0, 1) := by decide +kernel
theorem d_R_reckon_158 : decode b_R_reckon 158 = .ok (.getfield 26, 3) := by decide +kernel
theorem d_R_reckon_161 : decode b_R_reckon 161 = .ok (.aload_n 0, 1) := by decide +kernel
theorem d_R_reckon_162 : decode b_R_reckon 162 = .ok (.getfield 57, 3) := by decide +kernel
theorem d_R_reckon_165 : decode b_R_reckon 165 = .ok (.iaload, 1) := by decide +kernel
theorem d_R_reckon_166 : decode b_R_reckon 166 = .ok (.aload_n 0, 1) := by decide +kernel
theorem d_R_reckon_167 : decode b_R_reckon 167 = .ok (.getfield 26, 3) := by decide +kernel
theorem d_R_reckon_170 : decode b_R_reckon 170 = .ok (.aload_n 0, 1) := by decide +kernel
theorem d_R_reckon_171 : decode b_R_reckon 171 = .ok (.getfield 60, 3) := by decide +kernel
theorem d_R_reckon_174 : decode b_R_reckon 174 = .ok (.iaload, 1) := by decide +kernel
theorem d_R_reckon_175 : decode b_R_reckon 175 = .ok (.isub, 1) := by decide +kernel
theorem d_R_reckon_176 : decode b_R_reckon 176 = .ok (.ireturn, 1) := by decide +kernel
theorem d_R_reckon_177 : decode b_R_reckon 177 = .ok (.aload_n 0, 1) := by decide +kernel
theorem d_R_reckon_178 : decode b_R_reckon 178 = .ok (.getfield 17, 3) := by decide +kernel
theorem d_R_reckon_181 : decode b_R_reckon 181 = .ok (.aload_n 0, 1) := by decide +kernel
theorem d_R_reckon_182 : decode b_R_reckon 182 = .ok (.getfield 57, 3) := by decide +kernel
theorem d_R_reckon_185 : decode b_R_reckon 185 = .ok (.baload, 1) := by decide +kernel
theorem d_R_reckon_186 : decode b_R_reckon 186 = .ok (.ifCond .eq 7, 3) := by decide +kernel
theorem d_R_reckon_189 : decode b_R_reckon 189 = .ok (.iconst 1, 1) := by decide +kernel
theorem d_R_reckon_190 : decode b_R_reckon 190 = .ok (.goto 4, 3) := by decide +kernel
theorem d_R_reckon_193 : decode b_R_reckon 193 = .ok (.iconst 0, 1) := by decide +kernel
theorem d_R_reckon_194 : decode b_R_reckon 194 = .ok (.ireturn, 1) := by decide +kernel
theorem d_R_reckon_195 : decode b_R_reckon 195 = .ok (.aload_n 0, 1) := by decide +kernel
theorem d_R_reckon_196 : decode b_R_reckon 196 = .ok (.getfield 20, 3) := by decide +kernel
theorem d_R_reckon_199 : decode b_R_reckon 199 = .ok (.aload_n 0, 1) := by decide +kernel
theorem d_R_reckon_200 : decode b_R_reckon 200 = .ok (.getfield 57, 3) := by decide +kernel
theorem d_R_reckon_203 : decode b_R_reckon 203 = .ok (.iaload, 1) := by decide +kernel
theorem d_R_reckon_204 : decode b_R_reckon 204 = .ok (.ireturn, 1) := by decide +kernel
theorem d_R_reckon_205 : decode b_R_reckon 205 = .ok (.aload_n 0, 1) := by decide +kernel
theorem d_R_reckon_206 : decode b_R_reckon 206 = .ok (.getfield 23, 3) := by decide +kernel
theorem d_R_reckon_209 : decode b_R_reckon 209 = .ok (.aload_n 0, 1) := by decide +kernel
theorem d_R_reckon_210 : decode b_R_reckon 210 = .ok (.getfield 57, 3) := by decide +kernel
theorem d_R_reckon_213 : decode b_R_reckon 213 = .ok (.iaload, 1) := by decide +kernel
theorem d_R_reckon_214 : decode b_R_reckon 214 = .ok (.ireturn, 1) := by decide +kernel
theorem d_R_reckon_215 : decode b_R_reckon 215 = .ok (.aload_n 0, 1) := by decide +kernel
theorem d_R_reckon_216 : decode b_R_reckon 216 = .ok (.getfield 29, 3) := by decide +kernel
theorem d_R_reckon_219 : decode b_R_reckon 219 = .ok (.aload_n 0, 1) := by decide +kernel
theorem d_R_reckon_220 : decode b_R_reckon 220 = .ok (.getfield 57, 3) := by decide +kernel
theorem d_R_reckon_223 : decode b_R_reckon 223 = .ok (.iaload, 1) := by decide +kernel
theorem d_R_reckon_224 : decode b_R_reckon 224 = .ok (.ireturn, 1) := by decide +kernel
theorem d_R_reckon_225 : decode b_R_reckon 225 = .ok (.aload_n 0, 1) := by decide +kernel
theorem d_R_reckon_226 : decode b_R_reckon 226 = .ok (.getfield 32, 3) := by decide +kernel
theorem d_R_reckon_229 : decode b_R_reckon 229 = .ok (.aload_n 0, 1) := by decide +kernel
theorem d_R_reckon_230 : decode b_R_reckon 230 = .ok (.getfield 57, 3) := by decide +kernel
theorem d_R_reckon_233 : decode b_R_reckon 233 = .ok (.iaload, 1) := by decide +kernel
theorem d_R_reckon_234 : decode b_R_reckon 234 = .ok (.ireturn, 1) := by decide +kernel
theorem d_R_reckon_235 : decode b_R_reckon 235 = .ok (.aload_n 0, 1) := by decide +kernel
theorem d_R_reckon_236 : decode b_R_reckon 236 = .ok (.getfield 26, 3) := by decide +kernel
theorem d_R_reckon_239 : decode b_R_reckon 239 = .ok (.aload_n 0, 1) := by decide +kernel
theorem d_R_reckon_240 : decode b_R_reckon 240 = .ok (.getfield 57, 3) := by decide +kernel
theorem d_R_reckon_243 : decode b_R_reckon 243 = .ok (.iaload, 1) := by decide +kernel
theorem d_R_reckon_244 : decode b_R_reckon 244 = .ok (.ireturn, 1) := by decide +kernel
theorem d_R_reckon_245 : decode b_R_reckon 245 = .ok (.aload_n 0, 1) := by decide +kernel
theorem d_R_reckon_246 : decode b_R_reckon 246 = .ok (.invokevirtual 130, 3) := by decide +kernel
theorem d_R_reckon_249 : decode b_R_reckon 249 = .ok (.ifCond .eq 7, 3) := by decide +kernel
theorem d_R_reckon_252 : decode b_R_reckon 252 = .ok (.iconst 1, 1) := by decide +kernel
theorem d_R_reckon_253 : decode b_R_reckon 253 = .ok (.goto 4, 3) := by decide +kernel
theorem d_R_reckon_256 : decode b_R_reckon 256 = .ok (.iconst 0, 1) := by decide +kernel
theorem d_R_reckon_257 : decode b_R_reckon 257 = .ok (.ireturn, 1) := by decide +kernel
theorem d_R_refuse_0 : decode b_R_refuse 0 = .ok (.aload_n 0, 1) := by decide +kernel
theorem d_R_refuse_1 : decode b_R_refuse 1 = .ok (.iload_n 1, 1) := by decide +kernel
theorem d_R_refuse_2 : decode b_R_refuse 2 = .ok (.putfield 39, 3) := by decide +kernel
theorem d_R_refuse_5 : decode b_R_refuse 5 = .ok (.iconst 0, 1) := by decide +kernel
theorem d_R_refuse_6 : decode b_R_refuse 6 = .ok (.ireturn, 1) := by decide +kernel
theorem d_R_run_0 : decode b_R_run 0 = .ok (.aload_n 0, 1) := by decide +kernel
theorem d_R_run_1 : decode b_R_run 1 = .ok (.iconst 0, 1) := by decide +kernel
theorem d_R_run_2 : decode b_R_run 2 = .ok (.putfield 39, 3) := by decide +kernel
theorem d_R_run_5 : decode b_R_run 5 = .ok (.iconst 0, 1) := by decide +kernel
theorem d_R_run_6 : decode b_R_run 6 = .ok (.istore_n 2, 1) := by decide +kernel
theorem d_R_run_7 : decode b_R_run 7 = .ok (.aload_n 0, 1) := by decide +kernel
theorem d_R_run_8 : decode b_R_run 8 = .ok (.iconst 0, 1) := by decide +kernel
theorem d_R_run_9 : decode b_R_run 9 = .ok (.putfield 161, 3) := by decide +kernel
theorem d_R_run_12 : decode b_R_run 12 = .ok (.iconst 0, 1) := by decide +kernel
theorem d_R_run_13 : decode b_R_run 13 = .ok (.istore_n 3, 1) := by decide +kernel
theorem d_R_run_14 : decode b_R_run 14 = .ok (.iload_n 3, 1) := by decide +kernel
theorem d_R_run_15 : decode b_R_run 15 = .ok (.iload_n 1, 1) := by decide +kernel
theorem d_R_run_16 : decode b_R_run 16 = .ok (.if_icmp .ge 37, 3) := by decide +kernel
theorem d_R_run_19 : decode b_R_run 19 = .ok (.iload_n 3, 1) := by decide +kernel
theorem d_R_run_20 : decode b_R_run 20 = .ok (.sipush 2000, 3) := by decide +kernel
theorem d_R_run_23 : decode b_R_run 23 = .ok (.if_icmp .ge 30, 3) := by decide +kernel
theorem d_R_run_26 : decode b_R_run 26 = .ok (.aload_n 0, 1) := by decide +kernel
theorem d_R_run_27 : decode b_R_run 27 = .ok (.getfield 168, 3) := by decide +kernel
theorem d_R_run_30 : decode b_R_run 30 = .ok (.ifCond .ne 23, 3) := by decide +kernel
theorem d_R_run_33 : decode b_R_run 33 = .ok (.aload_n 0, 1) := by decide +kernel
theorem d_R_run_34 : decode b_R_run 34 = .ok (.getfield 161, 3) := by decide +kernel
theorem d_R_run_37 : decode b_R_run 37 = .ok (.ifCond .ne 16, 3) := by decide +kernel
theorem d_R_run_40 : decode b_R_run 40 = .ok (.aload_n 0, 1) := by decide +kernel
theorem d_R_run_41 : decode b_R_run 41 = .ok (.invokevirtual 177, 3) := by decide +kernel
theorem d_R_run_44 : decode b_R_run 44 = .ok (.iinc 2 1, 3) := by decide +kernel
theorem d_R_run_47 : decode b_R_run 47 = .ok (.iinc 3 1, 3) := by decide +kernel
theorem d_R_run_50 : decode b_R_run 50 = .ok (.goto (-36), 3) := by decide +kernel
theorem d_R_run_53 : decode b_R_run 53 = .ok (.iload_n 2, 1) := by decide +kernel
theorem d_R_run_54 : decode b_R_run 54 = .ok (.ireturn, 1) := by decide +kernel
theorem d_R_set_0 : decode b_R_set 0 = .ok (.aload_n 0, 1) := by decide +kernel
theorem d_R_set_1 : decode b_R_set 1 = .ok (.getfield 17, 3) := by decide +kernel
theorem d_R_set_4 : decode b_R_set 4 = .ok (.iload_n 1, 1) := by decide +kernel
theorem d_R_set_5 : decode b_R_set 5 = .ok (.iconst 1, 1) := by decide +kernel
theorem d_R_set_6 : decode b_R_set 6 = .ok (.bastore, 1) := by decide +kernel
theorem d_R_set_7 : decode b_R_set 7 = .ok (.aload_n 0, 1) := by decide +kernel
theorem d_R_set_8 : decode b_R_set 8 = .ok (.getfield 20, 3) := by decide +kernel
theorem d_R_set_11 : decode b_R_set 11 = .ok (.iload_n 1, 1) := by decide +kernel
theorem d_R_set_12 : decode b_R_set 12 = .ok (.iload_n 2, 1) := by decide +kernel
theorem d_R_set_13 : decode b_R_set 13 = .ok (.iastore, 1) := by decide +kernel
theorem d_R_set_14 : decode b_R_set 14 = .ok (.aload_n 0, 1) := by decide +kernel
theorem d_R_set_15 : decode b_R_set 15 = .ok (.getfield 23, 3) := by decide +kernel
theorem d_R_set_18 : decode b_R_set 18 = .ok (.iload_n 1, 1) := by decide +kernel
theorem d_R_set_19 : decode b_R_set 19 = .ok (.iload_n 3, 1) := by decide +kernel
theorem d_R_set_20 : decode b_R_set 20 = .ok (.iastore, 1) := by decide +kernel
theorem d_R_set_21 : decode b_R_set 21 = .ok (.aload_n 0, 1) := by decide +kernel
theorem d_R_set_22 : decode b_R_set 22 = .ok (.getfield 26, 3) := by decide +kernel
theorem d_R_set_25 : decode b_R_set 25 = .ok (.iload_n 1, 1) := by decide +kernel
theorem d_R_set_26 : decode b_R_set 26 = .ok (.iload 4, 2) := by decide +kernel
theorem d_R_set_28 : decode b_R_set 28 = .ok (.iastore, 1) := by decide +kernel
theorem d_R_set_29 : decode b_R_set 29 = .ok (.aload_n 0, 1) := by decide +kernel
theorem d_R_set_30 : decode b_R_set 30 = .ok (.getfield 29, 3) := by decide +kernel
theorem d_R_set_33 : decode b_R_set 33 = .ok (.iload_n 1, 1) := by decide +kernel
theorem d_R_set_34 : decode b_R_set 34 = .ok (.iload 5, 2) := by decide +kernel
theorem d_R_set_36 : decode b_R_set 36 = .ok (.iastore, 1) := by decide +kernel
theorem d_R_set_37 : decode b_R_set 37 = .ok (.aload_n 0, 1) := by decide +kernel
theorem d_R_set_38 : decode b_R_set 38 = .ok (.getfield 32, 3) := by decide +kernel
theorem d_R_set_41 : decode b_R_set 41 = .ok (.iload_n 1, 1) := by decide +kernel
theorem d_R_set_42 : decode b_R_set 42 = .ok (.iconst 0, 1) := by decide +kernel
theorem d_R_set_43 : decode b_R_set 43 = .ok (.iastore, 1) := by decide +kernel
theorem d_R_set_44 : decode b_R_set 44 = .ok (.return_, 1) := by decide +kernel
theorem d_R_size_0 : decode b_R_size 0 = .ok (.aload_n 0, 1) := by decide +kernel
theorem d_R_size_1 : decode b_R_size 1 = .ok (.getfield 72, 3) := by decide +kernel
theorem d_R_size_4 : decode b_R_size 4 = .ok (.bipush 17, 2) := by decide +kernel
theorem d_R_size_6 : decode b_R_size 6 = .ok (.if_icmp .eq 12, 3) := by decide +kernel
theorem d_R_size_9 : decode b_R_size 9 = .ok (.aload_n 0, 1) := by decide +kernel
theorem d_R_size_10 : decode b_R_size 10 = .ok (.getfield 72, 3) := by decide +kernel
theorem d_R_size_13 : decode b_R_size 13 = .ok (.bipush 20, 2) := by decide +kernel
theorem d_R_size_15 : decode b_R_size 15 = .ok (.if_icmp .ne 7, 3) := by decide +kernel
theorem d_R_size_18 : decode b_R_size 18 = .ok (.iconst 1, 1) := by decide +kernel
theorem d_R_size_19 : decode b_R_size 19 = .ok (.goto 27, 3) := by decide +kernel
theorem d_R_size_22 : decode b_R_size 22 = .ok (.aload_n 0, 1) := by decide +kernel
theorem d_R_size_23 : decode b_R_size 23 = .ok (.getfield 72, 3) := by decide +kernel
theorem d_R_size_26 : decode b_R_size 26 = .ok (.bipush 18, 2) := by decide +kernel
theorem d_R_size_28 : decode b_R_size 28 = .ok (.if_icmp .eq 12, 3) := by decide +kernel
theorem d_R_size_31 : decode b_R_size 31 = .ok (.aload_n 0, 1) := by decide +kernel
theorem d_R_size_32 : decode b_R_size 32 = .ok (.getfield 72, 3) := by decide +kernel
theorem d_R_size_35 : decode b_R_size 35 = .ok (.bipush 21, 2) := by decide +kernel
theorem d_R_size_37 : decode b_R_size 37 = .ok (.if_icmp .ne 7, 3) := by decide +kernel
theorem d_R_size_40 : decode b_R_size 40 = .ok (.iconst 4, 1) := by decide +kernel
theorem d_R_size_41 : decode b_R_size 41 = .ok (.goto 5, 3) := by decide +kernel
theorem d_R_size_44 : decode b_R_size 44 = .ok (.bipush 8, 2) := by decide +kernel
theorem d_R_size_46 : decode b_R_size 46 = .ok (.ireturn, 1) := by decide +kernel
theorem d_R_state_0 : decode b_R_state 0 = .ok (.aload_n 0, 1) := by decide +kernel
theorem d_R_state_1 : decode b_R_state 1 = .ok (.iconst 0, 1) := by decide +kernel
theorem d_R_state_2 : decode b_R_state 2 = .ok (.putfield 39, 3) := by decide +kernel
theorem d_R_state_5 : decode b_R_state 5 = .ok (.aload_n 0, 1) := by decide +kernel
theorem d_R_state_6 : decode b_R_state 6 = .ok (.getfield 168, 3) := by decide +kernel
theorem d_R_state_9 : decode b_R_state 9 = .ok (.ireturn, 1) := by decide +kernel
theorem d_R_step_0 : decode b_R_step 0 = .ok (.aload_n 0, 1) := by decide +kernel
theorem d_R_step_1 : decode b_R_step 1 = .ok (.bipush 8, 2) := by decide +kernel
theorem d_R_step_3 : decode b_R_step 3 = .ok (.aload_n 0, 1) := by decide +kernel
theorem d_R_step_4 : decode b_R_step 4 = .ok (.getfield 26, 3) := by decide +kernel
theorem d_R_step_7 : decode b_R_step 7 = .ok (.bipush 8, 2) := by decide +kernel
theorem d_R_step_9 : decode b_R_step 9 = .ok (.iaload, 1) := by decide +kernel
theorem d_R_step_10 : decode b_R_step 10 = .ok (.i2l, 1) := by decide +kernel
theorem d_R_step_11 : decode b_R_step 11 = .ok (.iconst 4, 1) := by decide +kernel
theorem d_R_step_12 : decode b_R_step 12 = .ok (.iconst 4, 1) := by decide +kernel
theorem d_R_step_13 : decode b_R_step 13 = .ok (.invokevirtual 89, 3) := by decide +kernel
theorem d_R_step_16 : decode b_R_step 16 = .ok (.istore_n 1, 1) := by decide +kernel
theorem d_R_step_17 : decode b_R_step 17 = .ok (.iload_n 1, 1) := by decide +kernel
theorem d_R_step_18 : decode b_R_step 18 = .ok (.ifCond .ne 19, 3) := by decide +kernel
theorem d_R_step_21 : decode b_R_step 21 = .ok (.aload_n 0, 1) := by decide +kernel
theorem d_R_step_22 : decode b_R_step 22 = .ok (.aload_n 0, 1) := by decide +kernel
theorem d_R_step_23 : decode b_R_step 23 = .ok (.getfield 26, 3) := by decide +kernel
theorem d_R_step_26 : decode b_R_step 26 = .ok (.bipush 8, 2) := by decide +kernel
theorem d_R_step_28 : decode b_R_step 28 = .ok (.iaload, 1) := by decide +kernel
theorem d_R_step_29 : decode b_R_step 29 = .ok (.invokevirtual 155, 3) := by decide +kernel
theorem d_R_step_32 : decode b_R_step 32 = .ok (.aload_n 0, 1) := by decide +kernel
theorem d_R_step_33 : decode b_R_step 33 = .ok (.invokevirtual 158, 3) := by decide +kernel
theorem d_R_step_36 : decode b_R_step 36 = .ok (.istore_n 1, 1) := by decide +kernel
theorem d_R_step_37 : decode b_R_step 37 = .ok (.aload_n 0, 1) := by decide +kernel
theorem d_R_step_38 : decode b_R_step 38 = .ok (.iload_n 1, 1) := by decide +kernel
theorem d_R_step_39 : decode b_R_step 39 = .ok (.ifCond .le 7, 3) := by decide +kernel
theorem d_R_step_42 : decode b_R_step 42 = .ok (.iconst 1, 1) := by decide +kernel
theorem d_R_step_43 : decode b_R_step 43 = .ok (.goto 4, 3) := by decide +kernel
theorem d_R_step_46 : decode b_R_step 46 = .ok (.iconst 0, 1) := by decide +kernel
theorem d_R_step_47 : decode b_R_step 47 = .ok (.putfield 161, 3) := by decide +kernel
theorem d_R_step_50 : decode b_R_step 50 = .ok (.aload_n 0, 1) := by decide +kernel
theorem d_R_step_51 : decode b_R_step 51 = .ok (.getfield 161, 3) := by decide +kernel
theorem d_R_step_54 : decode b_R_step 54 = .ok (.ifCond .eq 45, 3) := by decide +kernel
theorem d_R_step_57 : decode b_R_step 57 = .ok (.aload_n 0, 1) := by decide +kernel
theorem d_R_step_58 : decode b_R_step 58 = .ok (.iload_n 1, 1) := by decide +kernel
theorem d_R_step_59 : decode b_R_step 59 = .ok (.putfield 165, 3) := by decide +kernel
theorem d_R_step_62 : decode b_R_step 62 = .ok (.aload_n 0, 1) := by decide +kernel
theorem d_R_step_63 : decode b_R_step 63 = .ok (.bipush 8, 2) := by decide +kernel
theorem d_R_step_65 : decode b_R_step 65 = .ok (.bipush 10, 2) := by decide +kernel
theorem d_R_step_67 : decode b_R_step 67 = .ok (.invokevirtual 134, 3) := by decide +kernel
theorem d_R_step_70 : decode b_R_step 70 = .ok (.aload_n 0, 1) := by decide +kernel
theorem d_R_step_71 : decode b_R_step 71 = .ok (.getfield 17, 3) := by decide +kernel
theorem d_R_step_74 : decode b_R_step 74 = .ok (.bipush 9, 2) := by decide +kernel
theorem d_R_step_76 : decode b_R_step 76 = .ok (.baload, 1) := by decide +kernel
theorem d_R_step_77 : decode b_R_step 77 = .ok (.ifCond .eq 14, 3) := by decide +kernel
theorem d_R_step_80 : decode b_R_step 80 = .ok (.aload_n 0, 1) := by decide +kernel
theorem d_R_step_81 : decode b_R_step 81 = .ok (.bipush 9, 2) := by decide +kernel
theorem d_R_step_83 : decode b_R_step 83 = .ok (.bipush 8, 2) := by decide +kernel
theorem d_R_step_85 : decode b_R_step 85 = .ok (.invokevirtual 134, 3) := by decide +kernel
theorem d_R_step_88 : decode b_R_step 88 = .ok (.goto 46, 3) := by decide +kernel
theorem d_R_step_91 : decode b_R_step 91 = .ok (.aload_n 0, 1) := by decide +kernel
theorem d_R_step_92 : decode b_R_step 92 = .ok (.iconst 2, 1) := by decide +kernel
theorem d_R_step_93 : decode b_R_step 93 = .ok (.putfield 168, 3) := by decide +kernel
theorem d_R_step_96 : decode b_R_step 96 = .ok (.goto 38, 3) := by decide +kernel
theorem d_R_step_99 : decode b_R_step 99 = .ok (.aload_n 0, 1) := by decide +kernel
theorem d_R_step_100 : decode b_R_step 100 = .ok (.getfield 72, 3) := by decide +kernel
theorem d_R_step_103 : decode b_R_step 103 = .ok (.ifCond .ne 11, 3) := by decide +kernel
theorem d_R_step_106 : decode b_R_step 106 = .ok (.aload_n 0, 1) := by decide +kernel
theorem d_R_step_107 : decode b_R_step 107 = .ok (.iconst 1, 1) := by decide +kernel
theorem d_R_step_108 : decode b_R_step 108 = .ok (.putfield 168, 3) := by decide +kernel
theorem d_R_step_111 : decode b_R_step 111 = .ok (.goto 23, 3) := by decide +kernel
theorem d_R_step_114 : decode b_R_step 114 = .ok (.aload_n 0, 1) := by decide +kernel
theorem d_R_step_115 : decode b_R_step 115 = .ok (.getfield 72, 3) := by decide +kernel
theorem d_R_step_118 : decode b_R_step 118 = .ok (.bipush 16, 2) := by decide +kernel
theorem d_R_step_120 : decode b_R_step 120 = .ok (.if_icmp .ne 10, 3) := by decide +kernel
theorem d_R_step_123 : decode b_R_step 123 = .ok (.aload_n 0, 1) := by decide +kernel
theorem d_R_step_124 : decode b_R_step 124 = .ok (.invokevirtual 171, 3) := by decide +kernel
theorem d_R_step_127 : decode b_R_step 127 = .ok (.goto 7, 3) := by decide +kernel
theorem d_R_step_130 : decode b_R_step 130 = .ok (.aload_n 0, 1) := by decide +kernel
theorem d_R_step_131 : decode b_R_step 131 = .ok (.invokevirtual 174, 3) := by decide +kernel
theorem d_R_step_134 : decode b_R_step 134 = .ok (.return_, 1) := by decide +kernel
theorem d_R_store_0 : decode b_R_store 0 = .ok (.iconst 0, 1) := by decide +kernel
theorem d_R_store_1 : decode b_R_store 1 = .ok (.istore 4, 2) := by decide +kernel
theorem d_R_store_3 : decode b_R_store 3 = .ok (.iload 4, 2) := by decide +kernel
theorem d_R_store_5 : decode b_R_store 5 = .ok (.iload_n 3, 1) := by decide +kernel
theorem d_R_store_6 : decode b_R_store 6 = .ok (.if_icmp .ge 42, 3) := by decide +kernel
theorem d_R_store_9 : decode b_R_store 9 = .ok (.aload_n 0, 1) := by decide +kernel
theorem d_R_store_10 : decode b_R_store 10 = .ok (.getfield 7, 3) := by decide +kernel
theorem d_R_store_13 : decode b_R_store 13 = .ok (.iload_n 1, 1) := by decide +kernel
theorem d_R_store_14 : decode b_R_store 14 = .ok (.iload 4, 2) := by decide +kernel
theorem d_R_store_16 : decode b_R_store 16 = .ok (.iadd, 1) := by decide +kernel
theorem d_R_store_17 : decode b_R_store 17 = .ok (.iload_n 2, 1) := by decide +kernel
theorem d_R_store_18 : decode b_R_store 18 = .ok (.bipush 8, 2) := by decide +kernel
theorem d_R_store_20 : decode b_R_store 20 = .ok (.iload 4, 2) := by decide +kernel
theorem d_R_store_22 : decode b_R_store 22 = .ok (.imul, 1) := by decide +kernel
theorem d_R_store_23 : decode b_R_store 23 = .ok (.ishr, 1) := by decide +kernel
theorem d_R_store_24 : decode b_R_store 24 = .ok (.sipush 255, 3) := by decide +kernel
theorem d_R_store_27 : decode b_R_store 27 = .ok (.iand, 1) := by decide +kernel
theorem d_R_store_28 : decode b_R_store 28 = .ok (.iastore, 1) := by decide +kernel
theorem d_R_store_29 : decode b_R_store 29 = .ok (.aload_n 0, 1) := by decide +kernel
theorem d_R_store_30 : decode b_R_store 30 = .ok (.getfield 13, 3) := by decide +kernel
theorem d_R_store_33 : decode b_R_store 33 = .ok (.iload_n 1, 1) := by decide +kernel
theorem d_R_store_34 : decode b_R_store 34 = .ok (.iload 4, 2) := by decide +kernel
theorem d_R_store_36 : decode b_R_store 36 = .ok (.iadd, 1) := by decide +kernel
theorem d_R_store_37 : decode b_R_store 37 = .ok (.bipush 8, 2) := by decide +kernel
theorem d_R_store_39 : decode b_R_store 39 = .ok (.idiv, 1) := by decide +kernel
theorem d_R_store_40 : decode b_R_store 40 = .ok (.iconst 0, 1) := by decide +kernel
theorem d_R_store_41 : decode b_R_store 41 = .ok (.bastore, 1) := by decide +kernel
theorem d_R_store_42 : decode b_R_store 42 = .ok (.iinc 4 1, 3) := by decide +kernel
theorem d_R_store_45 : decode b_R_store 45 = .ok (.goto (-42), 3) := by decide +kernel
theorem d_R_store_48 : decode b_R_store 48 = .ok (.return_, 1) := by decide +kernel
theorem d_R_tagged_0 : decode b_R_tagged 0 = .ok (.aload_n 0, 1) := by decide +kernel
theorem d_R_tagged_1 : decode b_R_tagged 1 = .ok (.iconst 0, 1) := by decide +kernel
theorem d_R_tagged_2 : decode b_R_tagged 2 = .ok (.putfield 39, 3) := by decide +kernel
theorem d_R_tagged_5 : decode b_R_tagged 5 = .ok (.iload_n 1, 1) := by decide +kernel
theorem d_R_tagged_6 : decode b_R_tagged 6 = .ok (.iconst 0, 1) := by decide +kernel
theorem d_R_tagged_7 : decode b_R_tagged 7 = .ok (.bipush 63, 2) := by decide +kernel
theorem d_R_tagged_9 : decode b_R_tagged 9 = .ok (.invokestatic 43, 3) := by decide +kernel
theorem d_R_tagged_12 : decode b_R_tagged 12 = .ok (.ifCond .ne 16, 3) := by decide +kernel
theorem d_R_tagged_15 : decode b_R_tagged 15 = .ok (.aload_n 0, 1) := by decide +kernel
theorem d_R_tagged_16 : decode b_R_tagged 16 = .ok (.getfield 13, 3) := by decide +kernel
theorem d_R_tagged_19 : decode b_R_tagged 19 = .ok (.iload_n 1, 1) := by decide +kernel
theorem d_R_tagged_20 : decode b_R_tagged 20 = .ok (.baload, 1) := by decide +kernel
theorem d_R_tagged_21 : decode b_R_tagged 21 = .ok (.ifCond .eq 7, 3) := by decide +kernel
theorem d_R_tagged_24 : decode b_R_tagged 24 = .ok (.iconst 1, 1) := by decide +kernel
theorem d_R_tagged_25 : decode b_R_tagged 25 = .ok (.goto 4, 3) := by decide +kernel
theorem d_R_tagged_28 : decode b_R_tagged 28 = .ok (.iconst 0, 1) := by decide +kernel
theorem d_R_tagged_29 : decode b_R_tagged 29 = .ok (.ireturn, 1) := by decide +kernel
theorem d_R_thrown_0 : decode b_R_thrown 0 = .ok (.aload_n 0, 1) := by decide +kernel
theorem d_R_thrown_1 : decode b_R_thrown 1 = .ok (.getfield 39, 3) := by decide +kernel
theorem d_R_thrown_4 : decode b_R_thrown 4 = .ok (.ireturn, 1) := by decide +kernel
theorem d_R_up_0 : decode b_R_up 0 = .ok (.iload_n 1, 1) := by decide +kernel
theorem d_R_up_1 : decode b_R_up 1 = .ok (.bipush 8, 2) := by decide +kernel
theorem d_R_up_3 : decode b_R_up 3 = .ok (.irem, 1) := by decide +kernel
theorem d_R_up_4 : decode b_R_up 4 = .ok (.ifCond .ne 7, 3) := by decide +kernel
theorem d_R_up_7 : decode b_R_up 7 = .ok (.iload_n 1, 1) := by decide +kernel
theorem d_R_up_8 : decode b_R_up 8 = .ok (.goto 12, 3) := by decide +kernel
theorem d_R_up_11 : decode b_R_up 11 = .ok (.iload_n 1, 1) := by decide +kernel
theorem d_R_up_12 : decode b_R_up 12 = .ok (.bipush 8, 2) := by decide +kernel
theorem d_R_up_14 : decode b_R_up 14 = .ok (.iadd, 1) := by decide +kernel
theorem d_R_up_15 : decode b_R_up 15 = .ok (.iload_n 1, 1) := by decide +kernel
theorem d_R_up_16 : decode b_R_up 16 = .ok (.bipush 8, 2) := by decide +kernel
theorem d_R_up_18 : decode b_R_up 18 = .ok (.irem, 1) := by decide +kernel
theorem d_R_up_19 : decode b_R_up 19 = .ok (.isub, 1) := by decide +kernel
theorem d_R_up_20 : decode b_R_up 20 = .ok (.ireturn, 1) := by decide +kernel
theorem d_R_usable_0 : decode b_R_usable 0 = .ok (.aload_n 0, 1) := by decide +kernel
theorem d_R_usable_1 : decode b_R_usable 1 = .ok (.getfield 17, 3) := by decide +kernel
theorem d_R_usable_4 : decode b_R_usable 4 = .ok (.iload_n 1, 1) := by decide +kernel
theorem d_R_usable_5 : decode b_R_usable 5 = .ok (.baload, 1) := by decide +kernel
theorem d_R_usable_6 : decode b_R_usable 6 = .ok (.ifCond .ne 7, 3) := by decide +kernel
theorem d_R_usable_9 : decode b_R_usable 9 = .ok (.iconst 1, 1) := by decide +kernel
theorem d_R_usable_10 : decode b_R_usable 10 = .ok (.goto 17, 3) := by decide +kernel
theorem d_R_usable_13 : decode b_R_usable 13 = .ok (.aload_n 0, 1) := by decide +kernel
theorem d_R_usable_14 : decode b_R_usable 14 = .ok (.getfield 32, 3) := by decide +kernel
theorem d_R_usable_17 : decode b_R_usable 17 = .ok (.iload_n 1, 1) := by decide +kernel
theorem d_R_usable_18 : decode b_R_usable 18 = .ok (.iaload, 1) := by decide +kernel
theorem d_R_usable_19 : decode b_R_usable 19 = .ok (.ifCond .le 7, 3) := by decide +kernel
theorem d_R_usable_22 : decode b_R_usable 22 = .ok (.iconst 2, 1) := by decide +kernel
theorem d_R_usable_23 : decode b_R_usable 23 = .ok (.goto 4, 3) := by decide +kernel
theorem d_R_usable_26 : decode b_R_usable 26 = .ok (.iconst 0, 1) := by decide +kernel
theorem d_R_usable_27 : decode b_R_usable 27 = .ok (.ireturn, 1) := by decide +kernel
theorem d_R_within_0 : decode b_R_within 0 = .ok (.aload_n 0, 1) := by decide +kernel
theorem d_R_within_1 : decode b_R_within 1 = .ok (.getfield 17, 3) := by decide +kernel
theorem d_R_within_4 : decode b_R_within 4 = .ok (.aload_n 0, 1) := by decide +kernel
theorem d_R_within_5 : decode b_R_within 5 = .ok (.getfield 57, 3) := by decide +kernel
theorem d_R_within_8 : decode b_R_within 8 = .ok (.baload, 1) := by decide +kernel
theorem d_R_within_9 : decode b_R_within 9 = .ok (.aload_n 0, 1) := by decide +kernel
theorem d_R_within_10 : decode b_R_within 10 = .ok (.getfield 17, 3) := by decide +kernel
theorem d_R_within_13 : decode b_R_within 13 = .ok (.aload_n 0, 1) := by decide +kernel
theorem d_R_within_14 : decode b_R_within 14 = .ok (.getfield 60, 3) := by decide +kernel
theorem d_R_within_17 : decode b_R_within 17 = .ok (.baload, 1) := by decide +kernel
theorem d_R_within_18 : decode b_R_within 18 = .ok (.if_icmp .ne 80, 3) := by decide +kernel
theorem d_R_within_21 : decode b_R_within 21 = .ok (.aload_n 0, 1) := by decide +kernel
theorem d_R_within_22 : decode b_R_within 22 = .ok (.getfield 20, 3) := by decide +kernel
theorem d_R_within_25 : decode b_R_within 25 = .ok (.aload_n 0, 1) := by decide +kernel
theorem d_R_within_26 : decode b_R_within 26 = .ok (.getfield 57, 3) := by decide +kernel
theorem d_R_within_29 : decode b_R_within 29 = .ok (.iaload, 1) := by decide +kernel
theorem d_R_within_30 : decode b_R_within 30 = .ok (.aload_n 0, 1) := by decide +kernel
theorem d_R_within_31 : decode b_R_within 31 = .ok (.getfield 20, 3) := by decide +kernel
theorem d_R_within_34 : decode b_R_within 34 = .ok (.aload_n 0, 1) := by decide +kernel
theorem d_R_within_35 : decode b_R_within 35 = .ok (.getfield 60, 3) := by decide +kernel
theorem d_R_within_38 : decode b_R_within 38 = .ok (.iaload, 1) := by decide +kernel
theorem d_R_within_39 : decode b_R_within 39 = .ok (.if_icmp .lt 59, 3) := by decide +kernel
theorem d_R_within_42 : decode b_R_within 42 = .ok (.aload_n 0, 1) := by decide +kernel
theorem d_R_within_43 : decode b_R_within 43 = .ok (.getfield 23, 3) := by decide +kernel
theorem d_R_within_46 : decode b_R_within 46 = .ok (.aload_n 0, 1) := by decide +kernel
theorem d_R_within_47 : decode b_R_within 47 = .ok (.getfield 57, 3) := by decide +kernel
theorem d_R_within_50 : decode b_R_within 50 = .ok (.iaload, 1) := by decide +kernel
theorem d_R_within_51 : decode b_R_within 51 = .ok (.aload_n 0, 1) := by decide +kernel
theorem d_R_within_52 : decode b_R_within 52 = .ok (.getfield 23, 3) := by decide +kernel
theorem d_R_within_55 : decode b_R_within 55 = .ok (.aload_n 0, 1) := by decide +kernel
theorem d_R_within_56 : decode b_R_within 56 = .ok (.getfield 60, 3) := by decide +kernel
theorem d_R_within_59 : decode b_R_within 59 = .ok (.iaload, 1) := by decide +kernel
theorem d_R_within_60 : decode b_R_within 60 = .ok (.if_icmp .gt 38, 3) := by decide +kernel
theorem d_R_within_63 : decode b_R_within 63 = .ok (.aload_n 0, 1) := by decide +kernel
theorem d_R_within_64 : decode b_R_within 64 = .ok (.getfield 29, 3) := by decide +kernel
theorem d_R_within_67 : decode b_R_within 67 = .ok (.aload_n 0, 1) := by decide +kernel
theorem d_R_within_68 : decode b_R_within 68 = .ok (.getfield 57, 3) := by decide +kernel
theorem d_R_within_71 : decode b_R_within 71 = .ok (.iaload, 1) := by decide +kernel
theorem d_R_within_72 : decode b_R_within 72 = .ok (.aload_n 0, 1) := by decide +kernel
theorem d_R_within_73 : decode b_R_within 73 = .ok (.getfield 29, 3) := by decide +kernel
theorem d_R_within_76 : decode b_R_within 76 = .ok (.aload_n 0, 1) := by decide +kernel
theorem d_R_within_77 : decode b_R_within 77 = .ok (.getfield 60, 3) := by decide +kernel
theorem d_R_within_80 : decode b_R_within 80 = .ok (.iaload, 1) := by decide +kernel
theorem d_R_within_81 : decode b_R_within 81 = .ok (.ior, 1) := by decide +kernel
theorem d_R_within_82 : decode b_R_within 82 = .ok (.aload_n 0, 1) := by decide +kernel
theorem d_R_within_83 : decode b_R_within 83 = .ok (.getfield 29, 3) := by decide +kernel
theorem d_R_within_86 : decode b_R_within 86 = .ok (.aload_n 0, 1) := by decide +kernel
theorem d_R_within_87 : decode b_R_within 87 = .ok (.getfield 60, 3) := by decide +kernel
theorem d_R_within_90 : decode b_R_within 90 = .ok (.iaload, 1) := by decide +kernel
theorem d_R_within_91 : decode b_R_within 91 = .ok (.if_icmp .ne 7, 3) := by decide +kernel
theorem d_R_within_94 : decode b_R_within 94 = .ok (.iconst 1, 1) := by decide +kernel
theorem d_R_within_95 : decode b_R_within 95 = .ok (.goto 4, 3) := by decide +kernel
theorem d_R_within_98 : decode b_R_within 98 = .ok (.iconst 0, 1) := by decide +kernel
theorem d_R_within_99 : decode b_R_within 99 = .ok (.ireturn, 1) := by decide +kernel
theorem d_R_word_0 : decode b_R_word 0 = .ok (.aload_n 0, 1) := by decide +kernel
theorem d_R_word_1 : decode b_R_word 1 = .ok (.getfield 7, 3) := by decide +kernel
theorem d_R_word_4 : decode b_R_word 4 = .ok (.iload_n 1, 1) := by decide +kernel
theorem d_R_word_5 : decode b_R_word 5 = .ok (.iaload, 1) := by decide +kernel
theorem d_R_word_6 : decode b_R_word 6 = .ok (.aload_n 0, 1) := by decide +kernel
theorem d_R_word_7 : decode b_R_word 7 = .ok (.getfield 7, 3) := by decide +kernel
theorem d_R_word_10 : decode b_R_word 10 = .ok (.iload_n 1, 1) := by decide +kernel
theorem d_R_word_11 : decode b_R_word 11 = .ok (.iconst 1, 1) := by decide +kernel
theorem d_R_word_12 : decode b_R_word 12 = .ok (.iadd, 1) := by decide +kernel
theorem d_R_word_13 : decode b_R_word 13 = .ok (.iaload, 1) := by decide +kernel
theorem d_R_word_14 : decode b_R_word 14 = .ok (.bipush 8, 2) := by decide +kernel
theorem d_R_word_16 : decode b_R_word 16 = .ok (.ishl, 1) := by decide +kernel
theorem d_R_word_17 : decode b_R_word 17 = .ok (.iadd, 1) := by decide +kernel
theorem d_R_word_18 : decode b_R_word 18 = .ok (.aload_n 0, 1) := by decide +kernel
theorem d_R_word_19 : decode b_R_word 19 = .ok (.getfield 7, 3) := by decide +kernel
theorem d_R_word_22 : decode b_R_word 22 = .ok (.iload_n 1, 1) := by decide +kernel
theorem d_R_word_23 : decode b_R_word 23 = .ok (.iconst 2, 1) := by decide +kernel
theorem d_R_word_24 : decode b_R_word 24 = .ok (.iadd, 1) := by decide +kernel
theorem d_R_word_25 : decode b_R_word 25 = .ok (.iaload, 1) := by decide +kernel
theorem d_R_word_26 : decode b_R_word 26 = .ok (.bipush 16, 2) := by decide +kernel
theorem d_R_word_28 : decode b_R_word 28 = .ok (.ishl, 1) := by decide +kernel
theorem d_R_word_29 : decode b_R_word 29 = .ok (.iadd, 1) := by decide +kernel
theorem d_R_word_30 : decode b_R_word 30 = .ok (.aload_n 0, 1) := by decide +kernel
theorem d_R_word_31 : decode b_R_word 31 = .ok (.getfield 7, 3) := by decide +kernel
theorem d_R_word_34 : decode b_R_word 34 = .ok (.iload_n 1, 1) := by decide +kernel
theorem d_R_word_35 : decode b_R_word 35 = .ok (.iconst 3, 1) := by decide +kernel
theorem d_R_word_36 : decode b_R_word 36 = .ok (.iadd, 1) := by decide +kernel
theorem d_R_word_37 : decode b_R_word 37 = .ok (.iaload, 1) := by decide +kernel
theorem d_R_word_38 : decode b_R_word 38 = .ok (.bipush 24, 2) := by decide +kernel
theorem d_R_word_40 : decode b_R_word 40 = .ok (.ishl, 1) := by decide +kernel
theorem d_R_word_41 : decode b_R_word 41 = .ok (.iadd, 1) := by decide +kernel
theorem d_R_word_42 : decode b_R_word 42 = .ok (.ireturn, 1) := by decide +kernel
