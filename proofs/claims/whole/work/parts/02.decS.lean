theorem dS_init_0 : decode cS_init 0 = .ok (.aload_n 0, 1) := by decide +kernel
theorem dS_init_1 : decode cS_init 1 = .ok (.invokespecial 3, 3) := by decide +kernel
theorem dS_init_4 : decode cS_init 4 = .ok (.iconst 1, 1) := by decide +kernel
theorem dS_init_5 : decode cS_init 5 = .ok (.bipush 6, 2) := by decide +kernel
theorem dS_init_7 : decode cS_init 7 = .ok (.iload_n 1, 1) := by decide +kernel
theorem dS_init_8 : decode cS_init 8 = .ok (.invokestatic 9, 3) := by decide +kernel
theorem dS_init_11 : decode cS_init 11 = .ok (.invokestatic 15, 3) := by decide +kernel
theorem dS_init_14 : decode cS_init 14 = .ok (.istore_n 2, 1) := by decide +kernel
theorem dS_init_15 : decode cS_init 15 = .ok (.aload_n 0, 1) := by decide +kernel
theorem dS_init_16 : decode cS_init 16 = .ok (.iload_n 2, 1) := by decide +kernel
theorem dS_init_17 : decode cS_init 17 = .ok (.anewarray 18, 3) := by decide +kernel
theorem dS_init_20 : decode cS_init 20 = .ok (.putfield 20, 3) := by decide +kernel
theorem dS_init_23 : decode cS_init 23 = .ok (.iconst 0, 1) := by decide +kernel
theorem dS_init_24 : decode cS_init 24 = .ok (.istore_n 3, 1) := by decide +kernel
theorem dS_init_25 : decode cS_init 25 = .ok (.iload_n 3, 1) := by decide +kernel
theorem dS_init_26 : decode cS_init 26 = .ok (.iload_n 2, 1) := by decide +kernel
theorem dS_init_27 : decode cS_init 27 = .ok (.if_icmp .ge 24, 3) := by decide +kernel
theorem dS_init_30 : decode cS_init 30 = .ok (.aload_n 0, 1) := by decide +kernel
theorem dS_init_31 : decode cS_init 31 = .ok (.getfield 20, 3) := by decide +kernel
theorem dS_init_34 : decode cS_init 34 = .ok (.iload_n 3, 1) := by decide +kernel
theorem dS_init_35 : decode cS_init 35 = .ok (.new 18, 3) := by decide +kernel
theorem dS_init_38 : decode cS_init 38 = .ok (.dup, 1) := by decide +kernel
theorem dS_init_39 : decode cS_init 39 = .ok (.iload_n 3, 1) := by decide +kernel
theorem dS_init_40 : decode cS_init 40 = .ok (.iload_n 2, 1) := by decide +kernel
theorem dS_init_41 : decode cS_init 41 = .ok (.invokespecial 24, 3) := by decide +kernel
theorem dS_init_44 : decode cS_init 44 = .ok (.aastore, 1) := by decide +kernel
theorem dS_init_45 : decode cS_init 45 = .ok (.iinc 3 1, 3) := by decide +kernel
theorem dS_init_48 : decode cS_init 48 = .ok (.goto (-23), 3) := by decide +kernel
theorem dS_init_51 : decode cS_init 51 = .ok (.aload_n 0, 1) := by decide +kernel
theorem dS_init_52 : decode cS_init 52 = .ok (.iconst 1, 1) := by decide +kernel
theorem dS_init_53 : decode cS_init 53 = .ok (.iload_n 2, 1) := by decide +kernel
theorem dS_init_54 : decode cS_init 54 = .ok (.ishl, 1) := by decide +kernel
theorem dS_init_55 : decode cS_init 55 = .ok (.iconst 1, 1) := by decide +kernel
theorem dS_init_56 : decode cS_init 56 = .ok (.isub, 1) := by decide +kernel
theorem dS_init_57 : decode cS_init 57 = .ok (.putfield 27, 3) := by decide +kernel
theorem dS_init_60 : decode cS_init 60 = .ok (.aload_n 0, 1) := by decide +kernel
theorem dS_init_61 : decode cS_init 61 = .ok (.iload_n 2, 1) := by decide +kernel
theorem dS_init_62 : decode cS_init 62 = .ok (.iconst 4, 1) := by decide +kernel
theorem dS_init_63 : decode cS_init 63 = .ok (.imul, 1) := by decide +kernel
theorem dS_init_64 : decode cS_init 64 = .ok (.anewarray 31, 3) := by decide +kernel
theorem dS_init_67 : decode cS_init 67 = .ok (.putfield 33, 3) := by decide +kernel
theorem dS_init_70 : decode cS_init 70 = .ok (.aload_n 0, 1) := by decide +kernel
theorem dS_init_71 : decode cS_init 71 = .ok (.iconst 0, 1) := by decide +kernel
theorem dS_init_72 : decode cS_init 72 = .ok (.putfield 37, 3) := by decide +kernel
theorem dS_init_75 : decode cS_init 75 = .ok (.aload_n 0, 1) := by decide +kernel
theorem dS_init_76 : decode cS_init 76 = .ok (.aload_n 0, 1) := by decide +kernel
theorem dS_init_77 : decode cS_init 77 = .ok (.getfield 27, 3) := by decide +kernel
theorem dS_init_80 : decode cS_init 80 = .ok (.putfield 40, 3) := by decide +kernel
theorem dS_init_83 : decode cS_init 83 = .ok (.aload_n 0, 1) := by decide +kernel
theorem dS_init_84 : decode cS_init 84 = .ok (.iconst 0, 1) := by decide +kernel
theorem dS_init_85 : decode cS_init 85 = .ok (.putfield 43, 3) := by decide +kernel
theorem dS_init_88 : decode cS_init 88 = .ok (.return_, 1) := by decide +kernel
theorem dS_quota_0 : decode cS_quota 0 = .ok (.aload_n 0, 1) := by decide +kernel
theorem dS_quota_1 : decode cS_quota 1 = .ok (.getfield 43, 3) := by decide +kernel
theorem dS_quota_4 : decode cS_quota 4 = .ok (.ifCond .ne 22, 3) := by decide +kernel
theorem dS_quota_7 : decode cS_quota 7 = .ok (.aload_n 0, 1) := by decide +kernel
theorem dS_quota_8 : decode cS_quota 8 = .ok (.iload_n 1, 1) := by decide +kernel
theorem dS_quota_9 : decode cS_quota 9 = .ok (.invokevirtual 47, 3) := by decide +kernel
theorem dS_quota_12 : decode cS_quota 12 = .ok (.ifCond .eq 14, 3) := by decide +kernel
theorem dS_quota_15 : decode cS_quota 15 = .ok (.iload_n 3, 1) := by decide +kernel
theorem dS_quota_16 : decode cS_quota 16 = .ok (.iconst 1, 1) := by decide +kernel
theorem dS_quota_17 : decode cS_quota 17 = .ok (.if_icmp .lt 9, 3) := by decide +kernel
theorem dS_quota_20 : decode cS_quota 20 = .ok (.iload_n 3, 1) := by decide +kernel
theorem dS_quota_21 : decode cS_quota 21 = .ok (.bipush 9, 2) := by decide +kernel
theorem dS_quota_23 : decode cS_quota 23 = .ok (.if_icmp .le 5, 3) := by decide +kernel
theorem dS_quota_26 : decode cS_quota 26 = .ok (.iconst (-1), 1) := by decide +kernel
theorem dS_quota_27 : decode cS_quota 27 = .ok (.ireturn, 1) := by decide +kernel
theorem dS_quota_28 : decode cS_quota 28 = .ok (.aload_n 0, 1) := by decide +kernel
theorem dS_quota_29 : decode cS_quota 29 = .ok (.getfield 20, 3) := by decide +kernel
theorem dS_quota_32 : decode cS_quota 32 = .ok (.iload_n 1, 1) := by decide +kernel
theorem dS_quota_33 : decode cS_quota 33 = .ok (.aaload, 1) := by decide +kernel
theorem dS_quota_34 : decode cS_quota 34 = .ok (.astore 4, 2) := by decide +kernel
theorem dS_quota_36 : decode cS_quota 36 = .ok (.aload 4, 2) := by decide +kernel
theorem dS_quota_38 : decode cS_quota 38 = .ok (.getfield 51, 3) := by decide +kernel
theorem dS_quota_41 : decode cS_quota 41 = .ok (.iconst 4, 1) := by decide +kernel
theorem dS_quota_42 : decode cS_quota 42 = .ok (.if_icmp .lt 5, 3) := by decide +kernel
theorem dS_quota_45 : decode cS_quota 45 = .ok (.iconst (-1), 1) := by decide +kernel
theorem dS_quota_46 : decode cS_quota 46 = .ok (.ireturn, 1) := by decide +kernel
theorem dS_quota_47 : decode cS_quota 47 = .ok (.iload_n 2, 1) := by decide +kernel
theorem dS_quota_48 : decode cS_quota 48 = .ok (.iconst (-1), 1) := by decide +kernel
theorem dS_quota_49 : decode cS_quota 49 = .ok (.if_icmp .ne 13, 3) := by decide +kernel
theorem dS_quota_52 : decode cS_quota 52 = .ok (.aload_n 0, 1) := by decide +kernel
theorem dS_quota_53 : decode cS_quota 53 = .ok (.aload 4, 2) := by decide +kernel
theorem dS_quota_55 : decode cS_quota 55 = .ok (.iload_n 3, 1) := by decide +kernel
theorem dS_quota_56 : decode cS_quota 56 = .ok (.invokevirtual 52, 3) := by decide +kernel
theorem dS_quota_59 : decode cS_quota 59 = .ok (.goto 11, 3) := by decide +kernel
theorem dS_quota_62 : decode cS_quota 62 = .ok (.aload_n 0, 1) := by decide +kernel
theorem dS_quota_63 : decode cS_quota 63 = .ok (.aload 4, 2) := by decide +kernel
theorem dS_quota_65 : decode cS_quota 65 = .ok (.iload_n 2, 1) := by decide +kernel
theorem dS_quota_66 : decode cS_quota 66 = .ok (.iload_n 3, 1) := by decide +kernel
theorem dS_quota_67 : decode cS_quota 67 = .ok (.invokevirtual 56, 3) := by decide +kernel
theorem dS_quota_70 : decode cS_quota 70 = .ok (.ireturn, 1) := by decide +kernel
theorem dS_member_0 : decode cS_member 0 = .ok (.aload_n 0, 1) := by decide +kernel
theorem dS_member_1 : decode cS_member 1 = .ok (.getfield 43, 3) := by decide +kernel
theorem dS_member_4 : decode cS_member 4 = .ok (.ifCond .ne 35, 3) := by decide +kernel
theorem dS_member_7 : decode cS_member 7 = .ok (.aload_n 0, 1) := by decide +kernel
theorem dS_member_8 : decode cS_member 8 = .ok (.iload_n 1, 1) := by decide +kernel
theorem dS_member_9 : decode cS_member 9 = .ok (.invokevirtual 60, 3) := by decide +kernel
theorem dS_member_12 : decode cS_member 12 = .ok (.ifCond .eq 27, 3) := by decide +kernel
theorem dS_member_15 : decode cS_member 15 = .ok (.aload_n 0, 1) := by decide +kernel
theorem dS_member_16 : decode cS_member 16 = .ok (.iload_n 2, 1) := by decide +kernel
theorem dS_member_17 : decode cS_member 17 = .ok (.invokevirtual 47, 3) := by decide +kernel
theorem dS_member_20 : decode cS_member 20 = .ok (.ifCond .eq 19, 3) := by decide +kernel
theorem dS_member_23 : decode cS_member 23 = .ok (.aload_n 0, 1) := by decide +kernel
theorem dS_member_24 : decode cS_member 24 = .ok (.getfield 33, 3) := by decide +kernel
theorem dS_member_27 : decode cS_member 27 = .ok (.iload_n 1, 1) := by decide +kernel
theorem dS_member_28 : decode cS_member 28 = .ok (.aaload, 1) := by decide +kernel
theorem dS_member_29 : decode cS_member 29 = .ok (.getfield 63, 3) := by decide +kernel
theorem dS_member_32 : decode cS_member 32 = .ok (.iload_n 2, 1) := by decide +kernel
theorem dS_member_33 : decode cS_member 33 = .ok (.invokestatic 66, 3) := by decide +kernel
theorem dS_member_36 : decode cS_member 36 = .ok (.ifCond .eq 5, 3) := by decide +kernel
theorem dS_member_39 : decode cS_member 39 = .ok (.iconst 0, 1) := by decide +kernel
theorem dS_member_40 : decode cS_member 40 = .ok (.ireturn, 1) := by decide +kernel
theorem dS_member_41 : decode cS_member 41 = .ok (.aload_n 0, 1) := by decide +kernel
theorem dS_member_42 : decode cS_member 42 = .ok (.getfield 33, 3) := by decide +kernel
theorem dS_member_45 : decode cS_member 45 = .ok (.iload_n 1, 1) := by decide +kernel
theorem dS_member_46 : decode cS_member 46 = .ok (.aaload, 1) := by decide +kernel
theorem dS_member_47 : decode cS_member 47 = .ok (.dup, 1) := by decide +kernel
theorem dS_member_48 : decode cS_member 48 = .ok (.getfield 63, 3) := by decide +kernel
theorem dS_member_51 : decode cS_member 51 = .ok (.iconst 1, 1) := by decide +kernel
theorem dS_member_52 : decode cS_member 52 = .ok (.iload_n 2, 1) := by decide +kernel
theorem dS_member_53 : decode cS_member 53 = .ok (.ishl, 1) := by decide +kernel
theorem dS_member_54 : decode cS_member 54 = .ok (.ior, 1) := by decide +kernel
theorem dS_member_55 : decode cS_member 55 = .ok (.putfield 63, 3) := by decide +kernel
theorem dS_member_58 : decode cS_member 58 = .ok (.iconst 1, 1) := by decide +kernel
theorem dS_member_59 : decode cS_member 59 = .ok (.ireturn, 1) := by decide +kernel
theorem dS_corrupt_0 : decode cS_corrupt 0 = .ok (.aload_n 0, 1) := by decide +kernel
theorem dS_corrupt_1 : decode cS_corrupt 1 = .ok (.iload_n 1, 1) := by decide +kernel
theorem dS_corrupt_2 : decode cS_corrupt 2 = .ok (.invokevirtual 70, 3) := by decide +kernel
theorem dS_corrupt_5 : decode cS_corrupt 5 = .ok (.ifCond .ne 5, 3) := by decide +kernel
theorem dS_corrupt_8 : decode cS_corrupt 8 = .ok (.iconst 0, 1) := by decide +kernel
theorem dS_corrupt_9 : decode cS_corrupt 9 = .ok (.ireturn, 1) := by decide +kernel
theorem dS_corrupt_10 : decode cS_corrupt 10 = .ok (.aload_n 0, 1) := by decide +kernel
theorem dS_corrupt_11 : decode cS_corrupt 11 = .ok (.dup, 1) := by decide +kernel
theorem dS_corrupt_12 : decode cS_corrupt 12 = .ok (.getfield 40, 3) := by decide +kernel
theorem dS_corrupt_15 : decode cS_corrupt 15 = .ok (.iconst 1, 1) := by decide +kernel
theorem dS_corrupt_16 : decode cS_corrupt 16 = .ok (.iload_n 1, 1) := by decide +kernel
theorem dS_corrupt_17 : decode cS_corrupt 17 = .ok (.ishl, 1) := by decide +kernel
theorem dS_corrupt_18 : decode cS_corrupt 18 = .ok (.iconst (-1), 1) := by decide +kernel
theorem dS_corrupt_19 : decode cS_corrupt 19 = .ok (.ixor, 1) := by decide +kernel
theorem dS_corrupt_20 : decode cS_corrupt 20 = .ok (.iand, 1) := by decide +kernel
theorem dS_corrupt_21 : decode cS_corrupt 21 = .ok (.putfield 40, 3) := by decide +kernel
theorem dS_corrupt_24 : decode cS_corrupt 24 = .ok (.iconst 1, 1) := by decide +kernel
theorem dS_corrupt_25 : decode cS_corrupt 25 = .ok (.ireturn, 1) := by decide +kernel
theorem dS_propose_0 : decode cS_propose 0 = .ok (.aload_n 0, 1) := by decide +kernel
theorem dS_propose_1 : decode cS_propose 1 = .ok (.iload_n 1, 1) := by decide +kernel
theorem dS_propose_2 : decode cS_propose 2 = .ok (.invokevirtual 70, 3) := by decide +kernel
theorem dS_propose_5 : decode cS_propose 5 = .ok (.ifCond .eq 17, 3) := by decide +kernel
theorem dS_propose_8 : decode cS_propose 8 = .ok (.iload_n 2, 1) := by decide +kernel
theorem dS_propose_9 : decode cS_propose 9 = .ok (.iconst 4, 1) := by decide +kernel
theorem dS_propose_10 : decode cS_propose 10 = .ok (.if_icmp .gt 12, 3) := by decide +kernel
theorem dS_propose_13 : decode cS_propose 13 = .ok (.iload_n 3, 1) := by decide +kernel
theorem dS_propose_14 : decode cS_propose 14 = .ok (.ifCond .lt 8, 3) := by decide +kernel
theorem dS_propose_17 : decode cS_propose 17 = .ok (.iload_n 3, 1) := by decide +kernel
theorem dS_propose_18 : decode cS_propose 18 = .ok (.iconst 3, 1) := by decide +kernel
theorem dS_propose_19 : decode cS_propose 19 = .ok (.if_icmp .lt 5, 3) := by decide +kernel
theorem dS_propose_22 : decode cS_propose 22 = .ok (.iconst (-1), 1) := by decide +kernel
theorem dS_propose_23 : decode cS_propose 23 = .ok (.ireturn, 1) := by decide +kernel
theorem dS_propose_24 : decode cS_propose 24 = .ok (.aload_n 0, 1) := by decide +kernel
theorem dS_propose_25 : decode cS_propose 25 = .ok (.getfield 20, 3) := by decide +kernel
theorem dS_propose_28 : decode cS_propose 28 = .ok (.iload_n 1, 1) := by decide +kernel
theorem dS_propose_29 : decode cS_propose 29 = .ok (.aaload, 1) := by decide +kernel
theorem dS_propose_30 : decode cS_propose 30 = .ok (.astore 4, 2) := by decide +kernel
theorem dS_propose_32 : decode cS_propose 32 = .ok (.iload_n 2, 1) := by decide +kernel
theorem dS_propose_33 : decode cS_propose 33 = .ok (.aload 4, 2) := by decide +kernel
theorem dS_propose_35 : decode cS_propose 35 = .ok (.getfield 73, 3) := by decide +kernel
theorem dS_propose_38 : decode cS_propose 38 = .ok (.if_icmp .gt 5, 3) := by decide +kernel
theorem dS_propose_41 : decode cS_propose 41 = .ok (.iconst (-1), 1) := by decide +kernel
theorem dS_propose_42 : decode cS_propose 42 = .ok (.ireturn, 1) := by decide +kernel
theorem dS_propose_43 : decode cS_propose 43 = .ok (.aload_n 0, 1) := by decide +kernel
theorem dS_propose_44 : decode cS_propose 44 = .ok (.iconst 1, 1) := by decide +kernel
theorem dS_propose_45 : decode cS_propose 45 = .ok (.putfield 43, 3) := by decide +kernel
theorem dS_propose_48 : decode cS_propose 48 = .ok (.aload 4, 2) := by decide +kernel
theorem dS_propose_50 : decode cS_propose 50 = .ok (.aload 4, 2) := by decide +kernel
theorem dS_propose_52 : decode cS_propose 52 = .ok (.iload_n 3, 1) := by decide +kernel
theorem dS_propose_53 : decode cS_propose 53 = .ok (.invokestatic 76, 3) := by decide +kernel
theorem dS_propose_56 : decode cS_propose 56 = .ok (.putfield 79, 3) := by decide +kernel
theorem dS_propose_59 : decode cS_propose 59 = .ok (.aload 4, 2) := by decide +kernel
theorem dS_propose_61 : decode cS_propose 61 = .ok (.iload_n 2, 1) := by decide +kernel
theorem dS_propose_62 : decode cS_propose 62 = .ok (.putfield 73, 3) := by decide +kernel
theorem dS_propose_65 : decode cS_propose 65 = .ok (.iconst 1, 1) := by decide +kernel
theorem dS_propose_66 : decode cS_propose 66 = .ok (.istore 5, 2) := by decide +kernel
theorem dS_propose_68 : decode cS_propose 68 = .ok (.iload 5, 2) := by decide +kernel
theorem dS_propose_70 : decode cS_propose 70 = .ok (.iload_n 2, 1) := by decide +kernel
theorem dS_propose_71 : decode cS_propose 71 = .ok (.if_icmp .gt 25, 3) := by decide +kernel
theorem dS_propose_74 : decode cS_propose 74 = .ok (.aload 4, 2) := by decide +kernel
theorem dS_propose_76 : decode cS_propose 76 = .ok (.iload 5, 2) := by decide +kernel
theorem dS_propose_78 : decode cS_propose 78 = .ok (.aload 4, 2) := by decide +kernel
theorem dS_propose_80 : decode cS_propose 80 = .ok (.getfield 79, 3) := by decide +kernel
theorem dS_propose_83 : decode cS_propose 83 = .ok (.invokestatic 82, 3) := by decide +kernel
theorem dS_propose_86 : decode cS_propose 86 = .ok (.invokestatic 85, 3) := by decide +kernel
theorem dS_propose_89 : decode cS_propose 89 = .ok (.pop, 1) := by decide +kernel
theorem dS_propose_90 : decode cS_propose 90 = .ok (.iinc 5 1, 3) := by decide +kernel
theorem dS_propose_93 : decode cS_propose 93 = .ok (.goto (-25), 3) := by decide +kernel
theorem dS_propose_96 : decode cS_propose 96 = .ok (.aload_n 0, 1) := by decide +kernel
theorem dS_propose_97 : decode cS_propose 97 = .ok (.aload 4, 2) := by decide +kernel
theorem dS_propose_99 : decode cS_propose 99 = .ok (.invokevirtual 89, 3) := by decide +kernel
theorem dS_propose_102 : decode cS_propose 102 = .ok (.aload 4, 2) := by decide +kernel
theorem dS_propose_104 : decode cS_propose 104 = .ok (.getfield 79, 3) := by decide +kernel
theorem dS_propose_107 : decode cS_propose 107 = .ok (.ireturn, 1) := by decide +kernel
theorem dS_deliver_0 : decode cS_deliver 0 = .ok (.aload_n 0, 1) := by decide +kernel
theorem dS_deliver_1 : decode cS_deliver 1 = .ok (.iload_n 1, 1) := by decide +kernel
theorem dS_deliver_2 : decode cS_deliver 2 = .ok (.invokevirtual 70, 3) := by decide +kernel
theorem dS_deliver_5 : decode cS_deliver 5 = .ok (.ifCond .eq 16, 3) := by decide +kernel
theorem dS_deliver_8 : decode cS_deliver 8 = .ok (.aload_n 0, 1) := by decide +kernel
theorem dS_deliver_9 : decode cS_deliver 9 = .ok (.iload_n 2, 1) := by decide +kernel
theorem dS_deliver_10 : decode cS_deliver 10 = .ok (.invokevirtual 70, 3) := by decide +kernel
theorem dS_deliver_13 : decode cS_deliver 13 = .ok (.ifCond .eq 8, 3) := by decide +kernel
theorem dS_deliver_16 : decode cS_deliver 16 = .ok (.iload_n 1, 1) := by decide +kernel
theorem dS_deliver_17 : decode cS_deliver 17 = .ok (.iload_n 2, 1) := by decide +kernel
theorem dS_deliver_18 : decode cS_deliver 18 = .ok (.if_icmp .ne 5, 3) := by decide +kernel
theorem dS_deliver_21 : decode cS_deliver 21 = .ok (.iconst 0, 1) := by decide +kernel
theorem dS_deliver_22 : decode cS_deliver 22 = .ok (.ireturn, 1) := by decide +kernel
theorem dS_deliver_23 : decode cS_deliver 23 = .ok (.aload_n 0, 1) := by decide +kernel
theorem dS_deliver_24 : decode cS_deliver 24 = .ok (.aload_n 0, 1) := by decide +kernel
theorem dS_deliver_25 : decode cS_deliver 25 = .ok (.getfield 20, 3) := by decide +kernel
theorem dS_deliver_28 : decode cS_deliver 28 = .ok (.iload_n 2, 1) := by decide +kernel
theorem dS_deliver_29 : decode cS_deliver 29 = .ok (.aaload, 1) := by decide +kernel
theorem dS_deliver_30 : decode cS_deliver 30 = .ok (.iload_n 1, 1) := by decide +kernel
theorem dS_deliver_31 : decode cS_deliver 31 = .ok (.aload_n 0, 1) := by decide +kernel
theorem dS_deliver_32 : decode cS_deliver 32 = .ok (.getfield 20, 3) := by decide +kernel
theorem dS_deliver_35 : decode cS_deliver 35 = .ok (.iload_n 1, 1) := by decide +kernel
theorem dS_deliver_36 : decode cS_deliver 36 = .ok (.aaload, 1) := by decide +kernel
theorem dS_deliver_37 : decode cS_deliver 37 = .ok (.getfield 93, 3) := by decide +kernel
theorem dS_deliver_40 : decode cS_deliver 40 = .ok (.iload_n 1, 1) := by decide +kernel
theorem dS_deliver_41 : decode cS_deliver 41 = .ok (.iaload, 1) := by decide +kernel
theorem dS_deliver_42 : decode cS_deliver 42 = .ok (.aload_n 0, 1) := by decide +kernel
theorem dS_deliver_43 : decode cS_deliver 43 = .ok (.getfield 20, 3) := by decide +kernel
theorem dS_deliver_46 : decode cS_deliver 46 = .ok (.iload_n 1, 1) := by decide +kernel
theorem dS_deliver_47 : decode cS_deliver 47 = .ok (.aaload, 1) := by decide +kernel
theorem dS_deliver_48 : decode cS_deliver 48 = .ok (.getfield 97, 3) := by decide +kernel
theorem dS_deliver_51 : decode cS_deliver 51 = .ok (.iload_n 1, 1) := by decide +kernel
theorem dS_deliver_52 : decode cS_deliver 52 = .ok (.iaload, 1) := by decide +kernel
theorem dS_deliver_53 : decode cS_deliver 53 = .ok (.invokevirtual 100, 3) := by decide +kernel
theorem dS_deliver_56 : decode cS_deliver 56 = .ok (.aload_n 0, 1) := by decide +kernel
theorem dS_deliver_57 : decode cS_deliver 57 = .ok (.aload_n 0, 1) := by decide +kernel
theorem dS_deliver_58 : decode cS_deliver 58 = .ok (.getfield 20, 3) := by decide +kernel
theorem dS_deliver_61 : decode cS_deliver 61 = .ok (.iload_n 2, 1) := by decide +kernel
theorem dS_deliver_62 : decode cS_deliver 62 = .ok (.aaload, 1) := by decide +kernel
theorem dS_deliver_63 : decode cS_deliver 63 = .ok (.invokevirtual 89, 3) := by decide +kernel
theorem dS_deliver_66 : decode cS_deliver 66 = .ok (.iconst 1, 1) := by decide +kernel
theorem dS_deliver_67 : decode cS_deliver 67 = .ok (.ireturn, 1) := by decide +kernel
theorem dS_say_0 : decode cS_say 0 = .ok (.aload_n 0, 1) := by decide +kernel
theorem dS_say_1 : decode cS_say 1 = .ok (.iload_n 1, 1) := by decide +kernel
theorem dS_say_2 : decode cS_say 2 = .ok (.invokevirtual 47, 3) := by decide +kernel
theorem dS_say_5 : decode cS_say 5 = .ok (.ifCond .eq 19, 3) := by decide +kernel
theorem dS_say_8 : decode cS_say 8 = .ok (.aload_n 0, 1) := by decide +kernel
theorem dS_say_9 : decode cS_say 9 = .ok (.iload_n 1, 1) := by decide +kernel
theorem dS_say_10 : decode cS_say 10 = .ok (.invokevirtual 70, 3) := by decide +kernel
theorem dS_say_13 : decode cS_say 13 = .ok (.ifCond .ne 11, 3) := by decide +kernel
theorem dS_say_16 : decode cS_say 16 = .ok (.aload_n 0, 1) := by decide +kernel
theorem dS_say_17 : decode cS_say 17 = .ok (.iload_n 2, 1) := by decide +kernel
theorem dS_say_18 : decode cS_say 18 = .ok (.invokevirtual 70, 3) := by decide +kernel
theorem dS_say_21 : decode cS_say 21 = .ok (.ifCond .ne 5, 3) := by decide +kernel
theorem dS_say_24 : decode cS_say 24 = .ok (.iconst 0, 1) := by decide +kernel
theorem dS_say_25 : decode cS_say 25 = .ok (.ireturn, 1) := by decide +kernel
theorem dS_say_26 : decode cS_say 26 = .ok (.aload_n 0, 1) := by decide +kernel
theorem dS_say_27 : decode cS_say 27 = .ok (.aload_n 0, 1) := by decide +kernel
theorem dS_say_28 : decode cS_say 28 = .ok (.getfield 20, 3) := by decide +kernel
theorem dS_say_31 : decode cS_say 31 = .ok (.iload_n 2, 1) := by decide +kernel
theorem dS_say_32 : decode cS_say 32 = .ok (.aaload, 1) := by decide +kernel
theorem dS_say_33 : decode cS_say 33 = .ok (.iload_n 1, 1) := by decide +kernel
theorem dS_say_34 : decode cS_say 34 = .ok (.iload_n 3, 1) := by decide +kernel
theorem dS_say_35 : decode cS_say 35 = .ok (.ldc 104, 2) := by decide +kernel
theorem dS_say_37 : decode cS_say 37 = .ok (.iand, 1) := by decide +kernel
theorem dS_say_38 : decode cS_say 38 = .ok (.iload 4, 2) := by decide +kernel
theorem dS_say_40 : decode cS_say 40 = .ok (.ldc 104, 2) := by decide +kernel
theorem dS_say_42 : decode cS_say 42 = .ok (.iand, 1) := by decide +kernel
theorem dS_say_43 : decode cS_say 43 = .ok (.invokevirtual 100, 3) := by decide +kernel
theorem dS_say_46 : decode cS_say 46 = .ok (.aload_n 0, 1) := by decide +kernel
theorem dS_say_47 : decode cS_say 47 = .ok (.aload_n 0, 1) := by decide +kernel
theorem dS_say_48 : decode cS_say 48 = .ok (.getfield 20, 3) := by decide +kernel
theorem dS_say_51 : decode cS_say 51 = .ok (.iload_n 2, 1) := by decide +kernel
theorem dS_say_52 : decode cS_say 52 = .ok (.aaload, 1) := by decide +kernel
theorem dS_say_53 : decode cS_say 53 = .ok (.invokevirtual 89, 3) := by decide +kernel
theorem dS_say_56 : decode cS_say 56 = .ok (.iconst 1, 1) := by decide +kernel
theorem dS_say_57 : decode cS_say 57 = .ok (.ireturn, 1) := by decide +kernel
theorem dS_voted_0 : decode cS_voted 0 = .ok (.aload_n 0, 1) := by decide +kernel
theorem dS_voted_1 : decode cS_voted 1 = .ok (.iload_n 1, 1) := by decide +kernel
theorem dS_voted_2 : decode cS_voted 2 = .ok (.iload_n 1, 1) := by decide +kernel
theorem dS_voted_3 : decode cS_voted 3 = .ok (.iconst 0, 1) := by decide +kernel
theorem dS_voted_4 : decode cS_voted 4 = .ok (.invokevirtual 105, 3) := by decide +kernel
theorem dS_voted_7 : decode cS_voted 7 = .ok (.ireturn, 1) := by decide +kernel
theorem dS_accepted_0 : decode cS_accepted 0 = .ok (.aload_n 0, 1) := by decide +kernel
theorem dS_accepted_1 : decode cS_accepted 1 = .ok (.iload_n 1, 1) := by decide +kernel
theorem dS_accepted_2 : decode cS_accepted 2 = .ok (.iload_n 1, 1) := by decide +kernel
theorem dS_accepted_3 : decode cS_accepted 3 = .ok (.iconst 1, 1) := by decide +kernel
theorem dS_accepted_4 : decode cS_accepted 4 = .ok (.invokevirtual 105, 3) := by decide +kernel
theorem dS_accepted_7 : decode cS_accepted 7 = .ok (.ireturn, 1) := by decide +kernel
theorem dS_confirmed_0 : decode cS_confirmed 0 = .ok (.aload_n 0, 1) := by decide +kernel
theorem dS_confirmed_1 : decode cS_confirmed 1 = .ok (.iload_n 1, 1) := by decide +kernel
theorem dS_confirmed_2 : decode cS_confirmed 2 = .ok (.invokevirtual 47, 3) := by decide +kernel
theorem dS_confirmed_5 : decode cS_confirmed 5 = .ok (.ifCond .eq 15, 3) := by decide +kernel
theorem dS_confirmed_8 : decode cS_confirmed 8 = .ok (.aload_n 0, 1) := by decide +kernel
theorem dS_confirmed_9 : decode cS_confirmed 9 = .ok (.getfield 20, 3) := by decide +kernel
theorem dS_confirmed_12 : decode cS_confirmed 12 = .ok (.iload_n 1, 1) := by decide +kernel
theorem dS_confirmed_13 : decode cS_confirmed 13 = .ok (.aaload, 1) := by decide +kernel
theorem dS_confirmed_14 : decode cS_confirmed 14 = .ok (.getfield 109, 3) := by decide +kernel
theorem dS_confirmed_17 : decode cS_confirmed 17 = .ok (.goto 4, 3) := by decide +kernel
theorem dS_confirmed_20 : decode cS_confirmed 20 = .ok (.iconst 0, 1) := by decide +kernel
theorem dS_confirmed_21 : decode cS_confirmed 21 = .ok (.ireturn, 1) := by decide +kernel
theorem dS_counter_0 : decode cS_counter 0 = .ok (.aload_n 0, 1) := by decide +kernel
theorem dS_counter_1 : decode cS_counter 1 = .ok (.iload_n 1, 1) := by decide +kernel
theorem dS_counter_2 : decode cS_counter 2 = .ok (.invokevirtual 47, 3) := by decide +kernel
theorem dS_counter_5 : decode cS_counter 5 = .ok (.ifCond .eq 15, 3) := by decide +kernel
theorem dS_counter_8 : decode cS_counter 8 = .ok (.aload_n 0, 1) := by decide +kernel
theorem dS_counter_9 : decode cS_counter 9 = .ok (.getfield 20, 3) := by decide +kernel
theorem dS_counter_12 : decode cS_counter 12 = .ok (.iload_n 1, 1) := by decide +kernel
theorem dS_counter_13 : decode cS_counter 13 = .ok (.aaload, 1) := by decide +kernel
theorem dS_counter_14 : decode cS_counter 14 = .ok (.getfield 73, 3) := by decide +kernel
theorem dS_counter_17 : decode cS_counter 17 = .ok (.goto 4, 3) := by decide +kernel
theorem dS_counter_20 : decode cS_counter 20 = .ok (.iconst 0, 1) := by decide +kernel
theorem dS_counter_21 : decode cS_counter 21 = .ok (.ireturn, 1) := by decide +kernel
theorem dS_value_0 : decode cS_value 0 = .ok (.aload_n 0, 1) := by decide +kernel
theorem dS_value_1 : decode cS_value 1 = .ok (.iload_n 1, 1) := by decide +kernel
theorem dS_value_2 : decode cS_value 2 = .ok (.invokevirtual 47, 3) := by decide +kernel
theorem dS_value_5 : decode cS_value 5 = .ok (.ifCond .eq 15, 3) := by decide +kernel
theorem dS_value_8 : decode cS_value 8 = .ok (.aload_n 0, 1) := by decide +kernel
theorem dS_value_9 : decode cS_value 9 = .ok (.getfield 20, 3) := by decide +kernel
theorem dS_value_12 : decode cS_value 12 = .ok (.iload_n 1, 1) := by decide +kernel
theorem dS_value_13 : decode cS_value 13 = .ok (.aaload, 1) := by decide +kernel
theorem dS_value_14 : decode cS_value 14 = .ok (.getfield 79, 3) := by decide +kernel
theorem dS_value_17 : decode cS_value 17 = .ok (.goto 4, 3) := by decide +kernel
theorem dS_value_20 : decode cS_value 20 = .ok (.iconst 0, 1) := by decide +kernel
theorem dS_value_21 : decode cS_value 21 = .ok (.ireturn, 1) := by decide +kernel
theorem dS_decided_0 : decode cS_decided 0 = .ok (.aload_n 0, 1) := by decide +kernel
theorem dS_decided_1 : decode cS_decided 1 = .ok (.iload_n 1, 1) := by decide +kernel
theorem dS_decided_2 : decode cS_decided 2 = .ok (.invokevirtual 47, 3) := by decide +kernel
theorem dS_decided_5 : decode cS_decided 5 = .ok (.ifCond .eq 15, 3) := by decide +kernel
theorem dS_decided_8 : decode cS_decided 8 = .ok (.aload_n 0, 1) := by decide +kernel
theorem dS_decided_9 : decode cS_decided 9 = .ok (.getfield 20, 3) := by decide +kernel
theorem dS_decided_12 : decode cS_decided 12 = .ok (.iload_n 1, 1) := by decide +kernel
theorem dS_decided_13 : decode cS_decided 13 = .ok (.aaload, 1) := by decide +kernel
theorem dS_decided_14 : decode cS_decided 14 = .ok (.getfield 112, 3) := by decide +kernel
theorem dS_decided_17 : decode cS_decided 17 = .ok (.goto 4, 3) := by decide +kernel
theorem dS_decided_20 : decode cS_decided 20 = .ok (.iconst (-1), 1) := by decide +kernel
theorem dS_decided_21 : decode cS_decided 21 = .ok (.ireturn, 1) := by decide +kernel
theorem dS_known_0 : decode cS_known 0 = .ok (.aload_n 0, 1) := by decide +kernel
theorem dS_known_1 : decode cS_known 1 = .ok (.iload_n 1, 1) := by decide +kernel
theorem dS_known_2 : decode cS_known 2 = .ok (.invokevirtual 47, 3) := by decide +kernel
theorem dS_known_5 : decode cS_known 5 = .ok (.ifCond .eq 11, 3) := by decide +kernel
theorem dS_known_8 : decode cS_known 8 = .ok (.aload_n 0, 1) := by decide +kernel
theorem dS_known_9 : decode cS_known 9 = .ok (.iload_n 2, 1) := by decide +kernel
theorem dS_known_10 : decode cS_known 10 = .ok (.invokevirtual 47, 3) := by decide +kernel
theorem dS_known_13 : decode cS_known 13 = .ok (.ifCond .ne 5, 3) := by decide +kernel
theorem dS_known_16 : decode cS_known 16 = .ok (.iconst 0, 1) := by decide +kernel
theorem dS_known_17 : decode cS_known 17 = .ok (.ireturn, 1) := by decide +kernel
theorem dS_known_18 : decode cS_known 18 = .ok (.iload_n 3, 1) := by decide +kernel
theorem dS_known_19 : decode cS_known 19 = .ok (.ifCond .eq 17, 3) := by decide +kernel
theorem dS_known_22 : decode cS_known 22 = .ok (.aload_n 0, 1) := by decide +kernel
theorem dS_known_23 : decode cS_known 23 = .ok (.getfield 20, 3) := by decide +kernel
theorem dS_known_26 : decode cS_known 26 = .ok (.iload_n 1, 1) := by decide +kernel
theorem dS_known_27 : decode cS_known 27 = .ok (.aaload, 1) := by decide +kernel
theorem dS_known_28 : decode cS_known 28 = .ok (.getfield 97, 3) := by decide +kernel
theorem dS_known_31 : decode cS_known 31 = .ok (.iload_n 2, 1) := by decide +kernel
theorem dS_known_32 : decode cS_known 32 = .ok (.iaload, 1) := by decide +kernel
theorem dS_known_33 : decode cS_known 33 = .ok (.goto 14, 3) := by decide +kernel
theorem dS_known_36 : decode cS_known 36 = .ok (.aload_n 0, 1) := by decide +kernel
theorem dS_known_37 : decode cS_known 37 = .ok (.getfield 20, 3) := by decide +kernel
theorem dS_known_40 : decode cS_known 40 = .ok (.iload_n 1, 1) := by decide +kernel
theorem dS_known_41 : decode cS_known 41 = .ok (.aaload, 1) := by decide +kernel
theorem dS_known_42 : decode cS_known 42 = .ok (.getfield 93, 3) := by decide +kernel
theorem dS_known_45 : decode cS_known 45 = .ok (.iload_n 2, 1) := by decide +kernel
theorem dS_known_46 : decode cS_known 46 = .ok (.iaload, 1) := by decide +kernel
theorem dS_known_47 : decode cS_known 47 = .ok (.ireturn, 1) := by decide +kernel
theorem dS_quorum_0 : decode cS_quorum 0 = .ok (.aload_n 0, 1) := by decide +kernel
theorem dS_quorum_1 : decode cS_quorum 1 = .ok (.iload_n 1, 1) := by decide +kernel
theorem dS_quorum_2 : decode cS_quorum 2 = .ok (.invokevirtual 115, 3) := by decide +kernel
theorem dS_quorum_5 : decode cS_quorum 5 = .ok (.ifCond .eq 15, 3) := by decide +kernel
theorem dS_quorum_8 : decode cS_quorum 8 = .ok (.aload_n 0, 1) := by decide +kernel
theorem dS_quorum_9 : decode cS_quorum 9 = .ok (.iload_n 1, 1) := by decide +kernel
theorem dS_quorum_10 : decode cS_quorum 10 = .ok (.invokevirtual 118, 3) := by decide +kernel
theorem dS_quorum_13 : decode cS_quorum 13 = .ok (.ifCond .eq 7, 3) := by decide +kernel
theorem dS_quorum_16 : decode cS_quorum 16 = .ok (.iconst 1, 1) := by decide +kernel
theorem dS_quorum_17 : decode cS_quorum 17 = .ok (.goto 4, 3) := by decide +kernel
theorem dS_quorum_20 : decode cS_quorum 20 = .ok (.iconst 0, 1) := by decide +kernel
theorem dS_quorum_21 : decode cS_quorum 21 = .ok (.ireturn, 1) := by decide +kernel
theorem dS_largest_0 : decode cS_largest 0 = .ok (.aload_n 0, 1) := by decide +kernel
theorem dS_largest_1 : decode cS_largest 1 = .ok (.iload_n 1, 1) := by decide +kernel
theorem dS_largest_2 : decode cS_largest 2 = .ok (.invokevirtual 115, 3) := by decide +kernel
theorem dS_largest_5 : decode cS_largest 5 = .ok (.ifCond .eq 11, 3) := by decide +kernel
theorem dS_largest_8 : decode cS_largest 8 = .ok (.aload_n 0, 1) := by decide +kernel
theorem dS_largest_9 : decode cS_largest 9 = .ok (.iload_n 1, 1) := by decide +kernel
theorem dS_largest_10 : decode cS_largest 10 = .ok (.invokevirtual 121, 3) := by decide +kernel
theorem dS_largest_13 : decode cS_largest 13 = .ok (.goto 4, 3) := by decide +kernel
theorem dS_largest_16 : decode cS_largest 16 = .ok (.iconst (-1), 1) := by decide +kernel
theorem dS_largest_17 : decode cS_largest 17 = .ok (.ireturn, 1) := by decide +kernel
theorem dS_blocks_0 : decode cS_blocks 0 = .ok (.aload_n 0, 1) := by decide +kernel
theorem dS_blocks_1 : decode cS_blocks 1 = .ok (.iload_n 1, 1) := by decide +kernel
theorem dS_blocks_2 : decode cS_blocks 2 = .ok (.invokevirtual 115, 3) := by decide +kernel
theorem dS_blocks_5 : decode cS_blocks 5 = .ok (.ifCond .eq 29, 3) := by decide +kernel
theorem dS_blocks_8 : decode cS_blocks 8 = .ok (.aload_n 0, 1) := by decide +kernel
theorem dS_blocks_9 : decode cS_blocks 9 = .ok (.iload_n 2, 1) := by decide +kernel
theorem dS_blocks_10 : decode cS_blocks 10 = .ok (.invokevirtual 47, 3) := by decide +kernel
theorem dS_blocks_13 : decode cS_blocks 13 = .ok (.ifCond .eq 21, 3) := by decide +kernel
theorem dS_blocks_16 : decode cS_blocks 16 = .ok (.aload_n 0, 1) := by decide +kernel
theorem dS_blocks_17 : decode cS_blocks 17 = .ok (.aload_n 0, 1) := by decide +kernel
theorem dS_blocks_18 : decode cS_blocks 18 = .ok (.getfield 20, 3) := by decide +kernel
theorem dS_blocks_21 : decode cS_blocks 21 = .ok (.iload_n 2, 1) := by decide +kernel
theorem dS_blocks_22 : decode cS_blocks 22 = .ok (.aaload, 1) := by decide +kernel
theorem dS_blocks_23 : decode cS_blocks 23 = .ok (.iload_n 1, 1) := by decide +kernel
theorem dS_blocks_24 : decode cS_blocks 24 = .ok (.invokevirtual 125, 3) := by decide +kernel
theorem dS_blocks_27 : decode cS_blocks 27 = .ok (.ifCond .eq 7, 3) := by decide +kernel
theorem dS_blocks_30 : decode cS_blocks 30 = .ok (.iconst 1, 1) := by decide +kernel
theorem dS_blocks_31 : decode cS_blocks 31 = .ok (.goto 4, 3) := by decide +kernel
theorem dS_blocks_34 : decode cS_blocks 34 = .ok (.iconst 0, 1) := by decide +kernel
theorem dS_blocks_35 : decode cS_blocks 35 = .ok (.ireturn, 1) := by decide +kernel
theorem dS_intertwined_0 : decode cS_intertwined 0 = .ok (.aload_n 0, 1) := by decide +kernel
theorem dS_intertwined_1 : decode cS_intertwined 1 = .ok (.iload_n 1, 1) := by decide +kernel
theorem dS_intertwined_2 : decode cS_intertwined 2 = .ok (.invokevirtual 70, 3) := by decide +kernel
theorem dS_intertwined_5 : decode cS_intertwined 5 = .ok (.ifCond .eq 11, 3) := by decide +kernel
theorem dS_intertwined_8 : decode cS_intertwined 8 = .ok (.aload_n 0, 1) := by decide +kernel
theorem dS_intertwined_9 : decode cS_intertwined 9 = .ok (.iload_n 2, 1) := by decide +kernel
theorem dS_intertwined_10 : decode cS_intertwined 10 = .ok (.invokevirtual 70, 3) := by decide +kernel
theorem dS_intertwined_13 : decode cS_intertwined 13 = .ok (.ifCond .ne 5, 3) := by decide +kernel
theorem dS_intertwined_16 : decode cS_intertwined 16 = .ok (.iconst 0, 1) := by decide +kernel
theorem dS_intertwined_17 : decode cS_intertwined 17 = .ok (.ireturn, 1) := by decide +kernel
theorem dS_intertwined_18 : decode cS_intertwined 18 = .ok (.iconst 1, 1) := by decide +kernel
theorem dS_intertwined_19 : decode cS_intertwined 19 = .ok (.istore_n 3, 1) := by decide +kernel
theorem dS_intertwined_20 : decode cS_intertwined 20 = .ok (.iload_n 3, 1) := by decide +kernel
theorem dS_intertwined_21 : decode cS_intertwined 21 = .ok (.aload_n 0, 1) := by decide +kernel
theorem dS_intertwined_22 : decode cS_intertwined 22 = .ok (.getfield 27, 3) := by decide +kernel
theorem dS_intertwined_25 : decode cS_intertwined 25 = .ok (.if_icmp .gt 55, 3) := by decide +kernel
theorem dS_intertwined_28 : decode cS_intertwined 28 = .ok (.aload_n 0, 1) := by decide +kernel
theorem dS_intertwined_29 : decode cS_intertwined 29 = .ok (.getfield 27, 3) := by decide +kernel
theorem dS_intertwined_32 : decode cS_intertwined 32 = .ok (.iload_n 3, 1) := by decide +kernel
theorem dS_intertwined_33 : decode cS_intertwined 33 = .ok (.aload_n 0, 1) := by decide +kernel
theorem dS_intertwined_34 : decode cS_intertwined 34 = .ok (.getfield 40, 3) := by decide +kernel
theorem dS_intertwined_37 : decode cS_intertwined 37 = .ok (.iand, 1) := by decide +kernel
theorem dS_intertwined_38 : decode cS_intertwined 38 = .ok (.iconst (-1), 1) := by decide +kernel
theorem dS_intertwined_39 : decode cS_intertwined 39 = .ok (.ixor, 1) := by decide +kernel
theorem dS_intertwined_40 : decode cS_intertwined 40 = .ok (.iand, 1) := by decide +kernel
theorem dS_intertwined_41 : decode cS_intertwined 41 = .ok (.istore 4, 2) := by decide +kernel
theorem dS_intertwined_43 : decode cS_intertwined 43 = .ok (.iload_n 3, 1) := by decide +kernel
theorem dS_intertwined_44 : decode cS_intertwined 44 = .ok (.iload_n 1, 1) := by decide +kernel
theorem dS_intertwined_45 : decode cS_intertwined 45 = .ok (.invokestatic 66, 3) := by decide +kernel
theorem dS_intertwined_48 : decode cS_intertwined 48 = .ok (.ifCond .eq 26, 3) := by decide +kernel
theorem dS_intertwined_51 : decode cS_intertwined 51 = .ok (.aload_n 0, 1) := by decide +kernel
theorem dS_intertwined_52 : decode cS_intertwined 52 = .ok (.iload_n 3, 1) := by decide +kernel
theorem dS_intertwined_53 : decode cS_intertwined 53 = .ok (.invokevirtual 118, 3) := by decide +kernel
theorem dS_intertwined_56 : decode cS_intertwined 56 = .ok (.ifCond .eq 18, 3) := by decide +kernel
theorem dS_intertwined_59 : decode cS_intertwined 59 = .ok (.aload_n 0, 1) := by decide +kernel
theorem dS_intertwined_60 : decode cS_intertwined 60 = .ok (.iload 4, 2) := by decide +kernel
theorem dS_intertwined_62 : decode cS_intertwined 62 = .ok (.invokevirtual 121, 3) := by decide +kernel
theorem dS_intertwined_65 : decode cS_intertwined 65 = .ok (.iload_n 2, 1) := by decide +kernel
theorem dS_intertwined_66 : decode cS_intertwined 66 = .ok (.invokestatic 66, 3) := by decide +kernel
theorem dS_intertwined_69 : decode cS_intertwined 69 = .ok (.ifCond .eq 5, 3) := by decide +kernel
theorem dS_intertwined_72 : decode cS_intertwined 72 = .ok (.iconst 0, 1) := by decide +kernel
theorem dS_intertwined_73 : decode cS_intertwined 73 = .ok (.ireturn, 1) := by decide +kernel
theorem dS_intertwined_74 : decode cS_intertwined 74 = .ok (.iinc 3 1, 3) := by decide +kernel
theorem dS_intertwined_77 : decode cS_intertwined 77 = .ok (.goto (-57), 3) := by decide +kernel
theorem dS_intertwined_80 : decode cS_intertwined 80 = .ok (.iconst 1, 1) := by decide +kernel
theorem dS_intertwined_81 : decode cS_intertwined 81 = .ok (.ireturn, 1) := by decide +kernel
theorem dS_isNode_0 : decode cS_isNode 0 = .ok (.iload_n 1, 1) := by decide +kernel
theorem dS_isNode_1 : decode cS_isNode 1 = .ok (.ifCond .lt 16, 3) := by decide +kernel
theorem dS_isNode_4 : decode cS_isNode 4 = .ok (.iload_n 1, 1) := by decide +kernel
theorem dS_isNode_5 : decode cS_isNode 5 = .ok (.aload_n 0, 1) := by decide +kernel
theorem dS_isNode_6 : decode cS_isNode 6 = .ok (.getfield 20, 3) := by decide +kernel
theorem dS_isNode_9 : decode cS_isNode 9 = .ok (.arraylength, 1) := by decide +kernel
theorem dS_isNode_10 : decode cS_isNode 10 = .ok (.if_icmp .ge 7, 3) := by decide +kernel
theorem dS_isNode_13 : decode cS_isNode 13 = .ok (.iconst 1, 1) := by decide +kernel
theorem dS_isNode_14 : decode cS_isNode 14 = .ok (.goto 4, 3) := by decide +kernel
theorem dS_isNode_17 : decode cS_isNode 17 = .ok (.iconst 0, 1) := by decide +kernel
theorem dS_isNode_18 : decode cS_isNode 18 = .ok (.ireturn, 1) := by decide +kernel
theorem dS_isWellBehaved_0 : decode cS_isWellBehaved 0 = .ok (.aload_n 0, 1) := by decide +kernel
theorem dS_isWellBehaved_1 : decode cS_isWellBehaved 1 = .ok (.iload_n 1, 1) := by decide +kernel
theorem dS_isWellBehaved_2 : decode cS_isWellBehaved 2 = .ok (.invokevirtual 47, 3) := by decide +kernel
theorem dS_isWellBehaved_5 : decode cS_isWellBehaved 5 = .ok (.ifCond .eq 18, 3) := by decide +kernel
theorem dS_isWellBehaved_8 : decode cS_isWellBehaved 8 = .ok (.aload_n 0, 1) := by decide +kernel
theorem dS_isWellBehaved_9 : decode cS_isWellBehaved 9 = .ok (.getfield 40, 3) := by decide +kernel
theorem dS_isWellBehaved_12 : decode cS_isWellBehaved 12 = .ok (.iload_n 1, 1) := by decide +kernel
theorem dS_isWellBehaved_13 : decode cS_isWellBehaved 13 = .ok (.invokestatic 66, 3) := by decide +kernel
theorem dS_isWellBehaved_16 : decode cS_isWellBehaved 16 = .ok (.ifCond .eq 7, 3) := by decide +kernel
theorem dS_isWellBehaved_19 : decode cS_isWellBehaved 19 = .ok (.iconst 1, 1) := by decide +kernel
theorem dS_isWellBehaved_20 : decode cS_isWellBehaved 20 = .ok (.goto 4, 3) := by decide +kernel
theorem dS_isWellBehaved_23 : decode cS_isWellBehaved 23 = .ok (.iconst 0, 1) := by decide +kernel
theorem dS_isWellBehaved_24 : decode cS_isWellBehaved 24 = .ok (.ireturn, 1) := by decide +kernel
theorem dS_isSetOfNodes_0 : decode cS_isSetOfNodes 0 = .ok (.iload_n 1, 1) := by decide +kernel
theorem dS_isSetOfNodes_1 : decode cS_isSetOfNodes 1 = .ok (.aload_n 0, 1) := by decide +kernel
theorem dS_isSetOfNodes_2 : decode cS_isSetOfNodes 2 = .ok (.getfield 27, 3) := by decide +kernel
theorem dS_isSetOfNodes_5 : decode cS_isSetOfNodes 5 = .ok (.iconst (-1), 1) := by decide +kernel
theorem dS_isSetOfNodes_6 : decode cS_isSetOfNodes 6 = .ok (.ixor, 1) := by decide +kernel
theorem dS_isSetOfNodes_7 : decode cS_isSetOfNodes 7 = .ok (.iand, 1) := by decide +kernel
theorem dS_isSetOfNodes_8 : decode cS_isSetOfNodes 8 = .ok (.ifCond .ne 7, 3) := by decide +kernel
theorem dS_isSetOfNodes_11 : decode cS_isSetOfNodes 11 = .ok (.iconst 1, 1) := by decide +kernel
theorem dS_isSetOfNodes_12 : decode cS_isSetOfNodes 12 = .ok (.goto 4, 3) := by decide +kernel
theorem dS_isSetOfNodes_15 : decode cS_isSetOfNodes 15 = .ok (.iconst 0, 1) := by decide +kernel
theorem dS_isSetOfNodes_16 : decode cS_isSetOfNodes 16 = .ok (.ireturn, 1) := by decide +kernel
theorem dS_isQuota_0 : decode cS_isQuota 0 = .ok (.iload_n 1, 1) := by decide +kernel
theorem dS_isQuota_1 : decode cS_isQuota 1 = .ok (.ifCond .lt 15, 3) := by decide +kernel
theorem dS_isQuota_4 : decode cS_isQuota 4 = .ok (.iload_n 1, 1) := by decide +kernel
theorem dS_isQuota_5 : decode cS_isQuota 5 = .ok (.aload_n 0, 1) := by decide +kernel
theorem dS_isQuota_6 : decode cS_isQuota 6 = .ok (.getfield 37, 3) := by decide +kernel
theorem dS_isQuota_9 : decode cS_isQuota 9 = .ok (.if_icmp .ge 7, 3) := by decide +kernel
theorem dS_isQuota_12 : decode cS_isQuota 12 = .ok (.iconst 1, 1) := by decide +kernel
theorem dS_isQuota_13 : decode cS_isQuota 13 = .ok (.goto 4, 3) := by decide +kernel
theorem dS_isQuota_16 : decode cS_isQuota 16 = .ok (.iconst 0, 1) := by decide +kernel
theorem dS_isQuota_17 : decode cS_isQuota 17 = .ok (.ireturn, 1) := by decide +kernel
theorem dS_addTopQuota_0 : decode cS_addTopQuota 0 = .ok (.aload_n 1, 1) := by decide +kernel
theorem dS_addTopQuota_1 : decode cS_addTopQuota 1 = .ok (.getfield 128, 3) := by decide +kernel
theorem dS_addTopQuota_4 : decode cS_addTopQuota 4 = .ok (.ifnull 5, 3) := by decide +kernel
theorem dS_addTopQuota_7 : decode cS_addTopQuota 7 = .ok (.iconst (-1), 1) := by decide +kernel
theorem dS_addTopQuota_8 : decode cS_addTopQuota 8 = .ok (.ireturn, 1) := by decide +kernel
theorem dS_addTopQuota_9 : decode cS_addTopQuota 9 = .ok (.aload_n 1, 1) := by decide +kernel
theorem dS_addTopQuota_10 : decode cS_addTopQuota 10 = .ok (.new 31, 3) := by decide +kernel
theorem dS_addTopQuota_13 : decode cS_addTopQuota 13 = .ok (.dup, 1) := by decide +kernel
theorem dS_addTopQuota_14 : decode cS_addTopQuota 14 = .ok (.aload_n 1, 1) := by decide +kernel
theorem dS_addTopQuota_15 : decode cS_addTopQuota 15 = .ok (.iconst 1, 1) := by decide +kernel
theorem dS_addTopQuota_16 : decode cS_addTopQuota 16 = .ok (.iload_n 2, 1) := by decide +kernel
theorem dS_addTopQuota_17 : decode cS_addTopQuota 17 = .ok (.invokespecial 132, 3) := by decide +kernel
theorem dS_addTopQuota_20 : decode cS_addTopQuota 20 = .ok (.putfield 128, 3) := by decide +kernel
theorem dS_addTopQuota_23 : decode cS_addTopQuota 23 = .ok (.aload_n 0, 1) := by decide +kernel
theorem dS_addTopQuota_24 : decode cS_addTopQuota 24 = .ok (.aload_n 1, 1) := by decide +kernel
theorem dS_addTopQuota_25 : decode cS_addTopQuota 25 = .ok (.getfield 128, 3) := by decide +kernel
theorem dS_addTopQuota_28 : decode cS_addTopQuota 28 = .ok (.invokevirtual 135, 3) := by decide +kernel
theorem dS_addTopQuota_31 : decode cS_addTopQuota 31 = .ok (.ireturn, 1) := by decide +kernel
theorem dS_addInnerQuota_0 : decode cS_addInnerQuota 0 = .ok (.aload_n 0, 1) := by decide +kernel
theorem dS_addInnerQuota_1 : decode cS_addInnerQuota 1 = .ok (.iload_n 2, 1) := by decide +kernel
theorem dS_addInnerQuota_2 : decode cS_addInnerQuota 2 = .ok (.invokevirtual 60, 3) := by decide +kernel
theorem dS_addInnerQuota_5 : decode cS_addInnerQuota 5 = .ok (.ifCond .ne 5, 3) := by decide +kernel
theorem dS_addInnerQuota_8 : decode cS_addInnerQuota 8 = .ok (.iconst (-1), 1) := by decide +kernel
theorem dS_addInnerQuota_9 : decode cS_addInnerQuota 9 = .ok (.ireturn, 1) := by decide +kernel
theorem dS_addInnerQuota_10 : decode cS_addInnerQuota 10 = .ok (.aload_n 0, 1) := by decide +kernel
theorem dS_addInnerQuota_11 : decode cS_addInnerQuota 11 = .ok (.getfield 33, 3) := by decide +kernel
theorem dS_addInnerQuota_14 : decode cS_addInnerQuota 14 = .ok (.iload_n 2, 1) := by decide +kernel
theorem dS_addInnerQuota_15 : decode cS_addInnerQuota 15 = .ok (.aaload, 1) := by decide +kernel
theorem dS_addInnerQuota_16 : decode cS_addInnerQuota 16 = .ok (.astore 4, 2) := by decide +kernel
theorem dS_addInnerQuota_18 : decode cS_addInnerQuota 18 = .ok (.aload 4, 2) := by decide +kernel
theorem dS_addInnerQuota_20 : decode cS_addInnerQuota 20 = .ok (.getfield 139, 3) := by decide +kernel
theorem dS_addInnerQuota_23 : decode cS_addInnerQuota 23 = .ok (.aload_n 1, 1) := by decide +kernel
theorem dS_addInnerQuota_24 : decode cS_addInnerQuota 24 = .ok (.if_acmp .ne 12, 3) := by decide +kernel
theorem dS_addInnerQuota_27 : decode cS_addInnerQuota 27 = .ok (.aload 4, 2) := by decide +kernel
theorem dS_addInnerQuota_29 : decode cS_addInnerQuota 29 = .ok (.getfield 143, 3) := by decide +kernel
theorem dS_addInnerQuota_32 : decode cS_addInnerQuota 32 = .ok (.iconst 3, 1) := by decide +kernel
theorem dS_addInnerQuota_33 : decode cS_addInnerQuota 33 = .ok (.if_icmp .lt 5, 3) := by decide +kernel
theorem dS_addInnerQuota_36 : decode cS_addInnerQuota 36 = .ok (.iconst (-1), 1) := by decide +kernel
theorem dS_addInnerQuota_37 : decode cS_addInnerQuota 37 = .ok (.ireturn, 1) := by decide +kernel
theorem dS_addInnerQuota_38 : decode cS_addInnerQuota 38 = .ok (.new 31, 3) := by decide +kernel
theorem dS_addInnerQuota_41 : decode cS_addInnerQuota 41 = .ok (.dup, 1) := by decide +kernel
theorem dS_addInnerQuota_42 : decode cS_addInnerQuota 42 = .ok (.aload_n 1, 1) := by decide +kernel
theorem dS_addInnerQuota_43 : decode cS_addInnerQuota 43 = .ok (.aload 4, 2) := by decide +kernel
theorem dS_addInnerQuota_45 : decode cS_addInnerQuota 45 = .ok (.getfield 143, 3) := by decide +kernel
theorem dS_addInnerQuota_48 : decode cS_addInnerQuota 48 = .ok (.iconst 1, 1) := by decide +kernel
theorem dS_addInnerQuota_49 : decode cS_addInnerQuota 49 = .ok (.iadd, 1) := by decide +kernel
theorem dS_addInnerQuota_50 : decode cS_addInnerQuota 50 = .ok (.iload_n 3, 1) := by decide +kernel
theorem dS_addInnerQuota_51 : decode cS_addInnerQuota 51 = .ok (.invokespecial 132, 3) := by decide +kernel
theorem dS_addInnerQuota_54 : decode cS_addInnerQuota 54 = .ok (.astore 5, 2) := by decide +kernel
theorem dS_addInnerQuota_56 : decode cS_addInnerQuota 56 = .ok (.aload 5, 2) := by decide +kernel
theorem dS_addInnerQuota_58 : decode cS_addInnerQuota 58 = .ok (.aload 4, 2) := by decide +kernel
theorem dS_addInnerQuota_60 : decode cS_addInnerQuota 60 = .ok (.getfield 146, 3) := by decide +kernel
theorem dS_addInnerQuota_63 : decode cS_addInnerQuota 63 = .ok (.putfield 149, 3) := by decide +kernel
theorem dS_addInnerQuota_66 : decode cS_addInnerQuota 66 = .ok (.aload 4, 2) := by decide +kernel
theorem dS_addInnerQuota_68 : decode cS_addInnerQuota 68 = .ok (.aload 5, 2) := by decide +kernel
theorem dS_addInnerQuota_70 : decode cS_addInnerQuota 70 = .ok (.putfield 146, 3) := by decide +kernel
theorem dS_addInnerQuota_73 : decode cS_addInnerQuota 73 = .ok (.aload_n 0, 1) := by decide +kernel
theorem dS_addInnerQuota_74 : decode cS_addInnerQuota 74 = .ok (.aload 5, 2) := by decide +kernel
theorem dS_addInnerQuota_76 : decode cS_addInnerQuota 76 = .ok (.invokevirtual 135, 3) := by decide +kernel
theorem dS_addInnerQuota_79 : decode cS_addInnerQuota 79 = .ok (.ireturn, 1) := by decide +kernel
theorem dS_number_0 : decode cS_number 0 = .ok (.aload_n 1, 1) := by decide +kernel
theorem dS_number_1 : decode cS_number 1 = .ok (.getfield 139, 3) := by decide +kernel
theorem dS_number_4 : decode cS_number 4 = .ok (.dup, 1) := by decide +kernel
theorem dS_number_5 : decode cS_number 5 = .ok (.getfield 51, 3) := by decide +kernel
theorem dS_number_8 : decode cS_number 8 = .ok (.iconst 1, 1) := by decide +kernel
theorem dS_number_9 : decode cS_number 9 = .ok (.iadd, 1) := by decide +kernel
theorem dS_number_10 : decode cS_number 10 = .ok (.putfield 51, 3) := by decide +kernel
theorem dS_number_13 : decode cS_number 13 = .ok (.aload_n 0, 1) := by decide +kernel
theorem dS_number_14 : decode cS_number 14 = .ok (.getfield 33, 3) := by decide +kernel
theorem dS_number_17 : decode cS_number 17 = .ok (.aload_n 0, 1) := by decide +kernel
theorem dS_number_18 : decode cS_number 18 = .ok (.getfield 37, 3) := by decide +kernel
theorem dS_number_21 : decode cS_number 21 = .ok (.aload_n 1, 1) := by decide +kernel
theorem dS_number_22 : decode cS_number 22 = .ok (.aastore, 1) := by decide +kernel
theorem dS_number_23 : decode cS_number 23 = .ok (.aload_n 0, 1) := by decide +kernel
theorem dS_number_24 : decode cS_number 24 = .ok (.dup, 1) := by decide +kernel
theorem dS_number_25 : decode cS_number 25 = .ok (.getfield 37, 3) := by decide +kernel
theorem dS_number_28 : decode cS_number 28 = .ok (.iconst 1, 1) := by decide +kernel
theorem dS_number_29 : decode cS_number 29 = .ok (.iadd, 1) := by decide +kernel
theorem dS_number_30 : decode cS_number 30 = .ok (.putfield 37, 3) := by decide +kernel
theorem dS_number_33 : decode cS_number 33 = .ok (.aload_n 0, 1) := by decide +kernel
theorem dS_number_34 : decode cS_number 34 = .ok (.getfield 37, 3) := by decide +kernel
theorem dS_number_37 : decode cS_number 37 = .ok (.iconst 1, 1) := by decide +kernel
theorem dS_number_38 : decode cS_number 38 = .ok (.isub, 1) := by decide +kernel
theorem dS_number_39 : decode cS_number 39 = .ok (.ireturn, 1) := by decide +kernel
theorem dS_isMet_0 : decode cS_isMet 0 = .ok (.aload_n 0, 1) := by decide +kernel
theorem dS_isMet_1 : decode cS_isMet 1 = .ok (.ifnull 8, 3) := by decide +kernel
theorem dS_isMet_4 : decode cS_isMet 4 = .ok (.iload_n 2, 1) := by decide +kernel
theorem dS_isMet_5 : decode cS_isMet 5 = .ok (.iconst 3, 1) := by decide +kernel
theorem dS_isMet_6 : decode cS_isMet 6 = .ok (.if_icmp .le 5, 3) := by decide +kernel
theorem dS_isMet_9 : decode cS_isMet 9 = .ok (.iconst 0, 1) := by decide +kernel
theorem dS_isMet_10 : decode cS_isMet 10 = .ok (.ireturn, 1) := by decide +kernel
theorem dS_isMet_11 : decode cS_isMet 11 = .ok (.aload_n 0, 1) := by decide +kernel
theorem dS_isMet_12 : decode cS_isMet 12 = .ok (.getfield 63, 3) := by decide +kernel
theorem dS_isMet_15 : decode cS_isMet 15 = .ok (.iload_n 1, 1) := by decide +kernel
theorem dS_isMet_16 : decode cS_isMet 16 = .ok (.iand, 1) := by decide +kernel
theorem dS_isMet_17 : decode cS_isMet 17 = .ok (.invokestatic 152, 3) := by decide +kernel
theorem dS_isMet_20 : decode cS_isMet 20 = .ok (.istore_n 3, 1) := by decide +kernel
theorem dS_isMet_21 : decode cS_isMet 21 = .ok (.aload_n 0, 1) := by decide +kernel
theorem dS_isMet_22 : decode cS_isMet 22 = .ok (.getfield 146, 3) := by decide +kernel
theorem dS_isMet_25 : decode cS_isMet 25 = .ok (.astore 4, 2) := by decide +kernel
theorem dS_isMet_27 : decode cS_isMet 27 = .ok (.aload 4, 2) := by decide +kernel
theorem dS_isMet_29 : decode cS_isMet 29 = .ok (.ifnull 28, 3) := by decide +kernel
theorem dS_isMet_32 : decode cS_isMet 32 = .ok (.aload 4, 2) := by decide +kernel
theorem dS_isMet_34 : decode cS_isMet 34 = .ok (.iload_n 1, 1) := by decide +kernel
theorem dS_isMet_35 : decode cS_isMet 35 = .ok (.iload_n 2, 1) := by decide +kernel
theorem dS_isMet_36 : decode cS_isMet 36 = .ok (.iconst 1, 1) := by decide +kernel
theorem dS_isMet_37 : decode cS_isMet 37 = .ok (.iadd, 1) := by decide +kernel
theorem dS_isMet_38 : decode cS_isMet 38 = .ok (.invokestatic 157, 3) := by decide +kernel
theorem dS_isMet_41 : decode cS_isMet 41 = .ok (.ifCond .eq 6, 3) := by decide +kernel
theorem dS_isMet_44 : decode cS_isMet 44 = .ok (.iinc 3 1, 3) := by decide +kernel
theorem dS_isMet_47 : decode cS_isMet 47 = .ok (.aload 4, 2) := by decide +kernel
theorem dS_isMet_49 : decode cS_isMet 49 = .ok (.getfield 149, 3) := by decide +kernel
theorem dS_isMet_52 : decode cS_isMet 52 = .ok (.astore 4, 2) := by decide +kernel
theorem dS_isMet_54 : decode cS_isMet 54 = .ok (.goto (-27), 3) := by decide +kernel
theorem dS_isMet_57 : decode cS_isMet 57 = .ok (.iload_n 3, 1) := by decide +kernel
theorem dS_isMet_58 : decode cS_isMet 58 = .ok (.aload_n 0, 1) := by decide +kernel
theorem dS_isMet_59 : decode cS_isMet 59 = .ok (.getfield 161, 3) := by decide +kernel
theorem dS_isMet_62 : decode cS_isMet 62 = .ok (.if_icmp .lt 7, 3) := by decide +kernel
theorem dS_isMet_65 : decode cS_isMet 65 = .ok (.iconst 1, 1) := by decide +kernel
theorem dS_isMet_66 : decode cS_isMet 66 = .ok (.goto 4, 3) := by decide +kernel
theorem dS_isMet_69 : decode cS_isMet 69 = .ok (.iconst 0, 1) := by decide +kernel
theorem dS_isMet_70 : decode cS_isMet 70 = .ok (.ireturn, 1) := by decide +kernel
theorem dS_isBlockedBy_0 : decode cS_isBlockedBy 0 = .ok (.aload_n 1, 1) := by decide +kernel
theorem dS_isBlockedBy_1 : decode cS_isBlockedBy 1 = .ok (.getfield 128, 3) := by decide +kernel
theorem dS_isBlockedBy_4 : decode cS_isBlockedBy 4 = .ok (.ifnull 26, 3) := by decide +kernel
theorem dS_isBlockedBy_7 : decode cS_isBlockedBy 7 = .ok (.aload_n 1, 1) := by decide +kernel
theorem dS_isBlockedBy_8 : decode cS_isBlockedBy 8 = .ok (.getfield 128, 3) := by decide +kernel
theorem dS_isBlockedBy_11 : decode cS_isBlockedBy 11 = .ok (.aload_n 0, 1) := by decide +kernel
theorem dS_isBlockedBy_12 : decode cS_isBlockedBy 12 = .ok (.getfield 27, 3) := by decide +kernel
theorem dS_isBlockedBy_15 : decode cS_isBlockedBy 15 = .ok (.iload_n 2, 1) := by decide +kernel
theorem dS_isBlockedBy_16 : decode cS_isBlockedBy 16 = .ok (.iconst (-1), 1) := by decide +kernel
theorem dS_isBlockedBy_17 : decode cS_isBlockedBy 17 = .ok (.ixor, 1) := by decide +kernel
theorem dS_isBlockedBy_18 : decode cS_isBlockedBy 18 = .ok (.iand, 1) := by decide +kernel
theorem dS_isBlockedBy_19 : decode cS_isBlockedBy 19 = .ok (.iconst 1, 1) := by decide +kernel
theorem dS_isBlockedBy_20 : decode cS_isBlockedBy 20 = .ok (.invokestatic 157, 3) := by decide +kernel
theorem dS_isBlockedBy_23 : decode cS_isBlockedBy 23 = .ok (.ifCond .ne 7, 3) := by decide +kernel
theorem dS_isBlockedBy_26 : decode cS_isBlockedBy 26 = .ok (.iconst 1, 1) := by decide +kernel
theorem dS_isBlockedBy_27 : decode cS_isBlockedBy 27 = .ok (.goto 4, 3) := by decide +kernel
theorem dS_isBlockedBy_30 : decode cS_isBlockedBy 30 = .ok (.iconst 0, 1) := by decide +kernel
theorem dS_isBlockedBy_31 : decode cS_isBlockedBy 31 = .ok (.ireturn, 1) := by decide +kernel
theorem dS_isQuorum_0 : decode cS_isQuorum 0 = .ok (.iload_n 1, 1) := by decide +kernel
theorem dS_isQuorum_1 : decode cS_isQuorum 1 = .ok (.ifCond .eq 16, 3) := by decide +kernel
theorem dS_isQuorum_4 : decode cS_isQuorum 4 = .ok (.aload_n 0, 1) := by decide +kernel
theorem dS_isQuorum_5 : decode cS_isQuorum 5 = .ok (.iload_n 1, 1) := by decide +kernel
theorem dS_isQuorum_6 : decode cS_isQuorum 6 = .ok (.invokevirtual 121, 3) := by decide +kernel
theorem dS_isQuorum_9 : decode cS_isQuorum 9 = .ok (.iload_n 1, 1) := by decide +kernel
theorem dS_isQuorum_10 : decode cS_isQuorum 10 = .ok (.if_icmp .ne 7, 3) := by decide +kernel
theorem dS_isQuorum_13 : decode cS_isQuorum 13 = .ok (.iconst 1, 1) := by decide +kernel
theorem dS_isQuorum_14 : decode cS_isQuorum 14 = .ok (.goto 4, 3) := by decide +kernel
theorem dS_isQuorum_17 : decode cS_isQuorum 17 = .ok (.iconst 0, 1) := by decide +kernel
theorem dS_isQuorum_18 : decode cS_isQuorum 18 = .ok (.ireturn, 1) := by decide +kernel
theorem dS_unionOfQuorumsIn_0 : decode cS_unionOfQuorumsIn 0 = .ok (.iload_n 1, 1) := by decide +kernel
theorem dS_unionOfQuorumsIn_1 : decode cS_unionOfQuorumsIn 1 = .ok (.istore_n 2, 1) := by decide +kernel
theorem dS_unionOfQuorumsIn_2 : decode cS_unionOfQuorumsIn 2 = .ok (.iconst 0, 1) := by decide +kernel
theorem dS_unionOfQuorumsIn_3 : decode cS_unionOfQuorumsIn 3 = .ok (.istore_n 3, 1) := by decide +kernel
theorem dS_unionOfQuorumsIn_4 : decode cS_unionOfQuorumsIn 4 = .ok (.iload_n 3, 1) := by decide +kernel
theorem dS_unionOfQuorumsIn_5 : decode cS_unionOfQuorumsIn 5 = .ok (.aload_n 0, 1) := by decide +kernel
theorem dS_unionOfQuorumsIn_6 : decode cS_unionOfQuorumsIn 6 = .ok (.getfield 20, 3) := by decide +kernel
theorem dS_unionOfQuorumsIn_9 : decode cS_unionOfQuorumsIn 9 = .ok (.arraylength, 1) := by decide +kernel
theorem dS_unionOfQuorumsIn_10 : decode cS_unionOfQuorumsIn 10 = .ok (.if_icmp .ge 76, 3) := by decide +kernel
theorem dS_unionOfQuorumsIn_13 : decode cS_unionOfQuorumsIn 13 = .ok (.iload_n 2, 1) := by decide +kernel
theorem dS_unionOfQuorumsIn_14 : decode cS_unionOfQuorumsIn 14 = .ok (.istore 4, 2) := by decide +kernel
theorem dS_unionOfQuorumsIn_16 : decode cS_unionOfQuorumsIn 16 = .ok (.iconst 0, 1) := by decide +kernel
theorem dS_unionOfQuorumsIn_17 : decode cS_unionOfQuorumsIn 17 = .ok (.istore 5, 2) := by decide +kernel
theorem dS_unionOfQuorumsIn_19 : decode cS_unionOfQuorumsIn 19 = .ok (.iload 5, 2) := by decide +kernel
theorem dS_unionOfQuorumsIn_21 : decode cS_unionOfQuorumsIn 21 = .ok (.aload_n 0, 1) := by decide +kernel
theorem dS_unionOfQuorumsIn_22 : decode cS_unionOfQuorumsIn 22 = .ok (.getfield 20, 3) := by decide +kernel
theorem dS_unionOfQuorumsIn_25 : decode cS_unionOfQuorumsIn 25 = .ok (.arraylength, 1) := by decide +kernel
theorem dS_unionOfQuorumsIn_26 : decode cS_unionOfQuorumsIn 26 = .ok (.if_icmp .ge 45, 3) := by decide +kernel
theorem dS_unionOfQuorumsIn_29 : decode cS_unionOfQuorumsIn 29 = .ok (.iload_n 2, 1) := by decide +kernel
theorem dS_unionOfQuorumsIn_30 : decode cS_unionOfQuorumsIn 30 = .ok (.iload 5, 2) := by decide +kernel
theorem dS_unionOfQuorumsIn_32 : decode cS_unionOfQuorumsIn 32 = .ok (.invokestatic 66, 3) := by decide +kernel
theorem dS_unionOfQuorumsIn_35 : decode cS_unionOfQuorumsIn 35 = .ok (.ifCond .eq 30, 3) := by decide +kernel
theorem dS_unionOfQuorumsIn_38 : decode cS_unionOfQuorumsIn 38 = .ok (.aload_n 0, 1) := by decide +kernel
theorem dS_unionOfQuorumsIn_39 : decode cS_unionOfQuorumsIn 39 = .ok (.getfield 20, 3) := by decide +kernel
theorem dS_unionOfQuorumsIn_42 : decode cS_unionOfQuorumsIn 42 = .ok (.iload 5, 2) := by decide +kernel
theorem dS_unionOfQuorumsIn_44 : decode cS_unionOfQuorumsIn 44 = .ok (.aaload, 1) := by decide +kernel
theorem dS_unionOfQuorumsIn_45 : decode cS_unionOfQuorumsIn 45 = .ok (.getfield 128, 3) := by decide +kernel
theorem dS_unionOfQuorumsIn_48 : decode cS_unionOfQuorumsIn 48 = .ok (.iload_n 2, 1) := by decide +kernel
theorem dS_unionOfQuorumsIn_49 : decode cS_unionOfQuorumsIn 49 = .ok (.iconst 1, 1) := by decide +kernel
theorem dS_unionOfQuorumsIn_50 : decode cS_unionOfQuorumsIn 50 = .ok (.invokestatic 157, 3) := by decide +kernel
theorem dS_unionOfQuorumsIn_53 : decode cS_unionOfQuorumsIn 53 = .ok (.ifCond .ne 12, 3) := by decide +kernel
theorem dS_unionOfQuorumsIn_56 : decode cS_unionOfQuorumsIn 56 = .ok (.iload_n 2, 1) := by decide +kernel
theorem dS_unionOfQuorumsIn_57 : decode cS_unionOfQuorumsIn 57 = .ok (.iconst 1, 1) := by decide +kernel
theorem dS_unionOfQuorumsIn_58 : decode cS_unionOfQuorumsIn 58 = .ok (.iload 5, 2) := by decide +kernel
theorem dS_unionOfQuorumsIn_60 : decode cS_unionOfQuorumsIn 60 = .ok (.ishl, 1) := by decide +kernel
theorem dS_unionOfQuorumsIn_61 : decode cS_unionOfQuorumsIn 61 = .ok (.iconst (-1), 1) := by decide +kernel
theorem dS_unionOfQuorumsIn_62 : decode cS_unionOfQuorumsIn 62 = .ok (.ixor, 1) := by decide +kernel
theorem dS_unionOfQuorumsIn_63 : decode cS_unionOfQuorumsIn 63 = .ok (.iand, 1) := by decide +kernel
theorem dS_unionOfQuorumsIn_64 : decode cS_unionOfQuorumsIn 64 = .ok (.istore_n 2, 1) := by decide +kernel
theorem dS_unionOfQuorumsIn_65 : decode cS_unionOfQuorumsIn 65 = .ok (.iinc 5 1, 3) := by decide +kernel
theorem dS_unionOfQuorumsIn_68 : decode cS_unionOfQuorumsIn 68 = .ok (.goto (-49), 3) := by decide +kernel
theorem dS_unionOfQuorumsIn_71 : decode cS_unionOfQuorumsIn 71 = .ok (.iload_n 2, 1) := by decide +kernel
theorem dS_unionOfQuorumsIn_72 : decode cS_unionOfQuorumsIn 72 = .ok (.iload 4, 2) := by decide +kernel
theorem dS_unionOfQuorumsIn_74 : decode cS_unionOfQuorumsIn 74 = .ok (.if_icmp .ne 6, 3) := by decide +kernel
theorem dS_unionOfQuorumsIn_77 : decode cS_unionOfQuorumsIn 77 = .ok (.goto 9, 3) := by decide +kernel
theorem dS_unionOfQuorumsIn_80 : decode cS_unionOfQuorumsIn 80 = .ok (.iinc 3 1, 3) := by decide +kernel
theorem dS_unionOfQuorumsIn_83 : decode cS_unionOfQuorumsIn 83 = .ok (.goto (-79), 3) := by decide +kernel
theorem dS_unionOfQuorumsIn_86 : decode cS_unionOfQuorumsIn 86 = .ok (.iload_n 2, 1) := by decide +kernel
theorem dS_unionOfQuorumsIn_87 : decode cS_unionOfQuorumsIn 87 = .ok (.ireturn, 1) := by decide +kernel
theorem dS_has_0 : decode cS_has 0 = .ok (.iload_n 0, 1) := by decide +kernel
theorem dS_has_1 : decode cS_has 1 = .ok (.iload_n 1, 1) := by decide +kernel
theorem dS_has_2 : decode cS_has 2 = .ok (.iushr, 1) := by decide +kernel
theorem dS_has_3 : decode cS_has 3 = .ok (.iconst 1, 1) := by decide +kernel
theorem dS_has_4 : decode cS_has 4 = .ok (.iand, 1) := by decide +kernel
theorem dS_has_5 : decode cS_has 5 = .ok (.ifCond .eq 7, 3) := by decide +kernel
theorem dS_has_8 : decode cS_has 8 = .ok (.iconst 1, 1) := by decide +kernel
theorem dS_has_9 : decode cS_has 9 = .ok (.goto 4, 3) := by decide +kernel
theorem dS_has_12 : decode cS_has 12 = .ok (.iconst 0, 1) := by decide +kernel
theorem dS_has_13 : decode cS_has 13 = .ok (.ireturn, 1) := by decide +kernel
theorem dS_ballot_0 : decode cS_ballot 0 = .ok (.iconst 3, 1) := by decide +kernel
theorem dS_ballot_1 : decode cS_ballot 1 = .ok (.iload_n 0, 1) := by decide +kernel
theorem dS_ballot_2 : decode cS_ballot 2 = .ok (.iconst 1, 1) := by decide +kernel
theorem dS_ballot_3 : decode cS_ballot 3 = .ok (.isub, 1) := by decide +kernel
theorem dS_ballot_4 : decode cS_ballot 4 = .ok (.imul, 1) := by decide +kernel
theorem dS_ballot_5 : decode cS_ballot 5 = .ok (.iload_n 1, 1) := by decide +kernel
theorem dS_ballot_6 : decode cS_ballot 6 = .ok (.iadd, 1) := by decide +kernel
theorem dS_ballot_7 : decode cS_ballot 7 = .ok (.ireturn, 1) := by decide +kernel
theorem dS_commitOf_0 : decode cS_commitOf 0 = .ok (.bipush 12, 2) := by decide +kernel
theorem dS_commitOf_2 : decode cS_commitOf 2 = .ok (.iload_n 0, 1) := by decide +kernel
theorem dS_commitOf_3 : decode cS_commitOf 3 = .ok (.iadd, 1) := by decide +kernel
theorem dS_commitOf_4 : decode cS_commitOf 4 = .ok (.ireturn, 1) := by decide +kernel
theorem dS_isCommit_0 : decode cS_isCommit 0 = .ok (.iload_n 0, 1) := by decide +kernel
theorem dS_isCommit_1 : decode cS_isCommit 1 = .ok (.bipush 12, 2) := by decide +kernel
theorem dS_isCommit_3 : decode cS_isCommit 3 = .ok (.if_icmp .lt 7, 3) := by decide +kernel
theorem dS_isCommit_6 : decode cS_isCommit 6 = .ok (.iconst 1, 1) := by decide +kernel
theorem dS_isCommit_7 : decode cS_isCommit 7 = .ok (.goto 4, 3) := by decide +kernel
theorem dS_isCommit_10 : decode cS_isCommit 10 = .ok (.iconst 0, 1) := by decide +kernel
theorem dS_isCommit_11 : decode cS_isCommit 11 = .ok (.ireturn, 1) := by decide +kernel
theorem dS_ballotOf_0 : decode cS_ballotOf 0 = .ok (.iload_n 0, 1) := by decide +kernel
theorem dS_ballotOf_1 : decode cS_ballotOf 1 = .ok (.bipush 12, 2) := by decide +kernel
theorem dS_ballotOf_3 : decode cS_ballotOf 3 = .ok (.irem, 1) := by decide +kernel
theorem dS_ballotOf_4 : decode cS_ballotOf 4 = .ok (.ireturn, 1) := by decide +kernel
theorem dS_valueOf_0 : decode cS_valueOf 0 = .ok (.iload_n 0, 1) := by decide +kernel
theorem dS_valueOf_1 : decode cS_valueOf 1 = .ok (.iconst 3, 1) := by decide +kernel
theorem dS_valueOf_2 : decode cS_valueOf 2 = .ok (.irem, 1) := by decide +kernel
theorem dS_valueOf_3 : decode cS_valueOf 3 = .ok (.ireturn, 1) := by decide +kernel
theorem dS_contradict_0 : decode cS_contradict 0 = .ok (.iload_n 0, 1) := by decide +kernel
theorem dS_contradict_1 : decode cS_contradict 1 = .ok (.invokestatic 164, 3) := by decide +kernel
theorem dS_contradict_4 : decode cS_contradict 4 = .ok (.iload_n 1, 1) := by decide +kernel
theorem dS_contradict_5 : decode cS_contradict 5 = .ok (.invokestatic 164, 3) := by decide +kernel
theorem dS_contradict_8 : decode cS_contradict 8 = .ok (.if_icmp .ne 5, 3) := by decide +kernel
theorem dS_contradict_11 : decode cS_contradict 11 = .ok (.iconst 0, 1) := by decide +kernel
theorem dS_contradict_12 : decode cS_contradict 12 = .ok (.ireturn, 1) := by decide +kernel
theorem dS_contradict_13 : decode cS_contradict 13 = .ok (.iload_n 0, 1) := by decide +kernel
theorem dS_contradict_14 : decode cS_contradict 14 = .ok (.invokestatic 167, 3) := by decide +kernel
theorem dS_contradict_17 : decode cS_contradict 17 = .ok (.ifCond .eq 12, 3) := by decide +kernel
theorem dS_contradict_20 : decode cS_contradict 20 = .ok (.iload_n 1, 1) := by decide +kernel
theorem dS_contradict_21 : decode cS_contradict 21 = .ok (.invokestatic 167, 3) := by decide +kernel
theorem dS_contradict_24 : decode cS_contradict 24 = .ok (.ifCond .eq 5, 3) := by decide +kernel
theorem dS_contradict_27 : decode cS_contradict 27 = .ok (.iconst 1, 1) := by decide +kernel
theorem dS_contradict_28 : decode cS_contradict 28 = .ok (.ireturn, 1) := by decide +kernel
theorem dS_contradict_29 : decode cS_contradict 29 = .ok (.iload_n 0, 1) := by decide +kernel
theorem dS_contradict_30 : decode cS_contradict 30 = .ok (.invokestatic 167, 3) := by decide +kernel
theorem dS_contradict_33 : decode cS_contradict 33 = .ok (.ifCond .eq 14, 3) := by decide +kernel
theorem dS_contradict_36 : decode cS_contradict 36 = .ok (.iload_n 1, 1) := by decide +kernel
theorem dS_contradict_37 : decode cS_contradict 37 = .ok (.invokestatic 170, 3) := by decide +kernel
theorem dS_contradict_40 : decode cS_contradict 40 = .ok (.iload_n 0, 1) := by decide +kernel
theorem dS_contradict_41 : decode cS_contradict 41 = .ok (.invokestatic 170, 3) := by decide +kernel
theorem dS_contradict_44 : decode cS_contradict 44 = .ok (.if_icmp .gt 21, 3) := by decide +kernel
theorem dS_contradict_47 : decode cS_contradict 47 = .ok (.iload_n 1, 1) := by decide +kernel
theorem dS_contradict_48 : decode cS_contradict 48 = .ok (.invokestatic 167, 3) := by decide +kernel
theorem dS_contradict_51 : decode cS_contradict 51 = .ok (.ifCond .eq 18, 3) := by decide +kernel
theorem dS_contradict_54 : decode cS_contradict 54 = .ok (.iload_n 0, 1) := by decide +kernel
theorem dS_contradict_55 : decode cS_contradict 55 = .ok (.invokestatic 170, 3) := by decide +kernel
theorem dS_contradict_58 : decode cS_contradict 58 = .ok (.iload_n 1, 1) := by decide +kernel
theorem dS_contradict_59 : decode cS_contradict 59 = .ok (.invokestatic 170, 3) := by decide +kernel
theorem dS_contradict_62 : decode cS_contradict 62 = .ok (.if_icmp .le 7, 3) := by decide +kernel
theorem dS_contradict_65 : decode cS_contradict 65 = .ok (.iconst 1, 1) := by decide +kernel
theorem dS_contradict_66 : decode cS_contradict 66 = .ok (.goto 4, 3) := by decide +kernel
theorem dS_contradict_69 : decode cS_contradict 69 = .ok (.iconst 0, 1) := by decide +kernel
theorem dS_contradict_70 : decode cS_contradict 70 = .ok (.ireturn, 1) := by decide +kernel
theorem dS_contradictsOneOf_0 : decode cS_contradictsOneOf 0 = .ok (.iconst 0, 1) := by decide +kernel
theorem dS_contradictsOneOf_1 : decode cS_contradictsOneOf 1 = .ok (.istore_n 2, 1) := by decide +kernel
theorem dS_contradictsOneOf_2 : decode cS_contradictsOneOf 2 = .ok (.iload_n 2, 1) := by decide +kernel
theorem dS_contradictsOneOf_3 : decode cS_contradictsOneOf 3 = .ok (.bipush 24, 2) := by decide +kernel
theorem dS_contradictsOneOf_5 : decode cS_contradictsOneOf 5 = .ok (.if_icmp .ge 27, 3) := by decide +kernel
theorem dS_contradictsOneOf_8 : decode cS_contradictsOneOf 8 = .ok (.iload_n 1, 1) := by decide +kernel
theorem dS_contradictsOneOf_9 : decode cS_contradictsOneOf 9 = .ok (.iload_n 2, 1) := by decide +kernel
theorem dS_contradictsOneOf_10 : decode cS_contradictsOneOf 10 = .ok (.invokestatic 66, 3) := by decide +kernel
theorem dS_contradictsOneOf_13 : decode cS_contradictsOneOf 13 = .ok (.ifCond .eq 13, 3) := by decide +kernel
theorem dS_contradictsOneOf_16 : decode cS_contradictsOneOf 16 = .ok (.iload_n 0, 1) := by decide +kernel
theorem dS_contradictsOneOf_17 : decode cS_contradictsOneOf 17 = .ok (.iload_n 2, 1) := by decide +kernel
theorem dS_contradictsOneOf_18 : decode cS_contradictsOneOf 18 = .ok (.invokestatic 173, 3) := by decide +kernel
theorem dS_contradictsOneOf_21 : decode cS_contradictsOneOf 21 = .ok (.ifCond .eq 5, 3) := by decide +kernel
theorem dS_contradictsOneOf_24 : decode cS_contradictsOneOf 24 = .ok (.iconst 1, 1) := by decide +kernel
theorem dS_contradictsOneOf_25 : decode cS_contradictsOneOf 25 = .ok (.ireturn, 1) := by decide +kernel
theorem dS_contradictsOneOf_26 : decode cS_contradictsOneOf 26 = .ok (.iinc 2 1, 3) := by decide +kernel
theorem dS_contradictsOneOf_29 : decode cS_contradictsOneOf 29 = .ok (.goto (-27), 3) := by decide +kernel
theorem dS_contradictsOneOf_32 : decode cS_contradictsOneOf 32 = .ok (.iconst 0, 1) := by decide +kernel
theorem dS_contradictsOneOf_33 : decode cS_contradictsOneOf 33 = .ok (.ireturn, 1) := by decide +kernel
theorem dS_valueToPropose_0 : decode cS_valueToPropose 0 = .ok (.bipush 12, 2) := by decide +kernel
theorem dS_valueToPropose_2 : decode cS_valueToPropose 2 = .ok (.istore_n 2, 1) := by decide +kernel
theorem dS_valueToPropose_3 : decode cS_valueToPropose 3 = .ok (.iload_n 2, 1) := by decide +kernel
theorem dS_valueToPropose_4 : decode cS_valueToPropose 4 = .ok (.bipush 24, 2) := by decide +kernel
theorem dS_valueToPropose_6 : decode cS_valueToPropose 6 = .ok (.if_icmp .ge 30, 3) := by decide +kernel
theorem dS_valueToPropose_9 : decode cS_valueToPropose 9 = .ok (.aload_n 0, 1) := by decide +kernel
theorem dS_valueToPropose_10 : decode cS_valueToPropose 10 = .ok (.getfield 97, 3) := by decide +kernel
theorem dS_valueToPropose_13 : decode cS_valueToPropose 13 = .ok (.aload_n 0, 1) := by decide +kernel
theorem dS_valueToPropose_14 : decode cS_valueToPropose 14 = .ok (.getfield 176, 3) := by decide +kernel
theorem dS_valueToPropose_17 : decode cS_valueToPropose 17 = .ok (.iaload, 1) := by decide +kernel
theorem dS_valueToPropose_18 : decode cS_valueToPropose 18 = .ok (.iload_n 2, 1) := by decide +kernel
theorem dS_valueToPropose_19 : decode cS_valueToPropose 19 = .ok (.invokestatic 66, 3) := by decide +kernel
theorem dS_valueToPropose_22 : decode cS_valueToPropose 22 = .ok (.ifCond .eq 8, 3) := by decide +kernel
theorem dS_valueToPropose_25 : decode cS_valueToPropose 25 = .ok (.iload_n 2, 1) := by decide +kernel
theorem dS_valueToPropose_26 : decode cS_valueToPropose 26 = .ok (.invokestatic 164, 3) := by decide +kernel
theorem dS_valueToPropose_29 : decode cS_valueToPropose 29 = .ok (.ireturn, 1) := by decide +kernel
theorem dS_valueToPropose_30 : decode cS_valueToPropose 30 = .ok (.iinc 2 1, 3) := by decide +kernel
theorem dS_valueToPropose_33 : decode cS_valueToPropose 33 = .ok (.goto (-30), 3) := by decide +kernel
theorem dS_valueToPropose_36 : decode cS_valueToPropose 36 = .ok (.bipush 11, 2) := by decide +kernel
theorem dS_valueToPropose_38 : decode cS_valueToPropose 38 = .ok (.istore_n 2, 1) := by decide +kernel
theorem dS_valueToPropose_39 : decode cS_valueToPropose 39 = .ok (.iload_n 2, 1) := by decide +kernel
theorem dS_valueToPropose_40 : decode cS_valueToPropose 40 = .ok (.ifCond .lt 25, 3) := by decide +kernel
theorem dS_valueToPropose_43 : decode cS_valueToPropose 43 = .ok (.aload_n 0, 1) := by decide +kernel
theorem dS_valueToPropose_44 : decode cS_valueToPropose 44 = .ok (.getfield 109, 3) := by decide +kernel
theorem dS_valueToPropose_47 : decode cS_valueToPropose 47 = .ok (.iload_n 2, 1) := by decide +kernel
theorem dS_valueToPropose_48 : decode cS_valueToPropose 48 = .ok (.invokestatic 66, 3) := by decide +kernel
theorem dS_valueToPropose_51 : decode cS_valueToPropose 51 = .ok (.ifCond .eq 8, 3) := by decide +kernel
theorem dS_valueToPropose_54 : decode cS_valueToPropose 54 = .ok (.iload_n 2, 1) := by decide +kernel
theorem dS_valueToPropose_55 : decode cS_valueToPropose 55 = .ok (.invokestatic 164, 3) := by decide +kernel
theorem dS_valueToPropose_58 : decode cS_valueToPropose 58 = .ok (.ireturn, 1) := by decide +kernel
theorem dS_valueToPropose_59 : decode cS_valueToPropose 59 = .ok (.iinc 2 (-1), 3) := by decide +kernel
theorem dS_valueToPropose_62 : decode cS_valueToPropose 62 = .ok (.goto (-23), 3) := by decide +kernel
theorem dS_valueToPropose_65 : decode cS_valueToPropose 65 = .ok (.iload_n 1, 1) := by decide +kernel
theorem dS_valueToPropose_66 : decode cS_valueToPropose 66 = .ok (.ireturn, 1) := by decide +kernel
theorem dS_hear_0 : decode cS_hear 0 = .ok (.aload_n 0, 1) := by decide +kernel
theorem dS_hear_1 : decode cS_hear 1 = .ok (.iconst 1, 1) := by decide +kernel
theorem dS_hear_2 : decode cS_hear 2 = .ok (.putfield 43, 3) := by decide +kernel
theorem dS_hear_5 : decode cS_hear 5 = .ok (.aload_n 1, 1) := by decide +kernel
theorem dS_hear_6 : decode cS_hear 6 = .ok (.getfield 93, 3) := by decide +kernel
theorem dS_hear_9 : decode cS_hear 9 = .ok (.iload_n 2, 1) := by decide +kernel
theorem dS_hear_10 : decode cS_hear 10 = .ok (.iload_n 3, 1) := by decide +kernel
theorem dS_hear_11 : decode cS_hear 11 = .ok (.iastore, 1) := by decide +kernel
theorem dS_hear_12 : decode cS_hear 12 = .ok (.aload_n 1, 1) := by decide +kernel
theorem dS_hear_13 : decode cS_hear 13 = .ok (.getfield 97, 3) := by decide +kernel
theorem dS_hear_16 : decode cS_hear 16 = .ok (.iload_n 2, 1) := by decide +kernel
theorem dS_hear_17 : decode cS_hear 17 = .ok (.iload 4, 2) := by decide +kernel
theorem dS_hear_19 : decode cS_hear 19 = .ok (.iastore, 1) := by decide +kernel
theorem dS_hear_20 : decode cS_hear 20 = .ok (.return_, 1) := by decide +kernel
theorem dS_voteIfAllowed_0 : decode cS_voteIfAllowed 0 = .ok (.aload_n 0, 1) := by decide +kernel
theorem dS_voteIfAllowed_1 : decode cS_voteIfAllowed 1 = .ok (.getfield 176, 3) := by decide +kernel
theorem dS_voteIfAllowed_4 : decode cS_voteIfAllowed 4 = .ok (.istore_n 2, 1) := by decide +kernel
theorem dS_voteIfAllowed_5 : decode cS_voteIfAllowed 5 = .ok (.iload_n 1, 1) := by decide +kernel
theorem dS_voteIfAllowed_6 : decode cS_voteIfAllowed 6 = .ok (.aload_n 0, 1) := by decide +kernel
theorem dS_voteIfAllowed_7 : decode cS_voteIfAllowed 7 = .ok (.getfield 93, 3) := by decide +kernel
theorem dS_voteIfAllowed_10 : decode cS_voteIfAllowed 10 = .ok (.iload_n 2, 1) := by decide +kernel
theorem dS_voteIfAllowed_11 : decode cS_voteIfAllowed 11 = .ok (.iaload, 1) := by decide +kernel
theorem dS_voteIfAllowed_12 : decode cS_voteIfAllowed 12 = .ok (.aload_n 0, 1) := by decide +kernel
theorem dS_voteIfAllowed_13 : decode cS_voteIfAllowed 13 = .ok (.getfield 97, 3) := by decide +kernel
theorem dS_voteIfAllowed_16 : decode cS_voteIfAllowed 16 = .ok (.iload_n 2, 1) := by decide +kernel
theorem dS_voteIfAllowed_17 : decode cS_voteIfAllowed 17 = .ok (.iaload, 1) := by decide +kernel
theorem dS_voteIfAllowed_18 : decode cS_voteIfAllowed 18 = .ok (.ior, 1) := by decide +kernel
theorem dS_voteIfAllowed_19 : decode cS_voteIfAllowed 19 = .ok (.invokestatic 178, 3) := by decide +kernel
theorem dS_voteIfAllowed_22 : decode cS_voteIfAllowed 22 = .ok (.ifCond .eq 5, 3) := by decide +kernel
theorem dS_voteIfAllowed_25 : decode cS_voteIfAllowed 25 = .ok (.iconst 0, 1) := by decide +kernel
theorem dS_voteIfAllowed_26 : decode cS_voteIfAllowed 26 = .ok (.ireturn, 1) := by decide +kernel
theorem dS_voteIfAllowed_27 : decode cS_voteIfAllowed 27 = .ok (.aload_n 0, 1) := by decide +kernel
theorem dS_voteIfAllowed_28 : decode cS_voteIfAllowed 28 = .ok (.getfield 93, 3) := by decide +kernel
theorem dS_voteIfAllowed_31 : decode cS_voteIfAllowed 31 = .ok (.iload_n 2, 1) := by decide +kernel
theorem dS_voteIfAllowed_32 : decode cS_voteIfAllowed 32 = .ok (.dup2, 1) := by decide +kernel
theorem dS_voteIfAllowed_33 : decode cS_voteIfAllowed 33 = .ok (.iaload, 1) := by decide +kernel
theorem dS_voteIfAllowed_34 : decode cS_voteIfAllowed 34 = .ok (.iconst 1, 1) := by decide +kernel
theorem dS_voteIfAllowed_35 : decode cS_voteIfAllowed 35 = .ok (.iload_n 1, 1) := by decide +kernel
theorem dS_voteIfAllowed_36 : decode cS_voteIfAllowed 36 = .ok (.ishl, 1) := by decide +kernel
theorem dS_voteIfAllowed_37 : decode cS_voteIfAllowed 37 = .ok (.ior, 1) := by decide +kernel
theorem dS_voteIfAllowed_38 : decode cS_voteIfAllowed 38 = .ok (.iastore, 1) := by decide +kernel
theorem dS_voteIfAllowed_39 : decode cS_voteIfAllowed 39 = .ok (.iconst 1, 1) := by decide +kernel
theorem dS_voteIfAllowed_40 : decode cS_voteIfAllowed 40 = .ok (.ireturn, 1) := by decide +kernel
theorem dS_settle_0 : decode cS_settle 0 = .ok (.iconst 0, 1) := by decide +kernel
theorem dS_settle_1 : decode cS_settle 1 = .ok (.istore_n 2, 1) := by decide +kernel
theorem dS_settle_2 : decode cS_settle 2 = .ok (.iload_n 2, 1) := by decide +kernel
theorem dS_settle_3 : decode cS_settle 3 = .ok (.bipush 49, 2) := by decide +kernel
theorem dS_settle_5 : decode cS_settle 5 = .ok (.if_icmp .ge 33, 3) := by decide +kernel
theorem dS_settle_8 : decode cS_settle 8 = .ok (.aload_n 0, 1) := by decide +kernel
theorem dS_settle_9 : decode cS_settle 9 = .ok (.aload_n 1, 1) := by decide +kernel
theorem dS_settle_10 : decode cS_settle 10 = .ok (.invokevirtual 181, 3) := by decide +kernel
theorem dS_settle_13 : decode cS_settle 13 = .ok (.ifCond .ne 19, 3) := by decide +kernel
theorem dS_settle_16 : decode cS_settle 16 = .ok (.aload_n 0, 1) := by decide +kernel
theorem dS_settle_17 : decode cS_settle 17 = .ok (.aload_n 1, 1) := by decide +kernel
theorem dS_settle_18 : decode cS_settle 18 = .ok (.invokevirtual 185, 3) := by decide +kernel
theorem dS_settle_21 : decode cS_settle 21 = .ok (.ifCond .ne 11, 3) := by decide +kernel
theorem dS_settle_24 : decode cS_settle 24 = .ok (.aload_n 1, 1) := by decide +kernel
theorem dS_settle_25 : decode cS_settle 25 = .ok (.invokestatic 188, 3) := by decide +kernel
theorem dS_settle_28 : decode cS_settle 28 = .ok (.ifCond .ne 4, 3) := by decide +kernel
theorem dS_settle_31 : decode cS_settle 31 = .ok (.return_, 1) := by decide +kernel
theorem dS_settle_32 : decode cS_settle 32 = .ok (.iinc 2 1, 3) := by decide +kernel
theorem dS_settle_35 : decode cS_settle 35 = .ok (.goto (-33), 3) := by decide +kernel
theorem dS_settle_38 : decode cS_settle 38 = .ok (.return_, 1) := by decide +kernel
theorem dS_acceptLeast_0 : decode cS_acceptLeast 0 = .ok (.iconst 0, 1) := by decide +kernel
theorem dS_acceptLeast_1 : decode cS_acceptLeast 1 = .ok (.istore_n 2, 1) := by decide +kernel
theorem dS_acceptLeast_2 : decode cS_acceptLeast 2 = .ok (.iload_n 2, 1) := by decide +kernel
theorem dS_acceptLeast_3 : decode cS_acceptLeast 3 = .ok (.bipush 24, 2) := by decide +kernel
theorem dS_acceptLeast_5 : decode cS_acceptLeast 5 = .ok (.if_icmp .ge 35, 3) := by decide +kernel
theorem dS_acceptLeast_8 : decode cS_acceptLeast 8 = .ok (.aload_n 0, 1) := by decide +kernel
theorem dS_acceptLeast_9 : decode cS_acceptLeast 9 = .ok (.aload_n 1, 1) := by decide +kernel
theorem dS_acceptLeast_10 : decode cS_acceptLeast 10 = .ok (.iload_n 2, 1) := by decide +kernel
theorem dS_acceptLeast_11 : decode cS_acceptLeast 11 = .ok (.invokevirtual 191, 3) := by decide +kernel
theorem dS_acceptLeast_14 : decode cS_acceptLeast 14 = .ok (.ifCond .eq 20, 3) := by decide +kernel
theorem dS_acceptLeast_17 : decode cS_acceptLeast 17 = .ok (.aload_n 1, 1) := by decide +kernel
theorem dS_acceptLeast_18 : decode cS_acceptLeast 18 = .ok (.getfield 97, 3) := by decide +kernel
theorem dS_acceptLeast_21 : decode cS_acceptLeast 21 = .ok (.aload_n 1, 1) := by decide +kernel
theorem dS_acceptLeast_22 : decode cS_acceptLeast 22 = .ok (.getfield 176, 3) := by decide +kernel
theorem dS_acceptLeast_25 : decode cS_acceptLeast 25 = .ok (.dup2, 1) := by decide +kernel
theorem dS_acceptLeast_26 : decode cS_acceptLeast 26 = .ok (.iaload, 1) := by decide +kernel
theorem dS_acceptLeast_27 : decode cS_acceptLeast 27 = .ok (.iconst 1, 1) := by decide +kernel
theorem dS_acceptLeast_28 : decode cS_acceptLeast 28 = .ok (.iload_n 2, 1) := by decide +kernel
theorem dS_acceptLeast_29 : decode cS_acceptLeast 29 = .ok (.ishl, 1) := by decide +kernel
theorem dS_acceptLeast_30 : decode cS_acceptLeast 30 = .ok (.ior, 1) := by decide +kernel
theorem dS_acceptLeast_31 : decode cS_acceptLeast 31 = .ok (.iastore, 1) := by decide +kernel
theorem dS_acceptLeast_32 : decode cS_acceptLeast 32 = .ok (.iconst 1, 1) := by decide +kernel
theorem dS_acceptLeast_33 : decode cS_acceptLeast 33 = .ok (.ireturn, 1) := by decide +kernel
theorem dS_acceptLeast_34 : decode cS_acceptLeast 34 = .ok (.iinc 2 1, 3) := by decide +kernel
theorem dS_acceptLeast_37 : decode cS_acceptLeast 37 = .ok (.goto (-35), 3) := by decide +kernel
theorem dS_acceptLeast_40 : decode cS_acceptLeast 40 = .ok (.iconst 0, 1) := by decide +kernel
theorem dS_acceptLeast_41 : decode cS_acceptLeast 41 = .ok (.ireturn, 1) := by decide +kernel
theorem dS_mayAccept_0 : decode cS_mayAccept 0 = .ok (.aload_n 1, 1) := by decide +kernel
theorem dS_mayAccept_1 : decode cS_mayAccept 1 = .ok (.getfield 97, 3) := by decide +kernel
theorem dS_mayAccept_4 : decode cS_mayAccept 4 = .ok (.aload_n 1, 1) := by decide +kernel
theorem dS_mayAccept_5 : decode cS_mayAccept 5 = .ok (.getfield 176, 3) := by decide +kernel
theorem dS_mayAccept_8 : decode cS_mayAccept 8 = .ok (.iaload, 1) := by decide +kernel
theorem dS_mayAccept_9 : decode cS_mayAccept 9 = .ok (.istore_n 3, 1) := by decide +kernel
theorem dS_mayAccept_10 : decode cS_mayAccept 10 = .ok (.iload_n 3, 1) := by decide +kernel
theorem dS_mayAccept_11 : decode cS_mayAccept 11 = .ok (.iload_n 2, 1) := by decide +kernel
theorem dS_mayAccept_12 : decode cS_mayAccept 12 = .ok (.invokestatic 66, 3) := by decide +kernel
theorem dS_mayAccept_15 : decode cS_mayAccept 15 = .ok (.ifCond .ne 11, 3) := by decide +kernel
theorem dS_mayAccept_18 : decode cS_mayAccept 18 = .ok (.iload_n 2, 1) := by decide +kernel
theorem dS_mayAccept_19 : decode cS_mayAccept 19 = .ok (.iload_n 3, 1) := by decide +kernel
theorem dS_mayAccept_20 : decode cS_mayAccept 20 = .ok (.invokestatic 178, 3) := by decide +kernel
theorem dS_mayAccept_23 : decode cS_mayAccept 23 = .ok (.ifCond .eq 5, 3) := by decide +kernel
theorem dS_mayAccept_26 : decode cS_mayAccept 26 = .ok (.iconst 0, 1) := by decide +kernel
theorem dS_mayAccept_27 : decode cS_mayAccept 27 = .ok (.ireturn, 1) := by decide +kernel
theorem dS_mayAccept_28 : decode cS_mayAccept 28 = .ok (.aload_n 1, 1) := by decide +kernel
theorem dS_mayAccept_29 : decode cS_mayAccept 29 = .ok (.getfield 97, 3) := by decide +kernel
theorem dS_mayAccept_32 : decode cS_mayAccept 32 = .ok (.iload_n 2, 1) := by decide +kernel
theorem dS_mayAccept_33 : decode cS_mayAccept 33 = .ok (.invokestatic 194, 3) := by decide +kernel
theorem dS_mayAccept_36 : decode cS_mayAccept 36 = .ok (.istore 4, 2) := by decide +kernel
theorem dS_mayAccept_38 : decode cS_mayAccept 38 = .ok (.aload_n 1, 1) := by decide +kernel
theorem dS_mayAccept_39 : decode cS_mayAccept 39 = .ok (.getfield 93, 3) := by decide +kernel
theorem dS_mayAccept_42 : decode cS_mayAccept 42 = .ok (.iload_n 2, 1) := by decide +kernel
theorem dS_mayAccept_43 : decode cS_mayAccept 43 = .ok (.invokestatic 194, 3) := by decide +kernel
theorem dS_mayAccept_46 : decode cS_mayAccept 46 = .ok (.istore 5, 2) := by decide +kernel
theorem dS_mayAccept_48 : decode cS_mayAccept 48 = .ok (.aload_n 0, 1) := by decide +kernel
theorem dS_mayAccept_49 : decode cS_mayAccept 49 = .ok (.aload_n 1, 1) := by decide +kernel
theorem dS_mayAccept_50 : decode cS_mayAccept 50 = .ok (.iload 5, 2) := by decide +kernel
theorem dS_mayAccept_52 : decode cS_mayAccept 52 = .ok (.iload 4, 2) := by decide +kernel
theorem dS_mayAccept_54 : decode cS_mayAccept 54 = .ok (.ior, 1) := by decide +kernel
theorem dS_mayAccept_55 : decode cS_mayAccept 55 = .ok (.invokevirtual 198, 3) := by decide +kernel
theorem dS_mayAccept_58 : decode cS_mayAccept 58 = .ok (.ifCond .ne 13, 3) := by decide +kernel
theorem dS_mayAccept_61 : decode cS_mayAccept 61 = .ok (.aload_n 0, 1) := by decide +kernel
theorem dS_mayAccept_62 : decode cS_mayAccept 62 = .ok (.aload_n 1, 1) := by decide +kernel
theorem dS_mayAccept_63 : decode cS_mayAccept 63 = .ok (.iload 4, 2) := by decide +kernel
theorem dS_mayAccept_65 : decode cS_mayAccept 65 = .ok (.invokevirtual 125, 3) := by decide +kernel
theorem dS_mayAccept_68 : decode cS_mayAccept 68 = .ok (.ifCond .eq 7, 3) := by decide +kernel
theorem dS_mayAccept_71 : decode cS_mayAccept 71 = .ok (.iconst 1, 1) := by decide +kernel
theorem dS_mayAccept_72 : decode cS_mayAccept 72 = .ok (.goto 4, 3) := by decide +kernel
theorem dS_mayAccept_75 : decode cS_mayAccept 75 = .ok (.iconst 0, 1) := by decide +kernel
theorem dS_mayAccept_76 : decode cS_mayAccept 76 = .ok (.ireturn, 1) := by decide +kernel
theorem dS_confirmLeast_0 : decode cS_confirmLeast 0 = .ok (.iconst 0, 1) := by decide +kernel
theorem dS_confirmLeast_1 : decode cS_confirmLeast 1 = .ok (.istore_n 2, 1) := by decide +kernel
theorem dS_confirmLeast_2 : decode cS_confirmLeast 2 = .ok (.iload_n 2, 1) := by decide +kernel
theorem dS_confirmLeast_3 : decode cS_confirmLeast 3 = .ok (.bipush 24, 2) := by decide +kernel
theorem dS_confirmLeast_5 : decode cS_confirmLeast 5 = .ok (.if_icmp .ge 37, 3) := by decide +kernel
theorem dS_confirmLeast_8 : decode cS_confirmLeast 8 = .ok (.aload_n 0, 1) := by decide +kernel
theorem dS_confirmLeast_9 : decode cS_confirmLeast 9 = .ok (.aload_n 1, 1) := by decide +kernel
theorem dS_confirmLeast_10 : decode cS_confirmLeast 10 = .ok (.iload_n 2, 1) := by decide +kernel
theorem dS_confirmLeast_11 : decode cS_confirmLeast 11 = .ok (.invokevirtual 201, 3) := by decide +kernel
theorem dS_confirmLeast_14 : decode cS_confirmLeast 14 = .ok (.ifCond .eq 22, 3) := by decide +kernel
theorem dS_confirmLeast_17 : decode cS_confirmLeast 17 = .ok (.aload_n 1, 1) := by decide +kernel
theorem dS_confirmLeast_18 : decode cS_confirmLeast 18 = .ok (.dup, 1) := by decide +kernel
theorem dS_confirmLeast_19 : decode cS_confirmLeast 19 = .ok (.getfield 109, 3) := by decide +kernel
theorem dS_confirmLeast_22 : decode cS_confirmLeast 22 = .ok (.iconst 1, 1) := by decide +kernel
theorem dS_confirmLeast_23 : decode cS_confirmLeast 23 = .ok (.iload_n 2, 1) := by decide +kernel
theorem dS_confirmLeast_24 : decode cS_confirmLeast 24 = .ok (.ishl, 1) := by decide +kernel
theorem dS_confirmLeast_25 : decode cS_confirmLeast 25 = .ok (.ior, 1) := by decide +kernel
theorem dS_confirmLeast_26 : decode cS_confirmLeast 26 = .ok (.putfield 109, 3) := by decide +kernel
theorem dS_confirmLeast_29 : decode cS_confirmLeast 29 = .ok (.aload_n 1, 1) := by decide +kernel
theorem dS_confirmLeast_30 : decode cS_confirmLeast 30 = .ok (.iload_n 2, 1) := by decide +kernel
theorem dS_confirmLeast_31 : decode cS_confirmLeast 31 = .ok (.invokestatic 204, 3) := by decide +kernel
theorem dS_confirmLeast_34 : decode cS_confirmLeast 34 = .ok (.iconst 1, 1) := by decide +kernel
theorem dS_confirmLeast_35 : decode cS_confirmLeast 35 = .ok (.ireturn, 1) := by decide +kernel
theorem dS_confirmLeast_36 : decode cS_confirmLeast 36 = .ok (.iinc 2 1, 3) := by decide +kernel
theorem dS_confirmLeast_39 : decode cS_confirmLeast 39 = .ok (.goto (-37), 3) := by decide +kernel
theorem dS_confirmLeast_42 : decode cS_confirmLeast 42 = .ok (.iconst 0, 1) := by decide +kernel
theorem dS_confirmLeast_43 : decode cS_confirmLeast 43 = .ok (.ireturn, 1) := by decide +kernel
theorem dS_mayConfirm_0 : decode cS_mayConfirm 0 = .ok (.aload_n 1, 1) := by decide +kernel
theorem dS_mayConfirm_1 : decode cS_mayConfirm 1 = .ok (.getfield 109, 3) := by decide +kernel
theorem dS_mayConfirm_4 : decode cS_mayConfirm 4 = .ok (.iload_n 2, 1) := by decide +kernel
theorem dS_mayConfirm_5 : decode cS_mayConfirm 5 = .ok (.invokestatic 66, 3) := by decide +kernel
theorem dS_mayConfirm_8 : decode cS_mayConfirm 8 = .ok (.ifCond .ne 23, 3) := by decide +kernel
theorem dS_mayConfirm_11 : decode cS_mayConfirm 11 = .ok (.aload_n 0, 1) := by decide +kernel
theorem dS_mayConfirm_12 : decode cS_mayConfirm 12 = .ok (.aload_n 1, 1) := by decide +kernel
theorem dS_mayConfirm_13 : decode cS_mayConfirm 13 = .ok (.aload_n 1, 1) := by decide +kernel
theorem dS_mayConfirm_14 : decode cS_mayConfirm 14 = .ok (.getfield 97, 3) := by decide +kernel
theorem dS_mayConfirm_17 : decode cS_mayConfirm 17 = .ok (.iload_n 2, 1) := by decide +kernel
theorem dS_mayConfirm_18 : decode cS_mayConfirm 18 = .ok (.invokestatic 194, 3) := by decide +kernel
theorem dS_mayConfirm_21 : decode cS_mayConfirm 21 = .ok (.invokevirtual 198, 3) := by decide +kernel
theorem dS_mayConfirm_24 : decode cS_mayConfirm 24 = .ok (.ifCond .eq 7, 3) := by decide +kernel
theorem dS_mayConfirm_27 : decode cS_mayConfirm 27 = .ok (.iconst 1, 1) := by decide +kernel
theorem dS_mayConfirm_28 : decode cS_mayConfirm 28 = .ok (.goto 4, 3) := by decide +kernel
theorem dS_mayConfirm_31 : decode cS_mayConfirm 31 = .ok (.iconst 0, 1) := by decide +kernel
theorem dS_mayConfirm_32 : decode cS_mayConfirm 32 = .ok (.ireturn, 1) := by decide +kernel
theorem dS_decideBy_0 : decode cS_decideBy 0 = .ok (.iload_n 1, 1) := by decide +kernel
theorem dS_decideBy_1 : decode cS_decideBy 1 = .ok (.invokestatic 167, 3) := by decide +kernel
theorem dS_decideBy_4 : decode cS_decideBy 4 = .ok (.ifCond .eq 19, 3) := by decide +kernel
theorem dS_decideBy_7 : decode cS_decideBy 7 = .ok (.aload_n 0, 1) := by decide +kernel
theorem dS_decideBy_8 : decode cS_decideBy 8 = .ok (.getfield 112, 3) := by decide +kernel
theorem dS_decideBy_11 : decode cS_decideBy 11 = .ok (.iconst (-1), 1) := by decide +kernel
theorem dS_decideBy_12 : decode cS_decideBy 12 = .ok (.if_icmp .ne 11, 3) := by decide +kernel
theorem dS_decideBy_15 : decode cS_decideBy 15 = .ok (.aload_n 0, 1) := by decide +kernel
theorem dS_decideBy_16 : decode cS_decideBy 16 = .ok (.iload_n 1, 1) := by decide +kernel
theorem dS_decideBy_17 : decode cS_decideBy 17 = .ok (.invokestatic 164, 3) := by decide +kernel
theorem dS_decideBy_20 : decode cS_decideBy 20 = .ok (.putfield 112, 3) := by decide +kernel
theorem dS_decideBy_23 : decode cS_decideBy 23 = .ok (.return_, 1) := by decide +kernel
theorem dS_voteForCommit_0 : decode cS_voteForCommit 0 = .ok (.aload_n 0, 1) := by decide +kernel
theorem dS_voteForCommit_1 : decode cS_voteForCommit 1 = .ok (.getfield 73, 3) := by decide +kernel
theorem dS_voteForCommit_4 : decode cS_voteForCommit 4 = .ok (.ifCond .ne 5, 3) := by decide +kernel
theorem dS_voteForCommit_7 : decode cS_voteForCommit 7 = .ok (.iconst 0, 1) := by decide +kernel
theorem dS_voteForCommit_8 : decode cS_voteForCommit 8 = .ok (.ireturn, 1) := by decide +kernel
theorem dS_voteForCommit_9 : decode cS_voteForCommit 9 = .ok (.aload_n 0, 1) := by decide +kernel
theorem dS_voteForCommit_10 : decode cS_voteForCommit 10 = .ok (.getfield 73, 3) := by decide +kernel
theorem dS_voteForCommit_13 : decode cS_voteForCommit 13 = .ok (.aload_n 0, 1) := by decide +kernel
theorem dS_voteForCommit_14 : decode cS_voteForCommit 14 = .ok (.getfield 79, 3) := by decide +kernel
theorem dS_voteForCommit_17 : decode cS_voteForCommit 17 = .ok (.invokestatic 82, 3) := by decide +kernel
theorem dS_voteForCommit_20 : decode cS_voteForCommit 20 = .ok (.istore_n 1, 1) := by decide +kernel
theorem dS_voteForCommit_21 : decode cS_voteForCommit 21 = .ok (.iload_n 1, 1) := by decide +kernel
theorem dS_voteForCommit_22 : decode cS_voteForCommit 22 = .ok (.invokestatic 208, 3) := by decide +kernel
theorem dS_voteForCommit_25 : decode cS_voteForCommit 25 = .ok (.istore_n 2, 1) := by decide +kernel
theorem dS_voteForCommit_26 : decode cS_voteForCommit 26 = .ok (.aload_n 0, 1) := by decide +kernel
theorem dS_voteForCommit_27 : decode cS_voteForCommit 27 = .ok (.getfield 93, 3) := by decide +kernel
theorem dS_voteForCommit_30 : decode cS_voteForCommit 30 = .ok (.aload_n 0, 1) := by decide +kernel
theorem dS_voteForCommit_31 : decode cS_voteForCommit 31 = .ok (.getfield 176, 3) := by decide +kernel
theorem dS_voteForCommit_34 : decode cS_voteForCommit 34 = .ok (.iaload, 1) := by decide +kernel
theorem dS_voteForCommit_35 : decode cS_voteForCommit 35 = .ok (.iload_n 2, 1) := by decide +kernel
theorem dS_voteForCommit_36 : decode cS_voteForCommit 36 = .ok (.invokestatic 66, 3) := by decide +kernel
theorem dS_voteForCommit_39 : decode cS_voteForCommit 39 = .ok (.ifCond .ne 26, 3) := by decide +kernel
theorem dS_voteForCommit_42 : decode cS_voteForCommit 42 = .ok (.aload_n 0, 1) := by decide +kernel
theorem dS_voteForCommit_43 : decode cS_voteForCommit 43 = .ok (.getfield 109, 3) := by decide +kernel
theorem dS_voteForCommit_46 : decode cS_voteForCommit 46 = .ok (.iload_n 1, 1) := by decide +kernel
theorem dS_voteForCommit_47 : decode cS_voteForCommit 47 = .ok (.invokestatic 66, 3) := by decide +kernel
theorem dS_voteForCommit_50 : decode cS_voteForCommit 50 = .ok (.ifCond .eq 15, 3) := by decide +kernel
theorem dS_voteForCommit_53 : decode cS_voteForCommit 53 = .ok (.aload_n 0, 1) := by decide +kernel
theorem dS_voteForCommit_54 : decode cS_voteForCommit 54 = .ok (.iload_n 2, 1) := by decide +kernel
theorem dS_voteForCommit_55 : decode cS_voteForCommit 55 = .ok (.invokestatic 85, 3) := by decide +kernel
theorem dS_voteForCommit_58 : decode cS_voteForCommit 58 = .ok (.ifCond .eq 7, 3) := by decide +kernel
theorem dS_voteForCommit_61 : decode cS_voteForCommit 61 = .ok (.iconst 1, 1) := by decide +kernel
theorem dS_voteForCommit_62 : decode cS_voteForCommit 62 = .ok (.goto 4, 3) := by decide +kernel
theorem dS_voteForCommit_65 : decode cS_voteForCommit 65 = .ok (.iconst 0, 1) := by decide +kernel
theorem dS_voteForCommit_66 : decode cS_voteForCommit 66 = .ok (.ireturn, 1) := by decide +kernel
theorem dS_isInQuorumWithin_0 : decode cS_isInQuorumWithin 0 = .ok (.iload_n 2, 1) := by decide +kernel
theorem dS_isInQuorumWithin_1 : decode cS_isInQuorumWithin 1 = .ok (.aload_n 1, 1) := by decide +kernel
theorem dS_isInQuorumWithin_2 : decode cS_isInQuorumWithin 2 = .ok (.getfield 176, 3) := by decide +kernel
theorem dS_isInQuorumWithin_5 : decode cS_isInQuorumWithin 5 = .ok (.invokestatic 66, 3) := by decide +kernel
theorem dS_isInQuorumWithin_8 : decode cS_isInQuorumWithin 8 = .ok (.ifCond .eq 22, 3) := by decide +kernel
theorem dS_isInQuorumWithin_11 : decode cS_isInQuorumWithin 11 = .ok (.aload_n 0, 1) := by decide +kernel
theorem dS_isInQuorumWithin_12 : decode cS_isInQuorumWithin 12 = .ok (.iload_n 2, 1) := by decide +kernel
theorem dS_isInQuorumWithin_13 : decode cS_isInQuorumWithin 13 = .ok (.invokevirtual 121, 3) := by decide +kernel
theorem dS_isInQuorumWithin_16 : decode cS_isInQuorumWithin 16 = .ok (.aload_n 1, 1) := by decide +kernel
theorem dS_isInQuorumWithin_17 : decode cS_isInQuorumWithin 17 = .ok (.getfield 176, 3) := by decide +kernel
theorem dS_isInQuorumWithin_20 : decode cS_isInQuorumWithin 20 = .ok (.invokestatic 66, 3) := by decide +kernel
theorem dS_isInQuorumWithin_23 : decode cS_isInQuorumWithin 23 = .ok (.ifCond .eq 7, 3) := by decide +kernel
theorem dS_isInQuorumWithin_26 : decode cS_isInQuorumWithin 26 = .ok (.iconst 1, 1) := by decide +kernel
theorem dS_isInQuorumWithin_27 : decode cS_isInQuorumWithin 27 = .ok (.goto 4, 3) := by decide +kernel
theorem dS_isInQuorumWithin_30 : decode cS_isInQuorumWithin 30 = .ok (.iconst 0, 1) := by decide +kernel
theorem dS_isInQuorumWithin_31 : decode cS_isInQuorumWithin 31 = .ok (.ireturn, 1) := by decide +kernel
theorem dS_nodesThatSaid_0 : decode cS_nodesThatSaid 0 = .ok (.iconst 0, 1) := by decide +kernel
theorem dS_nodesThatSaid_1 : decode cS_nodesThatSaid 1 = .ok (.istore_n 2, 1) := by decide +kernel
theorem dS_nodesThatSaid_2 : decode cS_nodesThatSaid 2 = .ok (.iconst 0, 1) := by decide +kernel
theorem dS_nodesThatSaid_3 : decode cS_nodesThatSaid 3 = .ok (.istore_n 3, 1) := by decide +kernel
theorem dS_nodesThatSaid_4 : decode cS_nodesThatSaid 4 = .ok (.iload_n 3, 1) := by decide +kernel
theorem dS_nodesThatSaid_5 : decode cS_nodesThatSaid 5 = .ok (.aload_n 0, 1) := by decide +kernel
theorem dS_nodesThatSaid_6 : decode cS_nodesThatSaid 6 = .ok (.arraylength, 1) := by decide +kernel
theorem dS_nodesThatSaid_7 : decode cS_nodesThatSaid 7 = .ok (.if_icmp .ge 25, 3) := by decide +kernel
theorem dS_nodesThatSaid_10 : decode cS_nodesThatSaid 10 = .ok (.aload_n 0, 1) := by decide +kernel
theorem dS_nodesThatSaid_11 : decode cS_nodesThatSaid 11 = .ok (.iload_n 3, 1) := by decide +kernel
theorem dS_nodesThatSaid_12 : decode cS_nodesThatSaid 12 = .ok (.iaload, 1) := by decide +kernel
theorem dS_nodesThatSaid_13 : decode cS_nodesThatSaid 13 = .ok (.iload_n 1, 1) := by decide +kernel
theorem dS_nodesThatSaid_14 : decode cS_nodesThatSaid 14 = .ok (.invokestatic 66, 3) := by decide +kernel
theorem dS_nodesThatSaid_17 : decode cS_nodesThatSaid 17 = .ok (.ifCond .eq 9, 3) := by decide +kernel
theorem dS_nodesThatSaid_20 : decode cS_nodesThatSaid 20 = .ok (.iload_n 2, 1) := by decide +kernel
theorem dS_nodesThatSaid_21 : decode cS_nodesThatSaid 21 = .ok (.iconst 1, 1) := by decide +kernel
theorem dS_nodesThatSaid_22 : decode cS_nodesThatSaid 22 = .ok (.iload_n 3, 1) := by decide +kernel
theorem dS_nodesThatSaid_23 : decode cS_nodesThatSaid 23 = .ok (.ishl, 1) := by decide +kernel
theorem dS_nodesThatSaid_24 : decode cS_nodesThatSaid 24 = .ok (.ior, 1) := by decide +kernel
theorem dS_nodesThatSaid_25 : decode cS_nodesThatSaid 25 = .ok (.istore_n 2, 1) := by decide +kernel
theorem dS_nodesThatSaid_26 : decode cS_nodesThatSaid 26 = .ok (.iinc 3 1, 3) := by decide +kernel
theorem dS_nodesThatSaid_29 : decode cS_nodesThatSaid 29 = .ok (.goto (-25), 3) := by decide +kernel
theorem dS_nodesThatSaid_32 : decode cS_nodesThatSaid 32 = .ok (.iload_n 2, 1) := by decide +kernel
theorem dS_nodesThatSaid_33 : decode cS_nodesThatSaid 33 = .ok (.ireturn, 1) := by decide +kernel
theorem dN_init_0 : decode cN_init 0 = .ok (.aload_n 0, 1) := by decide +kernel
theorem dN_init_1 : decode cN_init 1 = .ok (.invokespecial 3, 3) := by decide +kernel
theorem dN_init_4 : decode cN_init 4 = .ok (.aload_n 0, 1) := by decide +kernel
theorem dN_init_5 : decode cN_init 5 = .ok (.iload_n 1, 1) := by decide +kernel
theorem dN_init_6 : decode cN_init 6 = .ok (.putfield 9, 3) := by decide +kernel
theorem dN_init_9 : decode cN_init 9 = .ok (.aload_n 0, 1) := by decide +kernel
theorem dN_init_10 : decode cN_init 10 = .ok (.iload_n 2, 1) := by decide +kernel
theorem dN_init_11 : decode cN_init 11 = .ok (.newarray .int, 2) := by decide +kernel
theorem dN_init_13 : decode cN_init 13 = .ok (.putfield 15, 3) := by decide +kernel
theorem dN_init_16 : decode cN_init 16 = .ok (.aload_n 0, 1) := by decide +kernel
theorem dN_init_17 : decode cN_init 17 = .ok (.iload_n 2, 1) := by decide +kernel
theorem dN_init_18 : decode cN_init 18 = .ok (.newarray .int, 2) := by decide +kernel
theorem dN_init_20 : decode cN_init 20 = .ok (.putfield 19, 3) := by decide +kernel
theorem dN_init_23 : decode cN_init 23 = .ok (.aload_n 0, 1) := by decide +kernel
theorem dN_init_24 : decode cN_init 24 = .ok (.iconst 0, 1) := by decide +kernel
theorem dN_init_25 : decode cN_init 25 = .ok (.putfield 22, 3) := by decide +kernel
theorem dN_init_28 : decode cN_init 28 = .ok (.aload_n 0, 1) := by decide +kernel
theorem dN_init_29 : decode cN_init 29 = .ok (.iconst 0, 1) := by decide +kernel
theorem dN_init_30 : decode cN_init 30 = .ok (.putfield 25, 3) := by decide +kernel
theorem dN_init_33 : decode cN_init 33 = .ok (.aload_n 0, 1) := by decide +kernel
theorem dN_init_34 : decode cN_init 34 = .ok (.iconst 0, 1) := by decide +kernel
theorem dN_init_35 : decode cN_init 35 = .ok (.putfield 28, 3) := by decide +kernel
theorem dN_init_38 : decode cN_init 38 = .ok (.aload_n 0, 1) := by decide +kernel
theorem dN_init_39 : decode cN_init 39 = .ok (.iconst (-1), 1) := by decide +kernel
theorem dN_init_40 : decode cN_init 40 = .ok (.putfield 31, 3) := by decide +kernel
theorem dN_init_43 : decode cN_init 43 = .ok (.aload_n 0, 1) := by decide +kernel
theorem dN_init_44 : decode cN_init 44 = .ok (.aconst_null, 1) := by decide +kernel
theorem dN_init_45 : decode cN_init 45 = .ok (.putfield 34, 3) := by decide +kernel
theorem dN_init_48 : decode cN_init 48 = .ok (.aload_n 0, 1) := by decide +kernel
theorem dN_init_49 : decode cN_init 49 = .ok (.iconst 0, 1) := by decide +kernel
theorem dN_init_50 : decode cN_init 50 = .ok (.putfield 38, 3) := by decide +kernel
theorem dN_init_53 : decode cN_init 53 = .ok (.return_, 1) := by decide +kernel
theorem dQ_init_0 : decode cQ_init 0 = .ok (.aload_n 0, 1) := by decide +kernel
theorem dQ_init_1 : decode cQ_init 1 = .ok (.invokespecial 1, 3) := by decide +kernel
theorem dQ_init_4 : decode cQ_init 4 = .ok (.aload_n 0, 1) := by decide +kernel
theorem dQ_init_5 : decode cQ_init 5 = .ok (.aload_n 1, 1) := by decide +kernel
theorem dQ_init_6 : decode cQ_init 6 = .ok (.putfield 7, 3) := by decide +kernel
theorem dQ_init_9 : decode cQ_init 9 = .ok (.aload_n 0, 1) := by decide +kernel
theorem dQ_init_10 : decode cQ_init 10 = .ok (.iload_n 2, 1) := by decide +kernel
theorem dQ_init_11 : decode cQ_init 11 = .ok (.putfield 13, 3) := by decide +kernel
theorem dQ_init_14 : decode cQ_init 14 = .ok (.aload_n 0, 1) := by decide +kernel
theorem dQ_init_15 : decode cQ_init 15 = .ok (.iload_n 3, 1) := by decide +kernel
theorem dQ_init_16 : decode cQ_init 16 = .ok (.putfield 17, 3) := by decide +kernel
theorem dQ_init_19 : decode cQ_init 19 = .ok (.aload_n 0, 1) := by decide +kernel
theorem dQ_init_20 : decode cQ_init 20 = .ok (.iconst 0, 1) := by decide +kernel
theorem dQ_init_21 : decode cQ_init 21 = .ok (.putfield 20, 3) := by decide +kernel
theorem dQ_init_24 : decode cQ_init 24 = .ok (.aload_n 0, 1) := by decide +kernel
theorem dQ_init_25 : decode cQ_init 25 = .ok (.aconst_null, 1) := by decide +kernel
theorem dQ_init_26 : decode cQ_init 26 = .ok (.putfield 23, 3) := by decide +kernel
theorem dQ_init_29 : decode cQ_init 29 = .ok (.aload_n 0, 1) := by decide +kernel
theorem dQ_init_30 : decode cQ_init 30 = .ok (.aconst_null, 1) := by decide +kernel
theorem dQ_init_31 : decode cQ_init 31 = .ok (.putfield 27, 3) := by decide +kernel
theorem dQ_init_34 : decode cQ_init 34 = .ok (.return_, 1) := by decide +kernel
theorem dL_cell_0 : decode cL_cell 0 = .ok (.iload_n 1, 1) := by decide +kernel
theorem dL_cell_1 : decode cL_cell 1 = .ok (.aload_n 0, 1) := by decide +kernel
theorem dL_cell_2 : decode cL_cell 2 = .ok (.arraylength, 1) := by decide +kernel
theorem dL_cell_3 : decode cL_cell 3 = .ok (.if_icmp .ge 9, 3) := by decide +kernel
theorem dL_cell_6 : decode cL_cell 6 = .ok (.aload_n 0, 1) := by decide +kernel
theorem dL_cell_7 : decode cL_cell 7 = .ok (.iload_n 1, 1) := by decide +kernel
theorem dL_cell_8 : decode cL_cell 8 = .ok (.iaload, 1) := by decide +kernel
theorem dL_cell_9 : decode cL_cell 9 = .ok (.goto 4, 3) := by decide +kernel
theorem dL_cell_12 : decode cL_cell 12 = .ok (.iconst 0, 1) := by decide +kernel
theorem dL_cell_13 : decode cL_cell 13 = .ok (.ireturn, 1) := by decide +kernel
theorem dJ_bitCount_0 : decode cJ_bitCount 0 = .ok (.iload_n 0, 1) := by decide +kernel
theorem dJ_bitCount_1 : decode cJ_bitCount 1 = .ok (.iload_n 0, 1) := by decide +kernel
theorem dJ_bitCount_2 : decode cJ_bitCount 2 = .ok (.iconst 1, 1) := by decide +kernel
theorem dJ_bitCount_3 : decode cJ_bitCount 3 = .ok (.iushr, 1) := by decide +kernel
theorem dJ_bitCount_4 : decode cJ_bitCount 4 = .ok (.ldc_w 265, 3) := by decide +kernel
theorem dJ_bitCount_7 : decode cJ_bitCount 7 = .ok (.iand, 1) := by decide +kernel
theorem dJ_bitCount_8 : decode cJ_bitCount 8 = .ok (.isub, 1) := by decide +kernel
theorem dJ_bitCount_9 : decode cJ_bitCount 9 = .ok (.istore_n 0, 1) := by decide +kernel
theorem dJ_bitCount_10 : decode cJ_bitCount 10 = .ok (.iload_n 0, 1) := by decide +kernel
theorem dJ_bitCount_11 : decode cJ_bitCount 11 = .ok (.ldc_w 266, 3) := by decide +kernel
theorem dJ_bitCount_14 : decode cJ_bitCount 14 = .ok (.iand, 1) := by decide +kernel
theorem dJ_bitCount_15 : decode cJ_bitCount 15 = .ok (.iload_n 0, 1) := by decide +kernel
theorem dJ_bitCount_16 : decode cJ_bitCount 16 = .ok (.iconst 2, 1) := by decide +kernel
theorem dJ_bitCount_17 : decode cJ_bitCount 17 = .ok (.iushr, 1) := by decide +kernel
theorem dJ_bitCount_18 : decode cJ_bitCount 18 = .ok (.ldc_w 266, 3) := by decide +kernel
theorem dJ_bitCount_21 : decode cJ_bitCount 21 = .ok (.iand, 1) := by decide +kernel
theorem dJ_bitCount_22 : decode cJ_bitCount 22 = .ok (.iadd, 1) := by decide +kernel
theorem dJ_bitCount_23 : decode cJ_bitCount 23 = .ok (.istore_n 0, 1) := by decide +kernel
theorem dJ_bitCount_24 : decode cJ_bitCount 24 = .ok (.iload_n 0, 1) := by decide +kernel
theorem dJ_bitCount_25 : decode cJ_bitCount 25 = .ok (.iload_n 0, 1) := by decide +kernel
theorem dJ_bitCount_26 : decode cJ_bitCount 26 = .ok (.iconst 4, 1) := by decide +kernel
theorem dJ_bitCount_27 : decode cJ_bitCount 27 = .ok (.iushr, 1) := by decide +kernel
theorem dJ_bitCount_28 : decode cJ_bitCount 28 = .ok (.iadd, 1) := by decide +kernel
theorem dJ_bitCount_29 : decode cJ_bitCount 29 = .ok (.ldc_w 267, 3) := by decide +kernel
theorem dJ_bitCount_32 : decode cJ_bitCount 32 = .ok (.iand, 1) := by decide +kernel
theorem dJ_bitCount_33 : decode cJ_bitCount 33 = .ok (.istore_n 0, 1) := by decide +kernel
theorem dJ_bitCount_34 : decode cJ_bitCount 34 = .ok (.iload_n 0, 1) := by decide +kernel
theorem dJ_bitCount_35 : decode cJ_bitCount 35 = .ok (.iload_n 0, 1) := by decide +kernel
theorem dJ_bitCount_36 : decode cJ_bitCount 36 = .ok (.bipush 8, 2) := by decide +kernel
theorem dJ_bitCount_38 : decode cJ_bitCount 38 = .ok (.iushr, 1) := by decide +kernel
theorem dJ_bitCount_39 : decode cJ_bitCount 39 = .ok (.iadd, 1) := by decide +kernel
theorem dJ_bitCount_40 : decode cJ_bitCount 40 = .ok (.istore_n 0, 1) := by decide +kernel
theorem dJ_bitCount_41 : decode cJ_bitCount 41 = .ok (.iload_n 0, 1) := by decide +kernel
theorem dJ_bitCount_42 : decode cJ_bitCount 42 = .ok (.iload_n 0, 1) := by decide +kernel
theorem dJ_bitCount_43 : decode cJ_bitCount 43 = .ok (.bipush 16, 2) := by decide +kernel
theorem dJ_bitCount_45 : decode cJ_bitCount 45 = .ok (.iushr, 1) := by decide +kernel
theorem dJ_bitCount_46 : decode cJ_bitCount 46 = .ok (.iadd, 1) := by decide +kernel
theorem dJ_bitCount_47 : decode cJ_bitCount 47 = .ok (.istore_n 0, 1) := by decide +kernel
theorem dJ_bitCount_48 : decode cJ_bitCount 48 = .ok (.iload_n 0, 1) := by decide +kernel
theorem dJ_bitCount_49 : decode cJ_bitCount 49 = .ok (.bipush 63, 2) := by decide +kernel
theorem dJ_bitCount_51 : decode cJ_bitCount 51 = .ok (.iand, 1) := by decide +kernel
theorem dJ_bitCount_52 : decode cJ_bitCount 52 = .ok (.ireturn, 1) := by decide +kernel
