theorem dX4_init_0 : decode cX4_init 0 = .ok (.aload_n 0, 1) := by decide +kernel
theorem dX4_init_1 : decode cX4_init 1 = .ok (.invokespecial 1, 3) := by decide +kernel
theorem dX4_init_4 : decode cX4_init 4 = .ok (.aload_n 0, 1) := by decide +kernel
theorem dX4_init_5 : decode cX4_init 5 = .ok (.sipush 813, 3) := by decide +kernel
theorem dX4_init_8 : decode cX4_init 8 = .ok (.newarray .int, 2) := by decide +kernel
theorem dX4_init_10 : decode cX4_init 10 = .ok (.putfield 7, 3) := by decide +kernel
theorem dX4_init_13 : decode cX4_init 13 = .ok (.aload_n 0, 1) := by decide +kernel
theorem dX4_init_14 : decode cX4_init 14 = .ok (.sipush 3252, 3) := by decide +kernel
theorem dX4_init_17 : decode cX4_init 17 = .ok (.newarray .int, 2) := by decide +kernel
theorem dX4_init_19 : decode cX4_init 19 = .ok (.putfield 13, 3) := by decide +kernel
theorem dX4_init_22 : decode cX4_init 22 = .ok (.aload_n 0, 1) := by decide +kernel
theorem dX4_init_23 : decode cX4_init 23 = .ok (.sipush 813, 3) := by decide +kernel
theorem dX4_init_26 : decode cX4_init 26 = .ok (.newarray .int, 2) := by decide +kernel
theorem dX4_init_28 : decode cX4_init 28 = .ok (.putfield 16, 3) := by decide +kernel
theorem dX4_init_31 : decode cX4_init 31 = .ok (.aload_n 0, 1) := by decide +kernel
theorem dX4_init_32 : decode cX4_init 32 = .ok (.sipush 813, 3) := by decide +kernel
theorem dX4_init_35 : decode cX4_init 35 = .ok (.newarray .int, 2) := by decide +kernel
theorem dX4_init_37 : decode cX4_init 37 = .ok (.putfield 19, 3) := by decide +kernel
theorem dX4_init_40 : decode cX4_init 40 = .ok (.aload_n 0, 1) := by decide +kernel
theorem dX4_init_41 : decode cX4_init 41 = .ok (.bipush 60, 2) := by decide +kernel
theorem dX4_init_43 : decode cX4_init 43 = .ok (.newarray .char, 2) := by decide +kernel
theorem dX4_init_45 : decode cX4_init 45 = .ok (.putfield 22, 3) := by decide +kernel
theorem dX4_init_48 : decode cX4_init 48 = .ok (.aload_n 0, 1) := by decide +kernel
theorem dX4_init_49 : decode cX4_init 49 = .ok (.iconst 3, 1) := by decide +kernel
theorem dX4_init_50 : decode cX4_init 50 = .ok (.newarray .int, 2) := by decide +kernel
theorem dX4_init_52 : decode cX4_init 52 = .ok (.putfield 26, 3) := by decide +kernel
theorem dX4_init_55 : decode cX4_init 55 = .ok (.aload_n 0, 1) := by decide +kernel
theorem dX4_init_56 : decode cX4_init 56 = .ok (.getfield 7, 3) := by decide +kernel
theorem dX4_init_59 : decode cX4_init 59 = .ok (.iconst 2, 1) := by decide +kernel
theorem dX4_init_60 : decode cX4_init 60 = .ok (.bipush 10, 2) := by decide +kernel
theorem dX4_init_62 : decode cX4_init 62 = .ok (.iastore, 1) := by decide +kernel
theorem dX4_init_63 : decode cX4_init 63 = .ok (.return_, 1) := by decide +kernel
theorem dX4_in_0 : decode cX4_in 0 = .ok (.iload_n 0, 1) := by decide +kernel
theorem dX4_in_1 : decode cX4_in 1 = .ok (.iload_n 1, 1) := by decide +kernel
theorem dX4_in_2 : decode cX4_in 2 = .ok (.if_icmp .lt 12, 3) := by decide +kernel
theorem dX4_in_5 : decode cX4_in 5 = .ok (.iload_n 0, 1) := by decide +kernel
theorem dX4_in_6 : decode cX4_in 6 = .ok (.iload_n 2, 1) := by decide +kernel
theorem dX4_in_7 : decode cX4_in 7 = .ok (.if_icmp .gt 7, 3) := by decide +kernel
theorem dX4_in_10 : decode cX4_in 10 = .ok (.iconst 1, 1) := by decide +kernel
theorem dX4_in_11 : decode cX4_in 11 = .ok (.goto 4, 3) := by decide +kernel
theorem dX4_in_14 : decode cX4_in 14 = .ok (.iconst 0, 1) := by decide +kernel
theorem dX4_in_15 : decode cX4_in 15 = .ok (.ireturn, 1) := by decide +kernel
theorem dX4_vi_0 : decode cX4_vi 0 = .ok (.aload_n 0, 1) := by decide +kernel
theorem dX4_vi_1 : decode cX4_vi 1 = .ok (.getfield 7, 3) := by decide +kernel
theorem dX4_vi_4 : decode cX4_vi 4 = .ok (.iconst 5, 1) := by decide +kernel
theorem dX4_vi_5 : decode cX4_vi 5 = .ok (.iconst 4, 1) := by decide +kernel
theorem dX4_vi_6 : decode cX4_vi 6 = .ok (.iload_n 1, 1) := by decide +kernel
theorem dX4_vi_7 : decode cX4_vi 7 = .ok (.imul, 1) := by decide +kernel
theorem dX4_vi_8 : decode cX4_vi 8 = .ok (.iadd, 1) := by decide +kernel
theorem dX4_vi_9 : decode cX4_vi 9 = .ok (.iload_n 2, 1) := by decide +kernel
theorem dX4_vi_10 : decode cX4_vi 10 = .ok (.iadd, 1) := by decide +kernel
theorem dX4_vi_11 : decode cX4_vi 11 = .ok (.iaload, 1) := by decide +kernel
theorem dX4_vi_12 : decode cX4_vi 12 = .ok (.ireturn, 1) := by decide +kernel
theorem dX4_place_0 : decode cX4_place 0 = .ok (.sipush 225, 3) := by decide +kernel
theorem dX4_place_3 : decode cX4_place 3 = .ok (.bipush 84, 2) := by decide +kernel
theorem dX4_place_5 : decode cX4_place 5 = .ok (.iload_n 0, 1) := by decide +kernel
theorem dX4_place_6 : decode cX4_place 6 = .ok (.imul, 1) := by decide +kernel
theorem dX4_place_7 : decode cX4_place 7 = .ok (.iadd, 1) := by decide +kernel
theorem dX4_place_8 : decode cX4_place 8 = .ok (.bipush 7, 2) := by decide +kernel
theorem dX4_place_10 : decode cX4_place 10 = .ok (.iload_n 1, 1) := by decide +kernel
theorem dX4_place_11 : decode cX4_place 11 = .ok (.imul, 1) := by decide +kernel
theorem dX4_place_12 : decode cX4_place 12 = .ok (.iadd, 1) := by decide +kernel
theorem dX4_place_13 : decode cX4_place 13 = .ok (.ireturn, 1) := by decide +kernel
theorem dX4_en_0 : decode cX4_en 0 = .ok (.aload_n 0, 1) := by decide +kernel
theorem dX4_en_1 : decode cX4_en 1 = .ok (.getfield 7, 3) := by decide +kernel
theorem dX4_en_4 : decode cX4_en 4 = .ok (.iload_n 1, 1) := by decide +kernel
theorem dX4_en_5 : decode cX4_en 5 = .ok (.iload_n 2, 1) := by decide +kernel
theorem dX4_en_6 : decode cX4_en 6 = .ok (.invokestatic 29, 3) := by decide +kernel
theorem dX4_en_9 : decode cX4_en 9 = .ok (.iload_n 3, 1) := by decide +kernel
theorem dX4_en_10 : decode cX4_en 10 = .ok (.iadd, 1) := by decide +kernel
theorem dX4_en_11 : decode cX4_en 11 = .ok (.iaload, 1) := by decide +kernel
theorem dX4_en_12 : decode cX4_en 12 = .ok (.ireturn, 1) := by decide +kernel
theorem dX4_isVillager_0 : decode cX4_isVillager 0 = .ok (.iload_n 1, 1) := by decide +kernel
theorem dX4_isVillager_1 : decode cX4_isVillager 1 = .ok (.iconst 0, 1) := by decide +kernel
theorem dX4_isVillager_2 : decode cX4_isVillager 2 = .ok (.aload_n 0, 1) := by decide +kernel
theorem dX4_isVillager_3 : decode cX4_isVillager 3 = .ok (.getfield 7, 3) := by decide +kernel
theorem dX4_isVillager_6 : decode cX4_isVillager 6 = .ok (.iconst 0, 1) := by decide +kernel
theorem dX4_isVillager_7 : decode cX4_isVillager 7 = .ok (.iaload, 1) := by decide +kernel
theorem dX4_isVillager_8 : decode cX4_isVillager 8 = .ok (.iconst 1, 1) := by decide +kernel
theorem dX4_isVillager_9 : decode cX4_isVillager 9 = .ok (.isub, 1) := by decide +kernel
theorem dX4_isVillager_10 : decode cX4_isVillager 10 = .ok (.invokestatic 33, 3) := by decide +kernel
theorem dX4_isVillager_13 : decode cX4_isVillager 13 = .ok (.ireturn, 1) := by decide +kernel
theorem dX4_isTopic_0 : decode cX4_isTopic 0 = .ok (.iload_n 0, 1) := by decide +kernel
theorem dX4_isTopic_1 : decode cX4_isTopic 1 = .ok (.iconst 0, 1) := by decide +kernel
theorem dX4_isTopic_2 : decode cX4_isTopic 2 = .ok (.bipush 11, 2) := by decide +kernel
theorem dX4_isTopic_4 : decode cX4_isTopic 4 = .ok (.invokestatic 33, 3) := by decide +kernel
theorem dX4_isTopic_7 : decode cX4_isTopic 7 = .ok (.ireturn, 1) := by decide +kernel
theorem dX4_isAwake_0 : decode cX4_isAwake 0 = .ok (.aload_n 0, 1) := by decide +kernel
theorem dX4_isAwake_1 : decode cX4_isAwake 1 = .ok (.iload_n 1, 1) := by decide +kernel
theorem dX4_isAwake_2 : decode cX4_isAwake 2 = .ok (.iconst 0, 1) := by decide +kernel
theorem dX4_isAwake_3 : decode cX4_isAwake 3 = .ok (.invokevirtual 37, 3) := by decide +kernel
theorem dX4_isAwake_6 : decode cX4_isAwake 6 = .ok (.ifCond .ne 7, 3) := by decide +kernel
theorem dX4_isAwake_9 : decode cX4_isAwake 9 = .ok (.iconst 1, 1) := by decide +kernel
theorem dX4_isAwake_10 : decode cX4_isAwake 10 = .ok (.goto 4, 3) := by decide +kernel
theorem dX4_isAwake_13 : decode cX4_isAwake 13 = .ok (.iconst 0, 1) := by decide +kernel
theorem dX4_isAwake_14 : decode cX4_isAwake 14 = .ok (.ireturn, 1) := by decide +kernel
theorem dX4_isGone_0 : decode cX4_isGone 0 = .ok (.aload_n 0, 1) := by decide +kernel
theorem dX4_isGone_1 : decode cX4_isGone 1 = .ok (.iload_n 1, 1) := by decide +kernel
theorem dX4_isGone_2 : decode cX4_isGone 2 = .ok (.iconst 0, 1) := by decide +kernel
theorem dX4_isGone_3 : decode cX4_isGone 3 = .ok (.invokevirtual 37, 3) := by decide +kernel
theorem dX4_isGone_6 : decode cX4_isGone 6 = .ok (.iconst 2, 1) := by decide +kernel
theorem dX4_isGone_7 : decode cX4_isGone 7 = .ok (.if_icmp .ne 7, 3) := by decide +kernel
theorem dX4_isGone_10 : decode cX4_isGone 10 = .ok (.iconst 1, 1) := by decide +kernel
theorem dX4_isGone_11 : decode cX4_isGone 11 = .ok (.goto 4, 3) := by decide +kernel
theorem dX4_isGone_14 : decode cX4_isGone 14 = .ok (.iconst 0, 1) := by decide +kernel
theorem dX4_isGone_15 : decode cX4_isGone 15 = .ok (.ireturn, 1) := by decide +kernel
theorem dX4_many_0 : decode cX4_many 0 = .ok (.iconst 0, 1) := by decide +kernel
theorem dX4_many_1 : decode cX4_many 1 = .ok (.istore_n 2, 1) := by decide +kernel
theorem dX4_many_2 : decode cX4_many 2 = .ok (.iconst 0, 1) := by decide +kernel
theorem dX4_many_3 : decode cX4_many 3 = .ok (.istore_n 3, 1) := by decide +kernel
theorem dX4_many_4 : decode cX4_many 4 = .ok (.iload_n 3, 1) := by decide +kernel
theorem dX4_many_5 : decode cX4_many 5 = .ok (.aload_n 0, 1) := by decide +kernel
theorem dX4_many_6 : decode cX4_many 6 = .ok (.getfield 7, 3) := by decide +kernel
theorem dX4_many_9 : decode cX4_many 9 = .ok (.iconst 0, 1) := by decide +kernel
theorem dX4_many_10 : decode cX4_many 10 = .ok (.iaload, 1) := by decide +kernel
theorem dX4_many_11 : decode cX4_many 11 = .ok (.if_icmp .ge 27, 3) := by decide +kernel
theorem dX4_many_14 : decode cX4_many 14 = .ok (.iload_n 2, 1) := by decide +kernel
theorem dX4_many_15 : decode cX4_many 15 = .ok (.aload_n 0, 1) := by decide +kernel
theorem dX4_many_16 : decode cX4_many 16 = .ok (.iload_n 3, 1) := by decide +kernel
theorem dX4_many_17 : decode cX4_many 17 = .ok (.iconst 0, 1) := by decide +kernel
theorem dX4_many_18 : decode cX4_many 18 = .ok (.invokevirtual 37, 3) := by decide +kernel
theorem dX4_many_21 : decode cX4_many 21 = .ok (.iload_n 1, 1) := by decide +kernel
theorem dX4_many_22 : decode cX4_many 22 = .ok (.if_icmp .ne 7, 3) := by decide +kernel
theorem dX4_many_25 : decode cX4_many 25 = .ok (.iconst 1, 1) := by decide +kernel
theorem dX4_many_26 : decode cX4_many 26 = .ok (.goto 4, 3) := by decide +kernel
theorem dX4_many_29 : decode cX4_many 29 = .ok (.iconst 0, 1) := by decide +kernel
theorem dX4_many_30 : decode cX4_many 30 = .ok (.iadd, 1) := by decide +kernel
theorem dX4_many_31 : decode cX4_many 31 = .ok (.istore_n 2, 1) := by decide +kernel
theorem dX4_many_32 : decode cX4_many 32 = .ok (.iinc 3 1, 3) := by decide +kernel
theorem dX4_many_35 : decode cX4_many 35 = .ok (.goto (-31), 3) := by decide +kernel
theorem dX4_many_38 : decode cX4_many 38 = .ok (.iload_n 2, 1) := by decide +kernel
theorem dX4_many_39 : decode cX4_many 39 = .ok (.ireturn, 1) := by decide +kernel
theorem dX4_keeps_0 : decode cX4_keeps 0 = .ok (.iconst 0, 1) := by decide +kernel
theorem dX4_keeps_1 : decode cX4_keeps 1 = .ok (.istore_n 1, 1) := by decide +kernel
theorem dX4_keeps_2 : decode cX4_keeps 2 = .ok (.iload_n 1, 1) := by decide +kernel
theorem dX4_keeps_3 : decode cX4_keeps 3 = .ok (.sipush 813, 3) := by decide +kernel
theorem dX4_keeps_6 : decode cX4_keeps 6 = .ok (.if_icmp .ge 21, 3) := by decide +kernel
theorem dX4_keeps_9 : decode cX4_keeps 9 = .ok (.aload_n 0, 1) := by decide +kernel
theorem dX4_keeps_10 : decode cX4_keeps 10 = .ok (.getfield 16, 3) := by decide +kernel
theorem dX4_keeps_13 : decode cX4_keeps 13 = .ok (.iload_n 1, 1) := by decide +kernel
theorem dX4_keeps_14 : decode cX4_keeps 14 = .ok (.aload_n 0, 1) := by decide +kernel
theorem dX4_keeps_15 : decode cX4_keeps 15 = .ok (.getfield 7, 3) := by decide +kernel
theorem dX4_keeps_18 : decode cX4_keeps 18 = .ok (.iload_n 1, 1) := by decide +kernel
theorem dX4_keeps_19 : decode cX4_keeps 19 = .ok (.iaload, 1) := by decide +kernel
theorem dX4_keeps_20 : decode cX4_keeps 20 = .ok (.iastore, 1) := by decide +kernel
theorem dX4_keeps_21 : decode cX4_keeps 21 = .ok (.iinc 1 1, 3) := by decide +kernel
theorem dX4_keeps_24 : decode cX4_keeps 24 = .ok (.goto (-22), 3) := by decide +kernel
theorem dX4_keeps_27 : decode cX4_keeps 27 = .ok (.return_, 1) := by decide +kernel
theorem dX4_acted_0 : decode cX4_acted 0 = .ok (.iload_n 1, 1) := by decide +kernel
theorem dX4_acted_1 : decode cX4_acted 1 = .ok (.ldc 40, 2) := by decide +kernel
theorem dX4_acted_3 : decode cX4_acted 3 = .ok (.if_icmp .le 98, 3) := by decide +kernel
theorem dX4_acted_6 : decode cX4_acted 6 = .ok (.aload_n 0, 1) := by decide +kernel
theorem dX4_acted_7 : decode cX4_acted 7 = .ok (.getfield 41, 3) := by decide +kernel
theorem dX4_acted_10 : decode cX4_acted 10 = .ok (.iconst 4, 1) := by decide +kernel
theorem dX4_acted_11 : decode cX4_acted 11 = .ok (.if_icmp .ne 44, 3) := by decide +kernel
theorem dX4_acted_14 : decode cX4_acted 14 = .ok (.iconst 0, 1) := by decide +kernel
theorem dX4_acted_15 : decode cX4_acted 15 = .ok (.istore_n 2, 1) := by decide +kernel
theorem dX4_acted_16 : decode cX4_acted 16 = .ok (.iload_n 2, 1) := by decide +kernel
theorem dX4_acted_17 : decode cX4_acted 17 = .ok (.sipush 2439, 3) := by decide +kernel
theorem dX4_acted_20 : decode cX4_acted 20 = .ok (.if_icmp .ge 25, 3) := by decide +kernel
theorem dX4_acted_23 : decode cX4_acted 23 = .ok (.aload_n 0, 1) := by decide +kernel
theorem dX4_acted_24 : decode cX4_acted 24 = .ok (.getfield 13, 3) := by decide +kernel
theorem dX4_acted_27 : decode cX4_acted 27 = .ok (.iload_n 2, 1) := by decide +kernel
theorem dX4_acted_28 : decode cX4_acted 28 = .ok (.aload_n 0, 1) := by decide +kernel
theorem dX4_acted_29 : decode cX4_acted 29 = .ok (.getfield 13, 3) := by decide +kernel
theorem dX4_acted_32 : decode cX4_acted 32 = .ok (.iload_n 2, 1) := by decide +kernel
theorem dX4_acted_33 : decode cX4_acted 33 = .ok (.sipush 813, 3) := by decide +kernel
theorem dX4_acted_36 : decode cX4_acted 36 = .ok (.iadd, 1) := by decide +kernel
theorem dX4_acted_37 : decode cX4_acted 37 = .ok (.iaload, 1) := by decide +kernel
theorem dX4_acted_38 : decode cX4_acted 38 = .ok (.iastore, 1) := by decide +kernel
theorem dX4_acted_39 : decode cX4_acted 39 = .ok (.iinc 2 1, 3) := by decide +kernel
theorem dX4_acted_42 : decode cX4_acted 42 = .ok (.goto (-26), 3) := by decide +kernel
theorem dX4_acted_45 : decode cX4_acted 45 = .ok (.aload_n 0, 1) := by decide +kernel
theorem dX4_acted_46 : decode cX4_acted 46 = .ok (.dup, 1) := by decide +kernel
theorem dX4_acted_47 : decode cX4_acted 47 = .ok (.getfield 41, 3) := by decide +kernel
theorem dX4_acted_50 : decode cX4_acted 50 = .ok (.iconst 1, 1) := by decide +kernel
theorem dX4_acted_51 : decode cX4_acted 51 = .ok (.isub, 1) := by decide +kernel
theorem dX4_acted_52 : decode cX4_acted 52 = .ok (.putfield 41, 3) := by decide +kernel
theorem dX4_acted_55 : decode cX4_acted 55 = .ok (.iconst 0, 1) := by decide +kernel
theorem dX4_acted_56 : decode cX4_acted 56 = .ok (.istore_n 2, 1) := by decide +kernel
theorem dX4_acted_57 : decode cX4_acted 57 = .ok (.iload_n 2, 1) := by decide +kernel
theorem dX4_acted_58 : decode cX4_acted 58 = .ok (.sipush 813, 3) := by decide +kernel
theorem dX4_acted_61 : decode cX4_acted 61 = .ok (.if_icmp .ge 30, 3) := by decide +kernel
theorem dX4_acted_64 : decode cX4_acted 64 = .ok (.aload_n 0, 1) := by decide +kernel
theorem dX4_acted_65 : decode cX4_acted 65 = .ok (.getfield 13, 3) := by decide +kernel
theorem dX4_acted_68 : decode cX4_acted 68 = .ok (.sipush 813, 3) := by decide +kernel
theorem dX4_acted_71 : decode cX4_acted 71 = .ok (.aload_n 0, 1) := by decide +kernel
theorem dX4_acted_72 : decode cX4_acted 72 = .ok (.getfield 41, 3) := by decide +kernel
theorem dX4_acted_75 : decode cX4_acted 75 = .ok (.imul, 1) := by decide +kernel
theorem dX4_acted_76 : decode cX4_acted 76 = .ok (.iload_n 2, 1) := by decide +kernel
theorem dX4_acted_77 : decode cX4_acted 77 = .ok (.iadd, 1) := by decide +kernel
theorem dX4_acted_78 : decode cX4_acted 78 = .ok (.aload_n 0, 1) := by decide +kernel
theorem dX4_acted_79 : decode cX4_acted 79 = .ok (.getfield 16, 3) := by decide +kernel
theorem dX4_acted_82 : decode cX4_acted 82 = .ok (.iload_n 2, 1) := by decide +kernel
theorem dX4_acted_83 : decode cX4_acted 83 = .ok (.iaload, 1) := by decide +kernel
theorem dX4_acted_84 : decode cX4_acted 84 = .ok (.iastore, 1) := by decide +kernel
theorem dX4_acted_85 : decode cX4_acted 85 = .ok (.iinc 2 1, 3) := by decide +kernel
theorem dX4_acted_88 : decode cX4_acted 88 = .ok (.goto (-31), 3) := by decide +kernel
theorem dX4_acted_91 : decode cX4_acted 91 = .ok (.aload_n 0, 1) := by decide +kernel
theorem dX4_acted_92 : decode cX4_acted 92 = .ok (.dup, 1) := by decide +kernel
theorem dX4_acted_93 : decode cX4_acted 93 = .ok (.getfield 41, 3) := by decide +kernel
theorem dX4_acted_96 : decode cX4_acted 96 = .ok (.iconst 1, 1) := by decide +kernel
theorem dX4_acted_97 : decode cX4_acted 97 = .ok (.iadd, 1) := by decide +kernel
theorem dX4_acted_98 : decode cX4_acted 98 = .ok (.putfield 41, 3) := by decide +kernel
theorem dX4_acted_101 : decode cX4_acted 101 = .ok (.iload_n 1, 1) := by decide +kernel
theorem dX4_acted_102 : decode cX4_acted 102 = .ok (.ireturn, 1) := by decide +kernel
theorem dX4_puts_0 : decode cX4_puts 0 = .ok (.iconst 0, 1) := by decide +kernel
theorem dX4_puts_1 : decode cX4_puts 1 = .ok (.istore_n 1, 1) := by decide +kernel
theorem dX4_puts_2 : decode cX4_puts 2 = .ok (.iload_n 1, 1) := by decide +kernel
theorem dX4_puts_3 : decode cX4_puts 3 = .ok (.sipush 813, 3) := by decide +kernel
theorem dX4_puts_6 : decode cX4_puts 6 = .ok (.if_icmp .ge 21, 3) := by decide +kernel
theorem dX4_puts_9 : decode cX4_puts 9 = .ok (.aload_n 0, 1) := by decide +kernel
theorem dX4_puts_10 : decode cX4_puts 10 = .ok (.getfield 19, 3) := by decide +kernel
theorem dX4_puts_13 : decode cX4_puts 13 = .ok (.iload_n 1, 1) := by decide +kernel
theorem dX4_puts_14 : decode cX4_puts 14 = .ok (.aload_n 0, 1) := by decide +kernel
theorem dX4_puts_15 : decode cX4_puts 15 = .ok (.getfield 7, 3) := by decide +kernel
theorem dX4_puts_18 : decode cX4_puts 18 = .ok (.iload_n 1, 1) := by decide +kernel
theorem dX4_puts_19 : decode cX4_puts 19 = .ok (.iaload, 1) := by decide +kernel
theorem dX4_puts_20 : decode cX4_puts 20 = .ok (.iastore, 1) := by decide +kernel
theorem dX4_puts_21 : decode cX4_puts 21 = .ok (.iinc 1 1, 3) := by decide +kernel
theorem dX4_puts_24 : decode cX4_puts 24 = .ok (.goto (-22), 3) := by decide +kernel
theorem dX4_puts_27 : decode cX4_puts 27 = .ok (.return_, 1) := by decide +kernel
theorem dX4_restores_0 : decode cX4_restores 0 = .ok (.iconst 0, 1) := by decide +kernel
theorem dX4_restores_1 : decode cX4_restores 1 = .ok (.istore_n 1, 1) := by decide +kernel
theorem dX4_restores_2 : decode cX4_restores 2 = .ok (.iload_n 1, 1) := by decide +kernel
theorem dX4_restores_3 : decode cX4_restores 3 = .ok (.sipush 813, 3) := by decide +kernel
theorem dX4_restores_6 : decode cX4_restores 6 = .ok (.if_icmp .ge 21, 3) := by decide +kernel
theorem dX4_restores_9 : decode cX4_restores 9 = .ok (.aload_n 0, 1) := by decide +kernel
theorem dX4_restores_10 : decode cX4_restores 10 = .ok (.getfield 7, 3) := by decide +kernel
theorem dX4_restores_13 : decode cX4_restores 13 = .ok (.iload_n 1, 1) := by decide +kernel
theorem dX4_restores_14 : decode cX4_restores 14 = .ok (.aload_n 0, 1) := by decide +kernel
theorem dX4_restores_15 : decode cX4_restores 15 = .ok (.getfield 19, 3) := by decide +kernel
theorem dX4_restores_18 : decode cX4_restores 18 = .ok (.iload_n 1, 1) := by decide +kernel
theorem dX4_restores_19 : decode cX4_restores 19 = .ok (.iaload, 1) := by decide +kernel
theorem dX4_restores_20 : decode cX4_restores 20 = .ok (.iastore, 1) := by decide +kernel
theorem dX4_restores_21 : decode cX4_restores 21 = .ok (.iinc 1 1, 3) := by decide +kernel
theorem dX4_restores_24 : decode cX4_restores 24 = .ok (.goto (-22), 3) := by decide +kernel
theorem dX4_restores_27 : decode cX4_restores 27 = .ok (.return_, 1) := by decide +kernel
theorem dX4_villager_0 : decode cX4_villager 0 = .ok (.aload_n 0, 1) := by decide +kernel
theorem dX4_villager_1 : decode cX4_villager 1 = .ok (.getfield 7, 3) := by decide +kernel
theorem dX4_villager_4 : decode cX4_villager 4 = .ok (.iconst 0, 1) := by decide +kernel
theorem dX4_villager_5 : decode cX4_villager 5 = .ok (.iaload, 1) := by decide +kernel
theorem dX4_villager_6 : decode cX4_villager 6 = .ok (.bipush 7, 2) := by decide +kernel
theorem dX4_villager_8 : decode cX4_villager 8 = .ok (.if_icmp .ne 6, 3) := by decide +kernel
theorem dX4_villager_11 : decode cX4_villager 11 = .ok (.ldc 45, 2) := by decide +kernel
theorem dX4_villager_13 : decode cX4_villager 13 = .ok (.ireturn, 1) := by decide +kernel
theorem dX4_villager_14 : decode cX4_villager 14 = .ok (.aload_n 0, 1) := by decide +kernel
theorem dX4_villager_15 : decode cX4_villager 15 = .ok (.invokevirtual 46, 3) := by decide +kernel
theorem dX4_villager_18 : decode cX4_villager 18 = .ok (.aload_n 0, 1) := by decide +kernel
theorem dX4_villager_19 : decode cX4_villager 19 = .ok (.getfield 7, 3) := by decide +kernel
theorem dX4_villager_22 : decode cX4_villager 22 = .ok (.iconst 0, 1) := by decide +kernel
theorem dX4_villager_23 : decode cX4_villager 23 = .ok (.iaload, 1) := by decide +kernel
theorem dX4_villager_24 : decode cX4_villager 24 = .ok (.istore_n 1, 1) := by decide +kernel
theorem dX4_villager_25 : decode cX4_villager 25 = .ok (.iconst 0, 1) := by decide +kernel
theorem dX4_villager_26 : decode cX4_villager 26 = .ok (.istore_n 2, 1) := by decide +kernel
theorem dX4_villager_27 : decode cX4_villager 27 = .ok (.iload_n 2, 1) := by decide +kernel
theorem dX4_villager_28 : decode cX4_villager 28 = .ok (.iconst 4, 1) := by decide +kernel
theorem dX4_villager_29 : decode cX4_villager 29 = .ok (.if_icmp .ge 22, 3) := by decide +kernel
theorem dX4_villager_32 : decode cX4_villager 32 = .ok (.aload_n 0, 1) := by decide +kernel
theorem dX4_villager_33 : decode cX4_villager 33 = .ok (.getfield 7, 3) := by decide +kernel
theorem dX4_villager_36 : decode cX4_villager 36 = .ok (.iconst 5, 1) := by decide +kernel
theorem dX4_villager_37 : decode cX4_villager 37 = .ok (.iconst 4, 1) := by decide +kernel
theorem dX4_villager_38 : decode cX4_villager 38 = .ok (.iload_n 1, 1) := by decide +kernel
theorem dX4_villager_39 : decode cX4_villager 39 = .ok (.imul, 1) := by decide +kernel
theorem dX4_villager_40 : decode cX4_villager 40 = .ok (.iadd, 1) := by decide +kernel
theorem dX4_villager_41 : decode cX4_villager 41 = .ok (.iload_n 2, 1) := by decide +kernel
theorem dX4_villager_42 : decode cX4_villager 42 = .ok (.iadd, 1) := by decide +kernel
theorem dX4_villager_43 : decode cX4_villager 43 = .ok (.iconst 0, 1) := by decide +kernel
theorem dX4_villager_44 : decode cX4_villager 44 = .ok (.iastore, 1) := by decide +kernel
theorem dX4_villager_45 : decode cX4_villager 45 = .ok (.iinc 2 1, 3) := by decide +kernel
theorem dX4_villager_48 : decode cX4_villager 48 = .ok (.goto (-21), 3) := by decide +kernel
theorem dX4_villager_51 : decode cX4_villager 51 = .ok (.aload_n 0, 1) := by decide +kernel
theorem dX4_villager_52 : decode cX4_villager 52 = .ok (.getfield 7, 3) := by decide +kernel
theorem dX4_villager_55 : decode cX4_villager 55 = .ok (.iconst 0, 1) := by decide +kernel
theorem dX4_villager_56 : decode cX4_villager 56 = .ok (.dup2, 1) := by decide +kernel
theorem dX4_villager_57 : decode cX4_villager 57 = .ok (.iaload, 1) := by decide +kernel
theorem dX4_villager_58 : decode cX4_villager 58 = .ok (.iconst 1, 1) := by decide +kernel
theorem dX4_villager_59 : decode cX4_villager 59 = .ok (.iadd, 1) := by decide +kernel
theorem dX4_villager_60 : decode cX4_villager 60 = .ok (.iastore, 1) := by decide +kernel
theorem dX4_villager_61 : decode cX4_villager 61 = .ok (.aload_n 0, 1) := by decide +kernel
theorem dX4_villager_62 : decode cX4_villager 62 = .ok (.iload_n 1, 1) := by decide +kernel
theorem dX4_villager_63 : decode cX4_villager 63 = .ok (.invokevirtual 49, 3) := by decide +kernel
theorem dX4_villager_66 : decode cX4_villager 66 = .ok (.ireturn, 1) := by decide +kernel
theorem dX4_sleeps_0 : decode cX4_sleeps 0 = .ok (.aload_n 0, 1) := by decide +kernel
theorem dX4_sleeps_1 : decode cX4_sleeps 1 = .ok (.iload_n 1, 1) := by decide +kernel
theorem dX4_sleeps_2 : decode cX4_sleeps 2 = .ok (.invokevirtual 53, 3) := by decide +kernel
theorem dX4_sleeps_5 : decode cX4_sleeps 5 = .ok (.ifCond .ne 6, 3) := by decide +kernel
theorem dX4_sleeps_8 : decode cX4_sleeps 8 = .ok (.ldc 40, 2) := by decide +kernel
theorem dX4_sleeps_10 : decode cX4_sleeps 10 = .ok (.ireturn, 1) := by decide +kernel
theorem dX4_sleeps_11 : decode cX4_sleeps 11 = .ok (.aload_n 0, 1) := by decide +kernel
theorem dX4_sleeps_12 : decode cX4_sleeps 12 = .ok (.iload_n 1, 1) := by decide +kernel
theorem dX4_sleeps_13 : decode cX4_sleeps 13 = .ok (.invokevirtual 57, 3) := by decide +kernel
theorem dX4_sleeps_16 : decode cX4_sleeps 16 = .ok (.ifCond .ne 6, 3) := by decide +kernel
theorem dX4_sleeps_19 : decode cX4_sleeps 19 = .ok (.ldc 60, 2) := by decide +kernel
theorem dX4_sleeps_21 : decode cX4_sleeps 21 = .ok (.ireturn, 1) := by decide +kernel
theorem dX4_sleeps_22 : decode cX4_sleeps 22 = .ok (.aload_n 0, 1) := by decide +kernel
theorem dX4_sleeps_23 : decode cX4_sleeps 23 = .ok (.getfield 7, 3) := by decide +kernel
theorem dX4_sleeps_26 : decode cX4_sleeps 26 = .ok (.iconst 5, 1) := by decide +kernel
theorem dX4_sleeps_27 : decode cX4_sleeps 27 = .ok (.iconst 4, 1) := by decide +kernel
theorem dX4_sleeps_28 : decode cX4_sleeps 28 = .ok (.iload_n 1, 1) := by decide +kernel
theorem dX4_sleeps_29 : decode cX4_sleeps 29 = .ok (.imul, 1) := by decide +kernel
theorem dX4_sleeps_30 : decode cX4_sleeps 30 = .ok (.iadd, 1) := by decide +kernel
theorem dX4_sleeps_31 : decode cX4_sleeps 31 = .ok (.iconst 0, 1) := by decide +kernel
theorem dX4_sleeps_32 : decode cX4_sleeps 32 = .ok (.iadd, 1) := by decide +kernel
theorem dX4_sleeps_33 : decode cX4_sleeps 33 = .ok (.iconst 1, 1) := by decide +kernel
theorem dX4_sleeps_34 : decode cX4_sleeps 34 = .ok (.iastore, 1) := by decide +kernel
theorem dX4_sleeps_35 : decode cX4_sleeps 35 = .ok (.aload_n 0, 1) := by decide +kernel
theorem dX4_sleeps_36 : decode cX4_sleeps 36 = .ok (.getfield 7, 3) := by decide +kernel
theorem dX4_sleeps_39 : decode cX4_sleeps 39 = .ok (.iconst 5, 1) := by decide +kernel
theorem dX4_sleeps_40 : decode cX4_sleeps 40 = .ok (.iconst 4, 1) := by decide +kernel
theorem dX4_sleeps_41 : decode cX4_sleeps 41 = .ok (.iload_n 1, 1) := by decide +kernel
theorem dX4_sleeps_42 : decode cX4_sleeps 42 = .ok (.imul, 1) := by decide +kernel
theorem dX4_sleeps_43 : decode cX4_sleeps 43 = .ok (.iadd, 1) := by decide +kernel
theorem dX4_sleeps_44 : decode cX4_sleeps 44 = .ok (.iconst 3, 1) := by decide +kernel
theorem dX4_sleeps_45 : decode cX4_sleeps 45 = .ok (.iadd, 1) := by decide +kernel
theorem dX4_sleeps_46 : decode cX4_sleeps 46 = .ok (.aload_n 0, 1) := by decide +kernel
theorem dX4_sleeps_47 : decode cX4_sleeps 47 = .ok (.getfield 7, 3) := by decide +kernel
theorem dX4_sleeps_50 : decode cX4_sleeps 50 = .ok (.iconst 1, 1) := by decide +kernel
theorem dX4_sleeps_51 : decode cX4_sleeps 51 = .ok (.iaload, 1) := by decide +kernel
theorem dX4_sleeps_52 : decode cX4_sleeps 52 = .ok (.iastore, 1) := by decide +kernel
theorem dX4_sleeps_53 : decode cX4_sleeps 53 = .ok (.aload_n 0, 1) := by decide +kernel
theorem dX4_sleeps_54 : decode cX4_sleeps 54 = .ok (.iconst 0, 1) := by decide +kernel
theorem dX4_sleeps_55 : decode cX4_sleeps 55 = .ok (.invokevirtual 61, 3) := by decide +kernel
theorem dX4_sleeps_58 : decode cX4_sleeps 58 = .ok (.ireturn, 1) := by decide +kernel
theorem dX4_sleep_0 : decode cX4_sleep 0 = .ok (.aload_n 0, 1) := by decide +kernel
theorem dX4_sleep_1 : decode cX4_sleep 1 = .ok (.invokevirtual 46, 3) := by decide +kernel
theorem dX4_sleep_4 : decode cX4_sleep 4 = .ok (.aload_n 0, 1) := by decide +kernel
theorem dX4_sleep_5 : decode cX4_sleep 5 = .ok (.aload_n 0, 1) := by decide +kernel
theorem dX4_sleep_6 : decode cX4_sleep 6 = .ok (.iload_n 1, 1) := by decide +kernel
theorem dX4_sleep_7 : decode cX4_sleep 7 = .ok (.invokevirtual 64, 3) := by decide +kernel
theorem dX4_sleep_10 : decode cX4_sleep 10 = .ok (.invokevirtual 49, 3) := by decide +kernel
theorem dX4_sleep_13 : decode cX4_sleep 13 = .ok (.ireturn, 1) := by decide +kernel
theorem dX4_wakes_0 : decode cX4_wakes 0 = .ok (.aload_n 0, 1) := by decide +kernel
theorem dX4_wakes_1 : decode cX4_wakes 1 = .ok (.iload_n 1, 1) := by decide +kernel
theorem dX4_wakes_2 : decode cX4_wakes 2 = .ok (.invokevirtual 53, 3) := by decide +kernel
theorem dX4_wakes_5 : decode cX4_wakes 5 = .ok (.ifCond .ne 6, 3) := by decide +kernel
theorem dX4_wakes_8 : decode cX4_wakes 8 = .ok (.ldc 40, 2) := by decide +kernel
theorem dX4_wakes_10 : decode cX4_wakes 10 = .ok (.ireturn, 1) := by decide +kernel
theorem dX4_wakes_11 : decode cX4_wakes 11 = .ok (.aload_n 0, 1) := by decide +kernel
theorem dX4_wakes_12 : decode cX4_wakes 12 = .ok (.iload_n 1, 1) := by decide +kernel
theorem dX4_wakes_13 : decode cX4_wakes 13 = .ok (.iconst 0, 1) := by decide +kernel
theorem dX4_wakes_14 : decode cX4_wakes 14 = .ok (.invokevirtual 37, 3) := by decide +kernel
theorem dX4_wakes_17 : decode cX4_wakes 17 = .ok (.iconst 1, 1) := by decide +kernel
theorem dX4_wakes_18 : decode cX4_wakes 18 = .ok (.if_icmp .eq 6, 3) := by decide +kernel
theorem dX4_wakes_21 : decode cX4_wakes 21 = .ok (.ldc 60, 2) := by decide +kernel
theorem dX4_wakes_23 : decode cX4_wakes 23 = .ok (.ireturn, 1) := by decide +kernel
theorem dX4_wakes_24 : decode cX4_wakes 24 = .ok (.aload_n 0, 1) := by decide +kernel
theorem dX4_wakes_25 : decode cX4_wakes 25 = .ok (.getfield 7, 3) := by decide +kernel
theorem dX4_wakes_28 : decode cX4_wakes 28 = .ok (.iconst 5, 1) := by decide +kernel
theorem dX4_wakes_29 : decode cX4_wakes 29 = .ok (.iconst 4, 1) := by decide +kernel
theorem dX4_wakes_30 : decode cX4_wakes 30 = .ok (.iload_n 1, 1) := by decide +kernel
theorem dX4_wakes_31 : decode cX4_wakes 31 = .ok (.imul, 1) := by decide +kernel
theorem dX4_wakes_32 : decode cX4_wakes 32 = .ok (.iadd, 1) := by decide +kernel
theorem dX4_wakes_33 : decode cX4_wakes 33 = .ok (.iconst 0, 1) := by decide +kernel
theorem dX4_wakes_34 : decode cX4_wakes 34 = .ok (.iadd, 1) := by decide +kernel
theorem dX4_wakes_35 : decode cX4_wakes 35 = .ok (.iconst 0, 1) := by decide +kernel
theorem dX4_wakes_36 : decode cX4_wakes 36 = .ok (.iastore, 1) := by decide +kernel
theorem dX4_wakes_37 : decode cX4_wakes 37 = .ok (.aload_n 0, 1) := by decide +kernel
theorem dX4_wakes_38 : decode cX4_wakes 38 = .ok (.getfield 7, 3) := by decide +kernel
theorem dX4_wakes_41 : decode cX4_wakes 41 = .ok (.iconst 1, 1) := by decide +kernel
theorem dX4_wakes_42 : decode cX4_wakes 42 = .ok (.iaload, 1) := by decide +kernel
theorem dX4_wakes_43 : decode cX4_wakes 43 = .ok (.aload_n 0, 1) := by decide +kernel
theorem dX4_wakes_44 : decode cX4_wakes 44 = .ok (.iload_n 1, 1) := by decide +kernel
theorem dX4_wakes_45 : decode cX4_wakes 45 = .ok (.iconst 3, 1) := by decide +kernel
theorem dX4_wakes_46 : decode cX4_wakes 46 = .ok (.invokevirtual 37, 3) := by decide +kernel
theorem dX4_wakes_49 : decode cX4_wakes 49 = .ok (.isub, 1) := by decide +kernel
theorem dX4_wakes_50 : decode cX4_wakes 50 = .ok (.ireturn, 1) := by decide +kernel
theorem dX4_wake_0 : decode cX4_wake 0 = .ok (.aload_n 0, 1) := by decide +kernel
theorem dX4_wake_1 : decode cX4_wake 1 = .ok (.invokevirtual 46, 3) := by decide +kernel
theorem dX4_wake_4 : decode cX4_wake 4 = .ok (.aload_n 0, 1) := by decide +kernel
theorem dX4_wake_5 : decode cX4_wake 5 = .ok (.aload_n 0, 1) := by decide +kernel
theorem dX4_wake_6 : decode cX4_wake 6 = .ok (.iload_n 1, 1) := by decide +kernel
theorem dX4_wake_7 : decode cX4_wake 7 = .ok (.invokevirtual 67, 3) := by decide +kernel
theorem dX4_wake_10 : decode cX4_wake 10 = .ok (.invokevirtual 49, 3) := by decide +kernel
theorem dX4_wake_13 : decode cX4_wake 13 = .ok (.ireturn, 1) := by decide +kernel
theorem dX4_leave_0 : decode cX4_leave 0 = .ok (.aload_n 0, 1) := by decide +kernel
theorem dX4_leave_1 : decode cX4_leave 1 = .ok (.iload_n 1, 1) := by decide +kernel
theorem dX4_leave_2 : decode cX4_leave 2 = .ok (.invokevirtual 53, 3) := by decide +kernel
theorem dX4_leave_5 : decode cX4_leave 5 = .ok (.ifCond .ne 6, 3) := by decide +kernel
theorem dX4_leave_8 : decode cX4_leave 8 = .ok (.ldc 40, 2) := by decide +kernel
theorem dX4_leave_10 : decode cX4_leave 10 = .ok (.ireturn, 1) := by decide +kernel
theorem dX4_leave_11 : decode cX4_leave 11 = .ok (.aload_n 0, 1) := by decide +kernel
theorem dX4_leave_12 : decode cX4_leave 12 = .ok (.iload_n 1, 1) := by decide +kernel
theorem dX4_leave_13 : decode cX4_leave 13 = .ok (.invokevirtual 70, 3) := by decide +kernel
theorem dX4_leave_16 : decode cX4_leave 16 = .ok (.ifCond .eq 6, 3) := by decide +kernel
theorem dX4_leave_19 : decode cX4_leave 19 = .ok (.ldc 60, 2) := by decide +kernel
theorem dX4_leave_21 : decode cX4_leave 21 = .ok (.ireturn, 1) := by decide +kernel
theorem dX4_leave_22 : decode cX4_leave 22 = .ok (.aload_n 0, 1) := by decide +kernel
theorem dX4_leave_23 : decode cX4_leave 23 = .ok (.invokevirtual 46, 3) := by decide +kernel
theorem dX4_leave_26 : decode cX4_leave 26 = .ok (.aload_n 0, 1) := by decide +kernel
theorem dX4_leave_27 : decode cX4_leave 27 = .ok (.getfield 7, 3) := by decide +kernel
theorem dX4_leave_30 : decode cX4_leave 30 = .ok (.iconst 5, 1) := by decide +kernel
theorem dX4_leave_31 : decode cX4_leave 31 = .ok (.iconst 4, 1) := by decide +kernel
theorem dX4_leave_32 : decode cX4_leave 32 = .ok (.iload_n 1, 1) := by decide +kernel
theorem dX4_leave_33 : decode cX4_leave 33 = .ok (.imul, 1) := by decide +kernel
theorem dX4_leave_34 : decode cX4_leave 34 = .ok (.iadd, 1) := by decide +kernel
theorem dX4_leave_35 : decode cX4_leave 35 = .ok (.iconst 0, 1) := by decide +kernel
theorem dX4_leave_36 : decode cX4_leave 36 = .ok (.iadd, 1) := by decide +kernel
theorem dX4_leave_37 : decode cX4_leave 37 = .ok (.iconst 2, 1) := by decide +kernel
theorem dX4_leave_38 : decode cX4_leave 38 = .ok (.iastore, 1) := by decide +kernel
theorem dX4_leave_39 : decode cX4_leave 39 = .ok (.iconst 0, 1) := by decide +kernel
theorem dX4_leave_40 : decode cX4_leave 40 = .ok (.istore_n 2, 1) := by decide +kernel
theorem dX4_leave_41 : decode cX4_leave 41 = .ok (.iload_n 2, 1) := by decide +kernel
theorem dX4_leave_42 : decode cX4_leave 42 = .ok (.bipush 12, 2) := by decide +kernel
theorem dX4_leave_44 : decode cX4_leave 44 = .ok (.if_icmp .ge 20, 3) := by decide +kernel
theorem dX4_leave_47 : decode cX4_leave 47 = .ok (.aload_n 0, 1) := by decide +kernel
theorem dX4_leave_48 : decode cX4_leave 48 = .ok (.getfield 7, 3) := by decide +kernel
theorem dX4_leave_51 : decode cX4_leave 51 = .ok (.iload_n 1, 1) := by decide +kernel
theorem dX4_leave_52 : decode cX4_leave 52 = .ok (.iload_n 2, 1) := by decide +kernel
theorem dX4_leave_53 : decode cX4_leave 53 = .ok (.invokestatic 29, 3) := by decide +kernel
theorem dX4_leave_56 : decode cX4_leave 56 = .ok (.iconst 0, 1) := by decide +kernel
theorem dX4_leave_57 : decode cX4_leave 57 = .ok (.iastore, 1) := by decide +kernel
theorem dX4_leave_58 : decode cX4_leave 58 = .ok (.iinc 2 1, 3) := by decide +kernel
theorem dX4_leave_61 : decode cX4_leave 61 = .ok (.goto (-20), 3) := by decide +kernel
theorem dX4_leave_64 : decode cX4_leave 64 = .ok (.aload_n 0, 1) := by decide +kernel
theorem dX4_leave_65 : decode cX4_leave 65 = .ok (.aload_n 0, 1) := by decide +kernel
theorem dX4_leave_66 : decode cX4_leave 66 = .ok (.iconst 0, 1) := by decide +kernel
theorem dX4_leave_67 : decode cX4_leave 67 = .ok (.invokevirtual 61, 3) := by decide +kernel
theorem dX4_leave_70 : decode cX4_leave 70 = .ok (.aload_n 0, 1) := by decide +kernel
theorem dX4_leave_71 : decode cX4_leave 71 = .ok (.iconst 1, 1) := by decide +kernel
theorem dX4_leave_72 : decode cX4_leave 72 = .ok (.invokevirtual 61, 3) := by decide +kernel
theorem dX4_leave_75 : decode cX4_leave 75 = .ok (.iadd, 1) := by decide +kernel
theorem dX4_leave_76 : decode cX4_leave 76 = .ok (.invokevirtual 49, 3) := by decide +kernel
theorem dX4_leave_79 : decode cX4_leave 79 = .ok (.ireturn, 1) := by decide +kernel
theorem dX4_watch_0 : decode cX4_watch 0 = .ok (.iload_n 1, 1) := by decide +kernel
theorem dX4_watch_1 : decode cX4_watch 1 = .ok (.iconst 1, 1) := by decide +kernel
theorem dX4_watch_2 : decode cX4_watch 2 = .ok (.bipush 60, 2) := by decide +kernel
theorem dX4_watch_4 : decode cX4_watch 4 = .ok (.invokestatic 33, 3) := by decide +kernel
theorem dX4_watch_7 : decode cX4_watch 7 = .ok (.ifCond .ne 6, 3) := by decide +kernel
theorem dX4_watch_10 : decode cX4_watch 10 = .ok (.ldc 40, 2) := by decide +kernel
theorem dX4_watch_12 : decode cX4_watch 12 = .ok (.ireturn, 1) := by decide +kernel
theorem dX4_watch_13 : decode cX4_watch 13 = .ok (.aload_n 0, 1) := by decide +kernel
theorem dX4_watch_14 : decode cX4_watch 14 = .ok (.invokevirtual 46, 3) := by decide +kernel
theorem dX4_watch_17 : decode cX4_watch 17 = .ok (.aload_n 0, 1) := by decide +kernel
theorem dX4_watch_18 : decode cX4_watch 18 = .ok (.getfield 7, 3) := by decide +kernel
theorem dX4_watch_21 : decode cX4_watch 21 = .ok (.iconst 2, 1) := by decide +kernel
theorem dX4_watch_22 : decode cX4_watch 22 = .ok (.iaload, 1) := by decide +kernel
theorem dX4_watch_23 : decode cX4_watch 23 = .ok (.istore_n 2, 1) := by decide +kernel
theorem dX4_watch_24 : decode cX4_watch 24 = .ok (.aload_n 0, 1) := by decide +kernel
theorem dX4_watch_25 : decode cX4_watch 25 = .ok (.getfield 7, 3) := by decide +kernel
theorem dX4_watch_28 : decode cX4_watch 28 = .ok (.iconst 2, 1) := by decide +kernel
theorem dX4_watch_29 : decode cX4_watch 29 = .ok (.iload_n 1, 1) := by decide +kernel
theorem dX4_watch_30 : decode cX4_watch 30 = .ok (.iastore, 1) := by decide +kernel
theorem dX4_watch_31 : decode cX4_watch 31 = .ok (.aload_n 0, 1) := by decide +kernel
theorem dX4_watch_32 : decode cX4_watch 32 = .ok (.iload_n 2, 1) := by decide +kernel
theorem dX4_watch_33 : decode cX4_watch 33 = .ok (.invokevirtual 49, 3) := by decide +kernel
theorem dX4_watch_36 : decode cX4_watch 36 = .ok (.ireturn, 1) := by decide +kernel
theorem dX4_topics_0 : decode cX4_topics 0 = .ok (.iconst 0, 1) := by decide +kernel
theorem dX4_topics_1 : decode cX4_topics 1 = .ok (.istore_n 3, 1) := by decide +kernel
theorem dX4_topics_2 : decode cX4_topics 2 = .ok (.iconst 0, 1) := by decide +kernel
theorem dX4_topics_3 : decode cX4_topics 3 = .ok (.istore 4, 2) := by decide +kernel
theorem dX4_topics_5 : decode cX4_topics 5 = .ok (.iload 4, 2) := by decide +kernel
theorem dX4_topics_7 : decode cX4_topics 7 = .ok (.bipush 12, 2) := by decide +kernel
theorem dX4_topics_9 : decode cX4_topics 9 = .ok (.if_icmp .ge 32, 3) := by decide +kernel
theorem dX4_topics_12 : decode cX4_topics 12 = .ok (.iload_n 3, 1) := by decide +kernel
theorem dX4_topics_13 : decode cX4_topics 13 = .ok (.aload_n 0, 1) := by decide +kernel
theorem dX4_topics_14 : decode cX4_topics 14 = .ok (.iload_n 1, 1) := by decide +kernel
theorem dX4_topics_15 : decode cX4_topics 15 = .ok (.iload 4, 2) := by decide +kernel
theorem dX4_topics_17 : decode cX4_topics 17 = .ok (.iconst 0, 1) := by decide +kernel
theorem dX4_topics_18 : decode cX4_topics 18 = .ok (.invokevirtual 73, 3) := by decide +kernel
theorem dX4_topics_21 : decode cX4_topics 21 = .ok (.iload_n 2, 1) := by decide +kernel
theorem dX4_topics_22 : decode cX4_topics 22 = .ok (.if_icmp .ne 10, 3) := by decide +kernel
theorem dX4_topics_25 : decode cX4_topics 25 = .ok (.iconst 1, 1) := by decide +kernel
theorem dX4_topics_26 : decode cX4_topics 26 = .ok (.iload 4, 2) := by decide +kernel
theorem dX4_topics_28 : decode cX4_topics 28 = .ok (.ishl, 1) := by decide +kernel
theorem dX4_topics_29 : decode cX4_topics 29 = .ok (.goto 4, 3) := by decide +kernel
theorem dX4_topics_32 : decode cX4_topics 32 = .ok (.iconst 0, 1) := by decide +kernel
theorem dX4_topics_33 : decode cX4_topics 33 = .ok (.ior, 1) := by decide +kernel
theorem dX4_topics_34 : decode cX4_topics 34 = .ok (.istore_n 3, 1) := by decide +kernel
theorem dX4_topics_35 : decode cX4_topics 35 = .ok (.iinc 4 1, 3) := by decide +kernel
theorem dX4_topics_38 : decode cX4_topics 38 = .ok (.goto (-33), 3) := by decide +kernel
theorem dX4_topics_41 : decode cX4_topics 41 = .ok (.iload_n 3, 1) := by decide +kernel
theorem dX4_topics_42 : decode cX4_topics 42 = .ok (.ireturn, 1) := by decide +kernel
theorem dX4_villagerOf_0 : decode cX4_villagerOf 0 = .ok (.aload_n 0, 1) := by decide +kernel
theorem dX4_villagerOf_1 : decode cX4_villagerOf 1 = .ok (.iload_n 1, 1) := by decide +kernel
theorem dX4_villagerOf_2 : decode cX4_villagerOf 2 = .ok (.invokevirtual 53, 3) := by decide +kernel
theorem dX4_villagerOf_5 : decode cX4_villagerOf 5 = .ok (.ifCond .eq 12, 3) := by decide +kernel
theorem dX4_villagerOf_8 : decode cX4_villagerOf 8 = .ok (.iload_n 2, 1) := by decide +kernel
theorem dX4_villagerOf_9 : decode cX4_villagerOf 9 = .ok (.iconst 0, 1) := by decide +kernel
theorem dX4_villagerOf_10 : decode cX4_villagerOf 10 = .ok (.iconst 5, 1) := by decide +kernel
theorem dX4_villagerOf_11 : decode cX4_villagerOf 11 = .ok (.invokestatic 33, 3) := by decide +kernel
theorem dX4_villagerOf_14 : decode cX4_villagerOf 14 = .ok (.ifCond .ne 6, 3) := by decide +kernel
theorem dX4_villagerOf_17 : decode cX4_villagerOf 17 = .ok (.ldc 40, 2) := by decide +kernel
theorem dX4_villagerOf_19 : decode cX4_villagerOf 19 = .ok (.ireturn, 1) := by decide +kernel
theorem dX4_villagerOf_20 : decode cX4_villagerOf 20 = .ok (.iload_n 2, 1) := by decide +kernel
theorem dX4_villagerOf_21 : decode cX4_villagerOf 21 = .ok (.tableswitch 76 2 5 #[31, 31, 40, 47], 31) := by decide +kernel
theorem dX4_villagerOf_52 : decode cX4_villagerOf 52 = .ok (.aload_n 0, 1) := by decide +kernel
theorem dX4_villagerOf_53 : decode cX4_villagerOf 53 = .ok (.iload_n 1, 1) := by decide +kernel
theorem dX4_villagerOf_54 : decode cX4_villagerOf 54 = .ok (.iload_n 2, 1) := by decide +kernel
theorem dX4_villagerOf_55 : decode cX4_villagerOf 55 = .ok (.iconst 1, 1) := by decide +kernel
theorem dX4_villagerOf_56 : decode cX4_villagerOf 56 = .ok (.isub, 1) := by decide +kernel
theorem dX4_villagerOf_57 : decode cX4_villagerOf 57 = .ok (.invokevirtual 77, 3) := by decide +kernel
theorem dX4_villagerOf_60 : decode cX4_villagerOf 60 = .ok (.ireturn, 1) := by decide +kernel
theorem dX4_villagerOf_61 : decode cX4_villagerOf 61 = .ok (.aload_n 0, 1) := by decide +kernel
theorem dX4_villagerOf_62 : decode cX4_villagerOf 62 = .ok (.iload_n 1, 1) := by decide +kernel
theorem dX4_villagerOf_63 : decode cX4_villagerOf 63 = .ok (.iconst 2, 1) := by decide +kernel
theorem dX4_villagerOf_64 : decode cX4_villagerOf 64 = .ok (.invokevirtual 37, 3) := by decide +kernel
theorem dX4_villagerOf_67 : decode cX4_villagerOf 67 = .ok (.ireturn, 1) := by decide +kernel
theorem dX4_villagerOf_68 : decode cX4_villagerOf 68 = .ok (.aload_n 0, 1) := by decide +kernel
theorem dX4_villagerOf_69 : decode cX4_villagerOf 69 = .ok (.iload_n 1, 1) := by decide +kernel
theorem dX4_villagerOf_70 : decode cX4_villagerOf 70 = .ok (.iconst 0, 1) := by decide +kernel
theorem dX4_villagerOf_71 : decode cX4_villagerOf 71 = .ok (.invokevirtual 37, 3) := by decide +kernel
theorem dX4_villagerOf_74 : decode cX4_villagerOf 74 = .ok (.iconst 1, 1) := by decide +kernel
theorem dX4_villagerOf_75 : decode cX4_villagerOf 75 = .ok (.if_icmp .ne 19, 3) := by decide +kernel
theorem dX4_villagerOf_78 : decode cX4_villagerOf 78 = .ok (.aload_n 0, 1) := by decide +kernel
theorem dX4_villagerOf_79 : decode cX4_villagerOf 79 = .ok (.getfield 7, 3) := by decide +kernel
theorem dX4_villagerOf_82 : decode cX4_villagerOf 82 = .ok (.iconst 1, 1) := by decide +kernel
theorem dX4_villagerOf_83 : decode cX4_villagerOf 83 = .ok (.iaload, 1) := by decide +kernel
theorem dX4_villagerOf_84 : decode cX4_villagerOf 84 = .ok (.aload_n 0, 1) := by decide +kernel
theorem dX4_villagerOf_85 : decode cX4_villagerOf 85 = .ok (.iload_n 1, 1) := by decide +kernel
theorem dX4_villagerOf_86 : decode cX4_villagerOf 86 = .ok (.iconst 3, 1) := by decide +kernel
theorem dX4_villagerOf_87 : decode cX4_villagerOf 87 = .ok (.invokevirtual 37, 3) := by decide +kernel
theorem dX4_villagerOf_90 : decode cX4_villagerOf 90 = .ok (.isub, 1) := by decide +kernel
theorem dX4_villagerOf_91 : decode cX4_villagerOf 91 = .ok (.goto 5, 3) := by decide +kernel
theorem dX4_villagerOf_94 : decode cX4_villagerOf 94 = .ok (.ldc 80, 2) := by decide +kernel
theorem dX4_villagerOf_96 : decode cX4_villagerOf 96 = .ok (.ireturn, 1) := by decide +kernel
theorem dX4_villagerOf_97 : decode cX4_villagerOf 97 = .ok (.aload_n 0, 1) := by decide +kernel
theorem dX4_villagerOf_98 : decode cX4_villagerOf 98 = .ok (.iload_n 1, 1) := by decide +kernel
theorem dX4_villagerOf_99 : decode cX4_villagerOf 99 = .ok (.iload_n 2, 1) := by decide +kernel
theorem dX4_villagerOf_100 : decode cX4_villagerOf 100 = .ok (.invokevirtual 37, 3) := by decide +kernel
theorem dX4_villagerOf_103 : decode cX4_villagerOf 103 = .ok (.ireturn, 1) := by decide +kernel
theorem dX4_isNewer_0 : decode cX4_isNewer 0 = .ok (.iload_n 0, 1) := by decide +kernel
theorem dX4_isNewer_1 : decode cX4_isNewer 1 = .ok (.iload_n 2, 1) := by decide +kernel
theorem dX4_isNewer_2 : decode cX4_isNewer 2 = .ok (.if_icmp .gt 13, 3) := by decide +kernel
theorem dX4_isNewer_5 : decode cX4_isNewer 5 = .ok (.iload_n 0, 1) := by decide +kernel
theorem dX4_isNewer_6 : decode cX4_isNewer 6 = .ok (.iload_n 2, 1) := by decide +kernel
theorem dX4_isNewer_7 : decode cX4_isNewer 7 = .ok (.if_icmp .ne 12, 3) := by decide +kernel
theorem dX4_isNewer_10 : decode cX4_isNewer 10 = .ok (.iload_n 1, 1) := by decide +kernel
theorem dX4_isNewer_11 : decode cX4_isNewer 11 = .ok (.iload_n 3, 1) := by decide +kernel
theorem dX4_isNewer_12 : decode cX4_isNewer 12 = .ok (.if_icmp .le 7, 3) := by decide +kernel
theorem dX4_isNewer_15 : decode cX4_isNewer 15 = .ok (.iconst 1, 1) := by decide +kernel
theorem dX4_isNewer_16 : decode cX4_isNewer 16 = .ok (.goto 4, 3) := by decide +kernel
theorem dX4_isNewer_19 : decode cX4_isNewer 19 = .ok (.iconst 0, 1) := by decide +kernel
theorem dX4_isNewer_20 : decode cX4_isNewer 20 = .ok (.ireturn, 1) := by decide +kernel
theorem dX4_hasNewer_0 : decode cX4_hasNewer 0 = .ok (.aload_n 0, 1) := by decide +kernel
theorem dX4_hasNewer_1 : decode cX4_hasNewer 1 = .ok (.iload_n 1, 1) := by decide +kernel
theorem dX4_hasNewer_2 : decode cX4_hasNewer 2 = .ok (.iload_n 3, 1) := by decide +kernel
theorem dX4_hasNewer_3 : decode cX4_hasNewer 3 = .ok (.iconst 0, 1) := by decide +kernel
theorem dX4_hasNewer_4 : decode cX4_hasNewer 4 = .ok (.invokevirtual 73, 3) := by decide +kernel
theorem dX4_hasNewer_7 : decode cX4_hasNewer 7 = .ok (.ifCond .eq 13, 3) := by decide +kernel
theorem dX4_hasNewer_10 : decode cX4_hasNewer 10 = .ok (.aload_n 0, 1) := by decide +kernel
theorem dX4_hasNewer_11 : decode cX4_hasNewer 11 = .ok (.iload_n 2, 1) := by decide +kernel
theorem dX4_hasNewer_12 : decode cX4_hasNewer 12 = .ok (.iload_n 3, 1) := by decide +kernel
theorem dX4_hasNewer_13 : decode cX4_hasNewer 13 = .ok (.iconst 0, 1) := by decide +kernel
theorem dX4_hasNewer_14 : decode cX4_hasNewer 14 = .ok (.invokevirtual 73, 3) := by decide +kernel
theorem dX4_hasNewer_17 : decode cX4_hasNewer 17 = .ok (.ifCond .ne 29, 3) := by decide +kernel
theorem dX4_hasNewer_20 : decode cX4_hasNewer 20 = .ok (.aload_n 0, 1) := by decide +kernel
theorem dX4_hasNewer_21 : decode cX4_hasNewer 21 = .ok (.iload_n 1, 1) := by decide +kernel
theorem dX4_hasNewer_22 : decode cX4_hasNewer 22 = .ok (.iload_n 3, 1) := by decide +kernel
theorem dX4_hasNewer_23 : decode cX4_hasNewer 23 = .ok (.iconst 0, 1) := by decide +kernel
theorem dX4_hasNewer_24 : decode cX4_hasNewer 24 = .ok (.invokevirtual 73, 3) := by decide +kernel
theorem dX4_hasNewer_27 : decode cX4_hasNewer 27 = .ok (.ifCond .eq 17, 3) := by decide +kernel
theorem dX4_hasNewer_30 : decode cX4_hasNewer 30 = .ok (.aload_n 0, 1) := by decide +kernel
theorem dX4_hasNewer_31 : decode cX4_hasNewer 31 = .ok (.iload_n 2, 1) := by decide +kernel
theorem dX4_hasNewer_32 : decode cX4_hasNewer 32 = .ok (.iload_n 3, 1) := by decide +kernel
theorem dX4_hasNewer_33 : decode cX4_hasNewer 33 = .ok (.iconst 0, 1) := by decide +kernel
theorem dX4_hasNewer_34 : decode cX4_hasNewer 34 = .ok (.invokevirtual 73, 3) := by decide +kernel
theorem dX4_hasNewer_37 : decode cX4_hasNewer 37 = .ok (.ifCond .ne 7, 3) := by decide +kernel
theorem dX4_hasNewer_40 : decode cX4_hasNewer 40 = .ok (.iconst 1, 1) := by decide +kernel
theorem dX4_hasNewer_41 : decode cX4_hasNewer 41 = .ok (.goto 4, 3) := by decide +kernel
theorem dX4_hasNewer_44 : decode cX4_hasNewer 44 = .ok (.iconst 0, 1) := by decide +kernel
theorem dX4_hasNewer_45 : decode cX4_hasNewer 45 = .ok (.ireturn, 1) := by decide +kernel
theorem dX4_hasNewer_46 : decode cX4_hasNewer 46 = .ok (.aload_n 0, 1) := by decide +kernel
theorem dX4_hasNewer_47 : decode cX4_hasNewer 47 = .ok (.iload_n 1, 1) := by decide +kernel
theorem dX4_hasNewer_48 : decode cX4_hasNewer 48 = .ok (.iload_n 3, 1) := by decide +kernel
theorem dX4_hasNewer_49 : decode cX4_hasNewer 49 = .ok (.iconst 1, 1) := by decide +kernel
theorem dX4_hasNewer_50 : decode cX4_hasNewer 50 = .ok (.invokevirtual 73, 3) := by decide +kernel
theorem dX4_hasNewer_53 : decode cX4_hasNewer 53 = .ok (.aload_n 0, 1) := by decide +kernel
theorem dX4_hasNewer_54 : decode cX4_hasNewer 54 = .ok (.iload_n 1, 1) := by decide +kernel
theorem dX4_hasNewer_55 : decode cX4_hasNewer 55 = .ok (.iload_n 3, 1) := by decide +kernel
theorem dX4_hasNewer_56 : decode cX4_hasNewer 56 = .ok (.iconst 2, 1) := by decide +kernel
theorem dX4_hasNewer_57 : decode cX4_hasNewer 57 = .ok (.invokevirtual 73, 3) := by decide +kernel
theorem dX4_hasNewer_60 : decode cX4_hasNewer 60 = .ok (.aload_n 0, 1) := by decide +kernel
theorem dX4_hasNewer_61 : decode cX4_hasNewer 61 = .ok (.iload_n 2, 1) := by decide +kernel
theorem dX4_hasNewer_62 : decode cX4_hasNewer 62 = .ok (.iload_n 3, 1) := by decide +kernel
theorem dX4_hasNewer_63 : decode cX4_hasNewer 63 = .ok (.iconst 1, 1) := by decide +kernel
theorem dX4_hasNewer_64 : decode cX4_hasNewer 64 = .ok (.invokevirtual 73, 3) := by decide +kernel
theorem dX4_hasNewer_67 : decode cX4_hasNewer 67 = .ok (.aload_n 0, 1) := by decide +kernel
theorem dX4_hasNewer_68 : decode cX4_hasNewer 68 = .ok (.iload_n 2, 1) := by decide +kernel
theorem dX4_hasNewer_69 : decode cX4_hasNewer 69 = .ok (.iload_n 3, 1) := by decide +kernel
theorem dX4_hasNewer_70 : decode cX4_hasNewer 70 = .ok (.iconst 2, 1) := by decide +kernel
theorem dX4_hasNewer_71 : decode cX4_hasNewer 71 = .ok (.invokevirtual 73, 3) := by decide +kernel
theorem dX4_hasNewer_74 : decode cX4_hasNewer 74 = .ok (.invokestatic 81, 3) := by decide +kernel
theorem dX4_hasNewer_77 : decode cX4_hasNewer 77 = .ok (.ireturn, 1) := by decide +kernel
theorem dX4_areSame_0 : decode cX4_areSame 0 = .ok (.aload_n 0, 1) := by decide +kernel
theorem dX4_areSame_1 : decode cX4_areSame 1 = .ok (.iload_n 1, 1) := by decide +kernel
theorem dX4_areSame_2 : decode cX4_areSame 2 = .ok (.iload_n 3, 1) := by decide +kernel
theorem dX4_areSame_3 : decode cX4_areSame 3 = .ok (.iconst 0, 1) := by decide +kernel
theorem dX4_areSame_4 : decode cX4_areSame 4 = .ok (.invokevirtual 73, 3) := by decide +kernel
theorem dX4_areSame_7 : decode cX4_areSame 7 = .ok (.ifCond .ne 7, 3) := by decide +kernel
theorem dX4_areSame_10 : decode cX4_areSame 10 = .ok (.iconst 1, 1) := by decide +kernel
theorem dX4_areSame_11 : decode cX4_areSame 11 = .ok (.goto 4, 3) := by decide +kernel
theorem dX4_areSame_14 : decode cX4_areSame 14 = .ok (.iconst 0, 1) := by decide +kernel
theorem dX4_areSame_15 : decode cX4_areSame 15 = .ok (.aload_n 0, 1) := by decide +kernel
theorem dX4_areSame_16 : decode cX4_areSame 16 = .ok (.iload_n 2, 1) := by decide +kernel
theorem dX4_areSame_17 : decode cX4_areSame 17 = .ok (.iload_n 3, 1) := by decide +kernel
theorem dX4_areSame_18 : decode cX4_areSame 18 = .ok (.iconst 0, 1) := by decide +kernel
theorem dX4_areSame_19 : decode cX4_areSame 19 = .ok (.invokevirtual 73, 3) := by decide +kernel
theorem dX4_areSame_22 : decode cX4_areSame 22 = .ok (.ifCond .ne 7, 3) := by decide +kernel
theorem dX4_areSame_25 : decode cX4_areSame 25 = .ok (.iconst 1, 1) := by decide +kernel
theorem dX4_areSame_26 : decode cX4_areSame 26 = .ok (.goto 4, 3) := by decide +kernel
theorem dX4_areSame_29 : decode cX4_areSame 29 = .ok (.iconst 0, 1) := by decide +kernel
theorem dX4_areSame_30 : decode cX4_areSame 30 = .ok (.if_icmp .ne 27, 3) := by decide +kernel
theorem dX4_areSame_33 : decode cX4_areSame 33 = .ok (.aload_n 0, 1) := by decide +kernel
theorem dX4_areSame_34 : decode cX4_areSame 34 = .ok (.iload_n 1, 1) := by decide +kernel
theorem dX4_areSame_35 : decode cX4_areSame 35 = .ok (.iload_n 2, 1) := by decide +kernel
theorem dX4_areSame_36 : decode cX4_areSame 36 = .ok (.iload_n 3, 1) := by decide +kernel
theorem dX4_areSame_37 : decode cX4_areSame 37 = .ok (.invokevirtual 85, 3) := by decide +kernel
theorem dX4_areSame_40 : decode cX4_areSame 40 = .ok (.ifCond .ne 17, 3) := by decide +kernel
theorem dX4_areSame_43 : decode cX4_areSame 43 = .ok (.aload_n 0, 1) := by decide +kernel
theorem dX4_areSame_44 : decode cX4_areSame 44 = .ok (.iload_n 2, 1) := by decide +kernel
theorem dX4_areSame_45 : decode cX4_areSame 45 = .ok (.iload_n 1, 1) := by decide +kernel
theorem dX4_areSame_46 : decode cX4_areSame 46 = .ok (.iload_n 3, 1) := by decide +kernel
theorem dX4_areSame_47 : decode cX4_areSame 47 = .ok (.invokevirtual 85, 3) := by decide +kernel
theorem dX4_areSame_50 : decode cX4_areSame 50 = .ok (.ifCond .ne 7, 3) := by decide +kernel
theorem dX4_areSame_53 : decode cX4_areSame 53 = .ok (.iconst 1, 1) := by decide +kernel
theorem dX4_areSame_54 : decode cX4_areSame 54 = .ok (.goto 4, 3) := by decide +kernel
theorem dX4_areSame_57 : decode cX4_areSame 57 = .ok (.iconst 0, 1) := by decide +kernel
theorem dX4_areSame_58 : decode cX4_areSame 58 = .ok (.ireturn, 1) := by decide +kernel
theorem dX4_makes_0 : decode cX4_makes 0 = .ok (.aload_n 0, 1) := by decide +kernel
theorem dX4_makes_1 : decode cX4_makes 1 = .ok (.getfield 7, 3) := by decide +kernel
theorem dX4_makes_4 : decode cX4_makes 4 = .ok (.iconst 5, 1) := by decide +kernel
theorem dX4_makes_5 : decode cX4_makes 5 = .ok (.iconst 4, 1) := by decide +kernel
theorem dX4_makes_6 : decode cX4_makes 6 = .ok (.iload_n 1, 1) := by decide +kernel
theorem dX4_makes_7 : decode cX4_makes 7 = .ok (.imul, 1) := by decide +kernel
theorem dX4_makes_8 : decode cX4_makes 8 = .ok (.iadd, 1) := by decide +kernel
theorem dX4_makes_9 : decode cX4_makes 9 = .ok (.iconst 1, 1) := by decide +kernel
theorem dX4_makes_10 : decode cX4_makes 10 = .ok (.iadd, 1) := by decide +kernel
theorem dX4_makes_11 : decode cX4_makes 11 = .ok (.dup2, 1) := by decide +kernel
theorem dX4_makes_12 : decode cX4_makes 12 = .ok (.iaload, 1) := by decide +kernel
theorem dX4_makes_13 : decode cX4_makes 13 = .ok (.iconst 1, 1) := by decide +kernel
theorem dX4_makes_14 : decode cX4_makes 14 = .ok (.iadd, 1) := by decide +kernel
theorem dX4_makes_15 : decode cX4_makes 15 = .ok (.iastore, 1) := by decide +kernel
theorem dX4_makes_16 : decode cX4_makes 16 = .ok (.iload_n 1, 1) := by decide +kernel
theorem dX4_makes_17 : decode cX4_makes 17 = .ok (.iload_n 2, 1) := by decide +kernel
theorem dX4_makes_18 : decode cX4_makes 18 = .ok (.invokestatic 29, 3) := by decide +kernel
theorem dX4_makes_21 : decode cX4_makes 21 = .ok (.istore 6, 2) := by decide +kernel
theorem dX4_makes_23 : decode cX4_makes 23 = .ok (.aload_n 0, 1) := by decide +kernel
theorem dX4_makes_24 : decode cX4_makes 24 = .ok (.getfield 7, 3) := by decide +kernel
theorem dX4_makes_27 : decode cX4_makes 27 = .ok (.iload 6, 2) := by decide +kernel
theorem dX4_makes_29 : decode cX4_makes 29 = .ok (.iload_n 3, 1) := by decide +kernel
theorem dX4_makes_30 : decode cX4_makes 30 = .ok (.iastore, 1) := by decide +kernel
theorem dX4_makes_31 : decode cX4_makes 31 = .ok (.aload_n 0, 1) := by decide +kernel
theorem dX4_makes_32 : decode cX4_makes 32 = .ok (.getfield 7, 3) := by decide +kernel
theorem dX4_makes_35 : decode cX4_makes 35 = .ok (.iload 6, 2) := by decide +kernel
theorem dX4_makes_37 : decode cX4_makes 37 = .ok (.iconst 1, 1) := by decide +kernel
theorem dX4_makes_38 : decode cX4_makes 38 = .ok (.iadd, 1) := by decide +kernel
theorem dX4_makes_39 : decode cX4_makes 39 = .ok (.aload_n 0, 1) := by decide +kernel
theorem dX4_makes_40 : decode cX4_makes 40 = .ok (.iload_n 1, 1) := by decide +kernel
theorem dX4_makes_41 : decode cX4_makes 41 = .ok (.iconst 1, 1) := by decide +kernel
theorem dX4_makes_42 : decode cX4_makes 42 = .ok (.invokevirtual 37, 3) := by decide +kernel
theorem dX4_makes_45 : decode cX4_makes 45 = .ok (.iastore, 1) := by decide +kernel
theorem dX4_makes_46 : decode cX4_makes 46 = .ok (.aload_n 0, 1) := by decide +kernel
theorem dX4_makes_47 : decode cX4_makes 47 = .ok (.getfield 7, 3) := by decide +kernel
theorem dX4_makes_50 : decode cX4_makes 50 = .ok (.iload 6, 2) := by decide +kernel
theorem dX4_makes_52 : decode cX4_makes 52 = .ok (.iconst 2, 1) := by decide +kernel
theorem dX4_makes_53 : decode cX4_makes 53 = .ok (.iadd, 1) := by decide +kernel
theorem dX4_makes_54 : decode cX4_makes 54 = .ok (.iload_n 1, 1) := by decide +kernel
theorem dX4_makes_55 : decode cX4_makes 55 = .ok (.iastore, 1) := by decide +kernel
theorem dX4_makes_56 : decode cX4_makes 56 = .ok (.aload_n 0, 1) := by decide +kernel
theorem dX4_makes_57 : decode cX4_makes 57 = .ok (.getfield 7, 3) := by decide +kernel
theorem dX4_makes_60 : decode cX4_makes 60 = .ok (.iload 6, 2) := by decide +kernel
theorem dX4_makes_62 : decode cX4_makes 62 = .ok (.iconst 3, 1) := by decide +kernel
theorem dX4_makes_63 : decode cX4_makes 63 = .ok (.iadd, 1) := by decide +kernel
theorem dX4_makes_64 : decode cX4_makes 64 = .ok (.iload 4, 2) := by decide +kernel
theorem dX4_makes_66 : decode cX4_makes 66 = .ok (.iastore, 1) := by decide +kernel
theorem dX4_makes_67 : decode cX4_makes 67 = .ok (.aload_n 0, 1) := by decide +kernel
theorem dX4_makes_68 : decode cX4_makes 68 = .ok (.getfield 7, 3) := by decide +kernel
theorem dX4_makes_71 : decode cX4_makes 71 = .ok (.iload 6, 2) := by decide +kernel
theorem dX4_makes_73 : decode cX4_makes 73 = .ok (.iconst 4, 1) := by decide +kernel
theorem dX4_makes_74 : decode cX4_makes 74 = .ok (.iadd, 1) := by decide +kernel
theorem dX4_makes_75 : decode cX4_makes 75 = .ok (.iload 5, 2) := by decide +kernel
theorem dX4_makes_77 : decode cX4_makes 77 = .ok (.iastore, 1) := by decide +kernel
theorem dX4_makes_78 : decode cX4_makes 78 = .ok (.aload_n 0, 1) := by decide +kernel
theorem dX4_makes_79 : decode cX4_makes 79 = .ok (.getfield 7, 3) := by decide +kernel
theorem dX4_makes_82 : decode cX4_makes 82 = .ok (.iload 6, 2) := by decide +kernel
theorem dX4_makes_84 : decode cX4_makes 84 = .ok (.iconst 5, 1) := by decide +kernel
theorem dX4_makes_85 : decode cX4_makes 85 = .ok (.iadd, 1) := by decide +kernel
theorem dX4_makes_86 : decode cX4_makes 86 = .ok (.aload_n 0, 1) := by decide +kernel
theorem dX4_makes_87 : decode cX4_makes 87 = .ok (.getfield 7, 3) := by decide +kernel
theorem dX4_makes_90 : decode cX4_makes 90 = .ok (.iconst 1, 1) := by decide +kernel
theorem dX4_makes_91 : decode cX4_makes 91 = .ok (.iaload, 1) := by decide +kernel
theorem dX4_makes_92 : decode cX4_makes 92 = .ok (.iastore, 1) := by decide +kernel
theorem dX4_makes_93 : decode cX4_makes 93 = .ok (.aload_n 0, 1) := by decide +kernel
theorem dX4_makes_94 : decode cX4_makes 94 = .ok (.getfield 7, 3) := by decide +kernel
theorem dX4_makes_97 : decode cX4_makes 97 = .ok (.iload 6, 2) := by decide +kernel
theorem dX4_makes_99 : decode cX4_makes 99 = .ok (.bipush 6, 2) := by decide +kernel
theorem dX4_makes_101 : decode cX4_makes 101 = .ok (.iadd, 1) := by decide +kernel
theorem dX4_makes_102 : decode cX4_makes 102 = .ok (.iconst 1, 1) := by decide +kernel
theorem dX4_makes_103 : decode cX4_makes 103 = .ok (.iload_n 1, 1) := by decide +kernel
theorem dX4_makes_104 : decode cX4_makes 104 = .ok (.ishl, 1) := by decide +kernel
theorem dX4_makes_105 : decode cX4_makes 105 = .ok (.iastore, 1) := by decide +kernel
theorem dX4_makes_106 : decode cX4_makes 106 = .ok (.aload_n 0, 1) := by decide +kernel
theorem dX4_makes_107 : decode cX4_makes 107 = .ok (.iload_n 1, 1) := by decide +kernel
theorem dX4_makes_108 : decode cX4_makes 108 = .ok (.iconst 1, 1) := by decide +kernel
theorem dX4_makes_109 : decode cX4_makes 109 = .ok (.invokevirtual 37, 3) := by decide +kernel
theorem dX4_makes_112 : decode cX4_makes 112 = .ok (.ireturn, 1) := by decide +kernel
theorem dX4_tells_0 : decode cX4_tells 0 = .ok (.aload_n 0, 1) := by decide +kernel
theorem dX4_tells_1 : decode cX4_tells 1 = .ok (.iload_n 1, 1) := by decide +kernel
theorem dX4_tells_2 : decode cX4_tells 2 = .ok (.invokevirtual 53, 3) := by decide +kernel
theorem dX4_tells_5 : decode cX4_tells 5 = .ok (.ifCond .eq 30, 3) := by decide +kernel
theorem dX4_tells_8 : decode cX4_tells 8 = .ok (.iload_n 2, 1) := by decide +kernel
theorem dX4_tells_9 : decode cX4_tells 9 = .ok (.invokestatic 88, 3) := by decide +kernel
theorem dX4_tells_12 : decode cX4_tells 12 = .ok (.ifCond .eq 23, 3) := by decide +kernel
theorem dX4_tells_15 : decode cX4_tells 15 = .ok (.iload_n 3, 1) := by decide +kernel
theorem dX4_tells_16 : decode cX4_tells 16 = .ok (.iconst 0, 1) := by decide +kernel
theorem dX4_tells_17 : decode cX4_tells 17 = .ok (.bipush 99, 2) := by decide +kernel
theorem dX4_tells_19 : decode cX4_tells 19 = .ok (.invokestatic 33, 3) := by decide +kernel
theorem dX4_tells_22 : decode cX4_tells 22 = .ok (.ifCond .eq 13, 3) := by decide +kernel
theorem dX4_tells_25 : decode cX4_tells 25 = .ok (.iload 4, 2) := by decide +kernel
theorem dX4_tells_27 : decode cX4_tells 27 = .ok (.iconst 0, 1) := by decide +kernel
theorem dX4_tells_28 : decode cX4_tells 28 = .ok (.iconst 2, 1) := by decide +kernel
theorem dX4_tells_29 : decode cX4_tells 29 = .ok (.invokestatic 33, 3) := by decide +kernel
theorem dX4_tells_32 : decode cX4_tells 32 = .ok (.ifCond .ne 6, 3) := by decide +kernel
theorem dX4_tells_35 : decode cX4_tells 35 = .ok (.ldc 40, 2) := by decide +kernel
theorem dX4_tells_37 : decode cX4_tells 37 = .ok (.ireturn, 1) := by decide +kernel
theorem dX4_tells_38 : decode cX4_tells 38 = .ok (.aload_n 0, 1) := by decide +kernel
theorem dX4_tells_39 : decode cX4_tells 39 = .ok (.iload_n 1, 1) := by decide +kernel
theorem dX4_tells_40 : decode cX4_tells 40 = .ok (.invokevirtual 57, 3) := by decide +kernel
theorem dX4_tells_43 : decode cX4_tells 43 = .ok (.ifCond .eq 16, 3) := by decide +kernel
theorem dX4_tells_46 : decode cX4_tells 46 = .ok (.aload_n 0, 1) := by decide +kernel
theorem dX4_tells_47 : decode cX4_tells 47 = .ok (.iload_n 1, 1) := by decide +kernel
theorem dX4_tells_48 : decode cX4_tells 48 = .ok (.iload_n 2, 1) := by decide +kernel
theorem dX4_tells_49 : decode cX4_tells 49 = .ok (.iconst 1, 1) := by decide +kernel
theorem dX4_tells_50 : decode cX4_tells 50 = .ok (.iload_n 3, 1) := by decide +kernel
theorem dX4_tells_51 : decode cX4_tells 51 = .ok (.iload 4, 2) := by decide +kernel
theorem dX4_tells_53 : decode cX4_tells 53 = .ok (.invokevirtual 91, 3) := by decide +kernel
theorem dX4_tells_56 : decode cX4_tells 56 = .ok (.goto 5, 3) := by decide +kernel
theorem dX4_tells_59 : decode cX4_tells 59 = .ok (.ldc 60, 2) := by decide +kernel
theorem dX4_tells_61 : decode cX4_tells 61 = .ok (.ireturn, 1) := by decide +kernel
theorem dX4_tell_0 : decode cX4_tell 0 = .ok (.aload_n 0, 1) := by decide +kernel
theorem dX4_tell_1 : decode cX4_tell 1 = .ok (.invokevirtual 46, 3) := by decide +kernel
theorem dX4_tell_4 : decode cX4_tell 4 = .ok (.aload_n 0, 1) := by decide +kernel
theorem dX4_tell_5 : decode cX4_tell 5 = .ok (.aload_n 0, 1) := by decide +kernel
theorem dX4_tell_6 : decode cX4_tell 6 = .ok (.iload_n 1, 1) := by decide +kernel
theorem dX4_tell_7 : decode cX4_tell 7 = .ok (.iload_n 2, 1) := by decide +kernel
theorem dX4_tell_8 : decode cX4_tell 8 = .ok (.iload_n 3, 1) := by decide +kernel
theorem dX4_tell_9 : decode cX4_tell 9 = .ok (.iload 4, 2) := by decide +kernel
theorem dX4_tell_11 : decode cX4_tell 11 = .ok (.invokevirtual 95, 3) := by decide +kernel
theorem dX4_tell_14 : decode cX4_tell 14 = .ok (.invokevirtual 49, 3) := by decide +kernel
theorem dX4_tell_17 : decode cX4_tell 17 = .ok (.ireturn, 1) := by decide +kernel
theorem dX4_buries_0 : decode cX4_buries 0 = .ok (.aload_n 0, 1) := by decide +kernel
theorem dX4_buries_1 : decode cX4_buries 1 = .ok (.iload_n 1, 1) := by decide +kernel
theorem dX4_buries_2 : decode cX4_buries 2 = .ok (.invokevirtual 53, 3) := by decide +kernel
theorem dX4_buries_5 : decode cX4_buries 5 = .ok (.ifCond .eq 10, 3) := by decide +kernel
theorem dX4_buries_8 : decode cX4_buries 8 = .ok (.iload_n 2, 1) := by decide +kernel
theorem dX4_buries_9 : decode cX4_buries 9 = .ok (.invokestatic 88, 3) := by decide +kernel
theorem dX4_buries_12 : decode cX4_buries 12 = .ok (.ifCond .ne 6, 3) := by decide +kernel
theorem dX4_buries_15 : decode cX4_buries 15 = .ok (.ldc 40, 2) := by decide +kernel
theorem dX4_buries_17 : decode cX4_buries 17 = .ok (.ireturn, 1) := by decide +kernel
theorem dX4_buries_18 : decode cX4_buries 18 = .ok (.aload_n 0, 1) := by decide +kernel
theorem dX4_buries_19 : decode cX4_buries 19 = .ok (.iload_n 1, 1) := by decide +kernel
theorem dX4_buries_20 : decode cX4_buries 20 = .ok (.invokevirtual 57, 3) := by decide +kernel
theorem dX4_buries_23 : decode cX4_buries 23 = .ok (.ifCond .eq 14, 3) := by decide +kernel
theorem dX4_buries_26 : decode cX4_buries 26 = .ok (.aload_n 0, 1) := by decide +kernel
theorem dX4_buries_27 : decode cX4_buries 27 = .ok (.iload_n 1, 1) := by decide +kernel
theorem dX4_buries_28 : decode cX4_buries 28 = .ok (.iload_n 2, 1) := by decide +kernel
theorem dX4_buries_29 : decode cX4_buries 29 = .ok (.iconst 0, 1) := by decide +kernel
theorem dX4_buries_30 : decode cX4_buries 30 = .ok (.invokevirtual 73, 3) := by decide +kernel
theorem dX4_buries_33 : decode cX4_buries 33 = .ok (.iconst 1, 1) := by decide +kernel
theorem dX4_buries_34 : decode cX4_buries 34 = .ok (.if_icmp .eq 6, 3) := by decide +kernel
theorem dX4_buries_37 : decode cX4_buries 37 = .ok (.ldc 60, 2) := by decide +kernel
theorem dX4_buries_39 : decode cX4_buries 39 = .ok (.ireturn, 1) := by decide +kernel
theorem dX4_buries_40 : decode cX4_buries 40 = .ok (.aload_n 0, 1) := by decide +kernel
theorem dX4_buries_41 : decode cX4_buries 41 = .ok (.iload_n 1, 1) := by decide +kernel
theorem dX4_buries_42 : decode cX4_buries 42 = .ok (.iload_n 2, 1) := by decide +kernel
theorem dX4_buries_43 : decode cX4_buries 43 = .ok (.iconst 2, 1) := by decide +kernel
theorem dX4_buries_44 : decode cX4_buries 44 = .ok (.iconst 0, 1) := by decide +kernel
theorem dX4_buries_45 : decode cX4_buries 45 = .ok (.iconst 0, 1) := by decide +kernel
theorem dX4_buries_46 : decode cX4_buries 46 = .ok (.invokevirtual 91, 3) := by decide +kernel
theorem dX4_buries_49 : decode cX4_buries 49 = .ok (.istore_n 3, 1) := by decide +kernel
theorem dX4_buries_50 : decode cX4_buries 50 = .ok (.aload_n 0, 1) := by decide +kernel
theorem dX4_buries_51 : decode cX4_buries 51 = .ok (.getfield 7, 3) := by decide +kernel
theorem dX4_buries_54 : decode cX4_buries 54 = .ok (.iconst 4, 1) := by decide +kernel
theorem dX4_buries_55 : decode cX4_buries 55 = .ok (.dup2, 1) := by decide +kernel
theorem dX4_buries_56 : decode cX4_buries 56 = .ok (.iaload, 1) := by decide +kernel
theorem dX4_buries_57 : decode cX4_buries 57 = .ok (.iconst 1, 1) := by decide +kernel
theorem dX4_buries_58 : decode cX4_buries 58 = .ok (.iadd, 1) := by decide +kernel
theorem dX4_buries_59 : decode cX4_buries 59 = .ok (.iastore, 1) := by decide +kernel
theorem dX4_buries_60 : decode cX4_buries 60 = .ok (.iload_n 3, 1) := by decide +kernel
theorem dX4_buries_61 : decode cX4_buries 61 = .ok (.iload_n 1, 1) := by decide +kernel
theorem dX4_buries_62 : decode cX4_buries 62 = .ok (.aload_n 0, 1) := by decide +kernel
theorem dX4_buries_63 : decode cX4_buries 63 = .ok (.getfield 7, 3) := by decide +kernel
theorem dX4_buries_66 : decode cX4_buries 66 = .ok (.bipush 33, 2) := by decide +kernel
theorem dX4_buries_68 : decode cX4_buries 68 = .ok (.iconst 2, 1) := by decide +kernel
theorem dX4_buries_69 : decode cX4_buries 69 = .ok (.iload_n 2, 1) := by decide +kernel
theorem dX4_buries_70 : decode cX4_buries 70 = .ok (.imul, 1) := by decide +kernel
theorem dX4_buries_71 : decode cX4_buries 71 = .ok (.iadd, 1) := by decide +kernel
theorem dX4_buries_72 : decode cX4_buries 72 = .ok (.iaload, 1) := by decide +kernel
theorem dX4_buries_73 : decode cX4_buries 73 = .ok (.aload_n 0, 1) := by decide +kernel
theorem dX4_buries_74 : decode cX4_buries 74 = .ok (.getfield 7, 3) := by decide +kernel
theorem dX4_buries_77 : decode cX4_buries 77 = .ok (.bipush 33, 2) := by decide +kernel
theorem dX4_buries_79 : decode cX4_buries 79 = .ok (.iconst 2, 1) := by decide +kernel
theorem dX4_buries_80 : decode cX4_buries 80 = .ok (.iload_n 2, 1) := by decide +kernel
theorem dX4_buries_81 : decode cX4_buries 81 = .ok (.imul, 1) := by decide +kernel
theorem dX4_buries_82 : decode cX4_buries 82 = .ok (.iadd, 1) := by decide +kernel
theorem dX4_buries_83 : decode cX4_buries 83 = .ok (.iconst 1, 1) := by decide +kernel
theorem dX4_buries_84 : decode cX4_buries 84 = .ok (.iadd, 1) := by decide +kernel
theorem dX4_buries_85 : decode cX4_buries 85 = .ok (.iaload, 1) := by decide +kernel
theorem dX4_buries_86 : decode cX4_buries 86 = .ok (.invokestatic 81, 3) := by decide +kernel
theorem dX4_buries_89 : decode cX4_buries 89 = .ok (.ifCond .eq 29, 3) := by decide +kernel
theorem dX4_buries_92 : decode cX4_buries 92 = .ok (.aload_n 0, 1) := by decide +kernel
theorem dX4_buries_93 : decode cX4_buries 93 = .ok (.getfield 7, 3) := by decide +kernel
theorem dX4_buries_96 : decode cX4_buries 96 = .ok (.bipush 33, 2) := by decide +kernel
theorem dX4_buries_98 : decode cX4_buries 98 = .ok (.iconst 2, 1) := by decide +kernel
theorem dX4_buries_99 : decode cX4_buries 99 = .ok (.iload_n 2, 1) := by decide +kernel
theorem dX4_buries_100 : decode cX4_buries 100 = .ok (.imul, 1) := by decide +kernel
theorem dX4_buries_101 : decode cX4_buries 101 = .ok (.iadd, 1) := by decide +kernel
theorem dX4_buries_102 : decode cX4_buries 102 = .ok (.iload_n 3, 1) := by decide +kernel
theorem dX4_buries_103 : decode cX4_buries 103 = .ok (.iastore, 1) := by decide +kernel
theorem dX4_buries_104 : decode cX4_buries 104 = .ok (.aload_n 0, 1) := by decide +kernel
theorem dX4_buries_105 : decode cX4_buries 105 = .ok (.getfield 7, 3) := by decide +kernel
theorem dX4_buries_108 : decode cX4_buries 108 = .ok (.bipush 33, 2) := by decide +kernel
theorem dX4_buries_110 : decode cX4_buries 110 = .ok (.iconst 2, 1) := by decide +kernel
theorem dX4_buries_111 : decode cX4_buries 111 = .ok (.iload_n 2, 1) := by decide +kernel
theorem dX4_buries_112 : decode cX4_buries 112 = .ok (.imul, 1) := by decide +kernel
theorem dX4_buries_113 : decode cX4_buries 113 = .ok (.iadd, 1) := by decide +kernel
theorem dX4_buries_114 : decode cX4_buries 114 = .ok (.iconst 1, 1) := by decide +kernel
theorem dX4_buries_115 : decode cX4_buries 115 = .ok (.iadd, 1) := by decide +kernel
theorem dX4_buries_116 : decode cX4_buries 116 = .ok (.iload_n 1, 1) := by decide +kernel
theorem dX4_buries_117 : decode cX4_buries 117 = .ok (.iastore, 1) := by decide +kernel
theorem dX4_buries_118 : decode cX4_buries 118 = .ok (.iload_n 3, 1) := by decide +kernel
theorem dX4_buries_119 : decode cX4_buries 119 = .ok (.ireturn, 1) := by decide +kernel
theorem dX4_bury_0 : decode cX4_bury 0 = .ok (.aload_n 0, 1) := by decide +kernel
theorem dX4_bury_1 : decode cX4_bury 1 = .ok (.invokevirtual 46, 3) := by decide +kernel
theorem dX4_bury_4 : decode cX4_bury 4 = .ok (.aload_n 0, 1) := by decide +kernel
theorem dX4_bury_5 : decode cX4_bury 5 = .ok (.aload_n 0, 1) := by decide +kernel
theorem dX4_bury_6 : decode cX4_bury 6 = .ok (.iload_n 1, 1) := by decide +kernel
theorem dX4_bury_7 : decode cX4_bury 7 = .ok (.iload_n 2, 1) := by decide +kernel
theorem dX4_bury_8 : decode cX4_bury 8 = .ok (.invokevirtual 99, 3) := by decide +kernel
theorem dX4_bury_11 : decode cX4_bury 11 = .ok (.invokevirtual 49, 3) := by decide +kernel
theorem dX4_bury_14 : decode cX4_bury 14 = .ok (.ireturn, 1) := by decide +kernel
theorem dX4_mayPass_0 : decode cX4_mayPass 0 = .ok (.aload_n 0, 1) := by decide +kernel
theorem dX4_mayPass_1 : decode cX4_mayPass 1 = .ok (.iload_n 1, 1) := by decide +kernel
theorem dX4_mayPass_2 : decode cX4_mayPass 2 = .ok (.iload_n 3, 1) := by decide +kernel
theorem dX4_mayPass_3 : decode cX4_mayPass 3 = .ok (.iconst 0, 1) := by decide +kernel
theorem dX4_mayPass_4 : decode cX4_mayPass 4 = .ok (.invokevirtual 73, 3) := by decide +kernel
theorem dX4_mayPass_7 : decode cX4_mayPass 7 = .ok (.iconst 2, 1) := by decide +kernel
theorem dX4_mayPass_8 : decode cX4_mayPass 8 = .ok (.if_icmp .ne 7, 3) := by decide +kernel
theorem dX4_mayPass_11 : decode cX4_mayPass 11 = .ok (.iconst 0, 1) := by decide +kernel
theorem dX4_mayPass_12 : decode cX4_mayPass 12 = .ok (.goto 10, 3) := by decide +kernel
theorem dX4_mayPass_15 : decode cX4_mayPass 15 = .ok (.aload_n 0, 1) := by decide +kernel
theorem dX4_mayPass_16 : decode cX4_mayPass 16 = .ok (.iload_n 1, 1) := by decide +kernel
theorem dX4_mayPass_17 : decode cX4_mayPass 17 = .ok (.iload_n 3, 1) := by decide +kernel
theorem dX4_mayPass_18 : decode cX4_mayPass 18 = .ok (.iconst 4, 1) := by decide +kernel
theorem dX4_mayPass_19 : decode cX4_mayPass 19 = .ok (.invokevirtual 73, 3) := by decide +kernel
theorem dX4_mayPass_22 : decode cX4_mayPass 22 = .ok (.istore 4, 2) := by decide +kernel
theorem dX4_mayPass_24 : decode cX4_mayPass 24 = .ok (.iload 4, 2) := by decide +kernel
theorem dX4_mayPass_26 : decode cX4_mayPass 26 = .ok (.ifCond .eq 25, 3) := by decide +kernel
theorem dX4_mayPass_29 : decode cX4_mayPass 29 = .ok (.aload_n 0, 1) := by decide +kernel
theorem dX4_mayPass_30 : decode cX4_mayPass 30 = .ok (.iload_n 1, 1) := by decide +kernel
theorem dX4_mayPass_31 : decode cX4_mayPass 31 = .ok (.iload_n 3, 1) := by decide +kernel
theorem dX4_mayPass_32 : decode cX4_mayPass 32 = .ok (.iconst 2, 1) := by decide +kernel
theorem dX4_mayPass_33 : decode cX4_mayPass 33 = .ok (.invokevirtual 73, 3) := by decide +kernel
theorem dX4_mayPass_36 : decode cX4_mayPass 36 = .ok (.iload_n 1, 1) := by decide +kernel
theorem dX4_mayPass_37 : decode cX4_mayPass 37 = .ok (.if_icmp .ne 18, 3) := by decide +kernel
theorem dX4_mayPass_40 : decode cX4_mayPass 40 = .ok (.iload 4, 2) := by decide +kernel
theorem dX4_mayPass_42 : decode cX4_mayPass 42 = .ok (.iconst 1, 1) := by decide +kernel
theorem dX4_mayPass_43 : decode cX4_mayPass 43 = .ok (.if_icmp .eq 8, 3) := by decide +kernel
theorem dX4_mayPass_46 : decode cX4_mayPass 46 = .ok (.iload_n 2, 1) := by decide +kernel
theorem dX4_mayPass_47 : decode cX4_mayPass 47 = .ok (.iload_n 1, 1) := by decide +kernel
theorem dX4_mayPass_48 : decode cX4_mayPass 48 = .ok (.if_icmp .le 7, 3) := by decide +kernel
theorem dX4_mayPass_51 : decode cX4_mayPass 51 = .ok (.iconst 1, 1) := by decide +kernel
theorem dX4_mayPass_52 : decode cX4_mayPass 52 = .ok (.goto 4, 3) := by decide +kernel
theorem dX4_mayPass_55 : decode cX4_mayPass 55 = .ok (.iconst 0, 1) := by decide +kernel
theorem dX4_mayPass_56 : decode cX4_mayPass 56 = .ok (.ireturn, 1) := by decide +kernel
theorem dX4_isGhost_0 : decode cX4_isGhost 0 = .ok (.bipush 57, 2) := by decide +kernel
theorem dX4_isGhost_2 : decode cX4_isGhost 2 = .ok (.bipush 24, 2) := by decide +kernel
theorem dX4_isGhost_4 : decode cX4_isGhost 4 = .ok (.iload_n 2, 1) := by decide +kernel
theorem dX4_isGhost_5 : decode cX4_isGhost 5 = .ok (.imul, 1) := by decide +kernel
theorem dX4_isGhost_6 : decode cX4_isGhost 6 = .ok (.iadd, 1) := by decide +kernel
theorem dX4_isGhost_7 : decode cX4_isGhost 7 = .ok (.iconst 2, 1) := by decide +kernel
theorem dX4_isGhost_8 : decode cX4_isGhost 8 = .ok (.iload_n 3, 1) := by decide +kernel
theorem dX4_isGhost_9 : decode cX4_isGhost 9 = .ok (.imul, 1) := by decide +kernel
theorem dX4_isGhost_10 : decode cX4_isGhost 10 = .ok (.iadd, 1) := by decide +kernel
theorem dX4_isGhost_11 : decode cX4_isGhost 11 = .ok (.istore 4, 2) := by decide +kernel
theorem dX4_isGhost_13 : decode cX4_isGhost 13 = .ok (.aload_n 0, 1) := by decide +kernel
theorem dX4_isGhost_14 : decode cX4_isGhost 14 = .ok (.iload_n 1, 1) := by decide +kernel
theorem dX4_isGhost_15 : decode cX4_isGhost 15 = .ok (.iload_n 3, 1) := by decide +kernel
theorem dX4_isGhost_16 : decode cX4_isGhost 16 = .ok (.iconst 0, 1) := by decide +kernel
theorem dX4_isGhost_17 : decode cX4_isGhost 17 = .ok (.invokevirtual 73, 3) := by decide +kernel
theorem dX4_isGhost_20 : decode cX4_isGhost 20 = .ok (.iconst 1, 1) := by decide +kernel
theorem dX4_isGhost_21 : decode cX4_isGhost 21 = .ok (.if_icmp .ne 43, 3) := by decide +kernel
theorem dX4_isGhost_24 : decode cX4_isGhost 24 = .ok (.aload_n 0, 1) := by decide +kernel
theorem dX4_isGhost_25 : decode cX4_isGhost 25 = .ok (.getfield 7, 3) := by decide +kernel
theorem dX4_isGhost_28 : decode cX4_isGhost 28 = .ok (.iload 4, 2) := by decide +kernel
theorem dX4_isGhost_30 : decode cX4_isGhost 30 = .ok (.iaload, 1) := by decide +kernel
theorem dX4_isGhost_31 : decode cX4_isGhost 31 = .ok (.aload_n 0, 1) := by decide +kernel
theorem dX4_isGhost_32 : decode cX4_isGhost 32 = .ok (.getfield 7, 3) := by decide +kernel
theorem dX4_isGhost_35 : decode cX4_isGhost 35 = .ok (.iload 4, 2) := by decide +kernel
theorem dX4_isGhost_37 : decode cX4_isGhost 37 = .ok (.iconst 1, 1) := by decide +kernel
theorem dX4_isGhost_38 : decode cX4_isGhost 38 = .ok (.iadd, 1) := by decide +kernel
theorem dX4_isGhost_39 : decode cX4_isGhost 39 = .ok (.iaload, 1) := by decide +kernel
theorem dX4_isGhost_40 : decode cX4_isGhost 40 = .ok (.aload_n 0, 1) := by decide +kernel
theorem dX4_isGhost_41 : decode cX4_isGhost 41 = .ok (.iload_n 1, 1) := by decide +kernel
theorem dX4_isGhost_42 : decode cX4_isGhost 42 = .ok (.iload_n 3, 1) := by decide +kernel
theorem dX4_isGhost_43 : decode cX4_isGhost 43 = .ok (.iconst 1, 1) := by decide +kernel
theorem dX4_isGhost_44 : decode cX4_isGhost 44 = .ok (.invokevirtual 73, 3) := by decide +kernel
theorem dX4_isGhost_47 : decode cX4_isGhost 47 = .ok (.aload_n 0, 1) := by decide +kernel
theorem dX4_isGhost_48 : decode cX4_isGhost 48 = .ok (.iload_n 1, 1) := by decide +kernel
theorem dX4_isGhost_49 : decode cX4_isGhost 49 = .ok (.iload_n 3, 1) := by decide +kernel
theorem dX4_isGhost_50 : decode cX4_isGhost 50 = .ok (.iconst 2, 1) := by decide +kernel
theorem dX4_isGhost_51 : decode cX4_isGhost 51 = .ok (.invokevirtual 73, 3) := by decide +kernel
theorem dX4_isGhost_54 : decode cX4_isGhost 54 = .ok (.invokestatic 81, 3) := by decide +kernel
theorem dX4_isGhost_57 : decode cX4_isGhost 57 = .ok (.ifCond .eq 7, 3) := by decide +kernel
theorem dX4_isGhost_60 : decode cX4_isGhost 60 = .ok (.iconst 1, 1) := by decide +kernel
theorem dX4_isGhost_61 : decode cX4_isGhost 61 = .ok (.goto 4, 3) := by decide +kernel
theorem dX4_isGhost_64 : decode cX4_isGhost 64 = .ok (.iconst 0, 1) := by decide +kernel
theorem dX4_isGhost_65 : decode cX4_isGhost 65 = .ok (.ireturn, 1) := by decide +kernel
theorem dX4_passes_0 : decode cX4_passes 0 = .ok (.aload_n 0, 1) := by decide +kernel
theorem dX4_passes_1 : decode cX4_passes 1 = .ok (.iload_n 1, 1) := by decide +kernel
theorem dX4_passes_2 : decode cX4_passes 2 = .ok (.iload_n 2, 1) := by decide +kernel
theorem dX4_passes_3 : decode cX4_passes 3 = .ok (.iload_n 3, 1) := by decide +kernel
theorem dX4_passes_4 : decode cX4_passes 4 = .ok (.invokevirtual 85, 3) := by decide +kernel
theorem dX4_passes_7 : decode cX4_passes 7 = .ok (.ifCond .eq 13, 3) := by decide +kernel
theorem dX4_passes_10 : decode cX4_passes 10 = .ok (.aload_n 0, 1) := by decide +kernel
theorem dX4_passes_11 : decode cX4_passes 11 = .ok (.iload_n 1, 1) := by decide +kernel
theorem dX4_passes_12 : decode cX4_passes 12 = .ok (.iload_n 2, 1) := by decide +kernel
theorem dX4_passes_13 : decode cX4_passes 13 = .ok (.iload_n 3, 1) := by decide +kernel
theorem dX4_passes_14 : decode cX4_passes 14 = .ok (.invokevirtual 102, 3) := by decide +kernel
theorem dX4_passes_17 : decode cX4_passes 17 = .ok (.ifCond .ne 5, 3) := by decide +kernel
theorem dX4_passes_20 : decode cX4_passes 20 = .ok (.iconst 0, 1) := by decide +kernel
theorem dX4_passes_21 : decode cX4_passes 21 = .ok (.ireturn, 1) := by decide +kernel
theorem dX4_passes_22 : decode cX4_passes 22 = .ok (.aload_n 0, 1) := by decide +kernel
theorem dX4_passes_23 : decode cX4_passes 23 = .ok (.iload_n 1, 1) := by decide +kernel
theorem dX4_passes_24 : decode cX4_passes 24 = .ok (.iload_n 2, 1) := by decide +kernel
theorem dX4_passes_25 : decode cX4_passes 25 = .ok (.iload_n 3, 1) := by decide +kernel
theorem dX4_passes_26 : decode cX4_passes 26 = .ok (.invokevirtual 105, 3) := by decide +kernel
theorem dX4_passes_29 : decode cX4_passes 29 = .ok (.ifCond .eq 29, 3) := by decide +kernel
theorem dX4_passes_32 : decode cX4_passes 32 = .ok (.aload_n 0, 1) := by decide +kernel
theorem dX4_passes_33 : decode cX4_passes 33 = .ok (.getfield 7, 3) := by decide +kernel
theorem dX4_passes_36 : decode cX4_passes 36 = .ok (.iconst 5, 1) := by decide +kernel
theorem dX4_passes_37 : decode cX4_passes 37 = .ok (.iconst 4, 1) := by decide +kernel
theorem dX4_passes_38 : decode cX4_passes 38 = .ok (.iload_n 2, 1) := by decide +kernel
theorem dX4_passes_39 : decode cX4_passes 39 = .ok (.imul, 1) := by decide +kernel
theorem dX4_passes_40 : decode cX4_passes 40 = .ok (.iadd, 1) := by decide +kernel
theorem dX4_passes_41 : decode cX4_passes 41 = .ok (.iconst 2, 1) := by decide +kernel
theorem dX4_passes_42 : decode cX4_passes 42 = .ok (.iadd, 1) := by decide +kernel
theorem dX4_passes_43 : decode cX4_passes 43 = .ok (.dup2, 1) := by decide +kernel
theorem dX4_passes_44 : decode cX4_passes 44 = .ok (.iaload, 1) := by decide +kernel
theorem dX4_passes_45 : decode cX4_passes 45 = .ok (.iconst 1, 1) := by decide +kernel
theorem dX4_passes_46 : decode cX4_passes 46 = .ok (.iadd, 1) := by decide +kernel
theorem dX4_passes_47 : decode cX4_passes 47 = .ok (.iastore, 1) := by decide +kernel
theorem dX4_passes_48 : decode cX4_passes 48 = .ok (.aload_n 0, 1) := by decide +kernel
theorem dX4_passes_49 : decode cX4_passes 49 = .ok (.getfield 7, 3) := by decide +kernel
theorem dX4_passes_52 : decode cX4_passes 52 = .ok (.iconst 3, 1) := by decide +kernel
theorem dX4_passes_53 : decode cX4_passes 53 = .ok (.dup2, 1) := by decide +kernel
theorem dX4_passes_54 : decode cX4_passes 54 = .ok (.iaload, 1) := by decide +kernel
theorem dX4_passes_55 : decode cX4_passes 55 = .ok (.iconst 1, 1) := by decide +kernel
theorem dX4_passes_56 : decode cX4_passes 56 = .ok (.iadd, 1) := by decide +kernel
theorem dX4_passes_57 : decode cX4_passes 57 = .ok (.iastore, 1) := by decide +kernel
theorem dX4_passes_58 : decode cX4_passes 58 = .ok (.iconst 0, 1) := by decide +kernel
theorem dX4_passes_59 : decode cX4_passes 59 = .ok (.istore 4, 2) := by decide +kernel
theorem dX4_passes_61 : decode cX4_passes 61 = .ok (.iload 4, 2) := by decide +kernel
theorem dX4_passes_63 : decode cX4_passes 63 = .ok (.bipush 7, 2) := by decide +kernel
theorem dX4_passes_65 : decode cX4_passes 65 = .ok (.if_icmp .ge 30, 3) := by decide +kernel
theorem dX4_passes_68 : decode cX4_passes 68 = .ok (.aload_n 0, 1) := by decide +kernel
theorem dX4_passes_69 : decode cX4_passes 69 = .ok (.getfield 7, 3) := by decide +kernel
theorem dX4_passes_72 : decode cX4_passes 72 = .ok (.iload_n 2, 1) := by decide +kernel
theorem dX4_passes_73 : decode cX4_passes 73 = .ok (.iload_n 3, 1) := by decide +kernel
theorem dX4_passes_74 : decode cX4_passes 74 = .ok (.invokestatic 29, 3) := by decide +kernel
theorem dX4_passes_77 : decode cX4_passes 77 = .ok (.iload 4, 2) := by decide +kernel
theorem dX4_passes_79 : decode cX4_passes 79 = .ok (.iadd, 1) := by decide +kernel
theorem dX4_passes_80 : decode cX4_passes 80 = .ok (.aload_n 0, 1) := by decide +kernel
theorem dX4_passes_81 : decode cX4_passes 81 = .ok (.iload_n 1, 1) := by decide +kernel
theorem dX4_passes_82 : decode cX4_passes 82 = .ok (.iload_n 3, 1) := by decide +kernel
theorem dX4_passes_83 : decode cX4_passes 83 = .ok (.iload 4, 2) := by decide +kernel
theorem dX4_passes_85 : decode cX4_passes 85 = .ok (.invokevirtual 73, 3) := by decide +kernel
theorem dX4_passes_88 : decode cX4_passes 88 = .ok (.iastore, 1) := by decide +kernel
theorem dX4_passes_89 : decode cX4_passes 89 = .ok (.iinc 4 1, 3) := by decide +kernel
theorem dX4_passes_92 : decode cX4_passes 92 = .ok (.goto (-31), 3) := by decide +kernel
theorem dX4_passes_95 : decode cX4_passes 95 = .ok (.iconst 1, 1) := by decide +kernel
theorem dX4_passes_96 : decode cX4_passes 96 = .ok (.ireturn, 1) := by decide +kernel
theorem dX4_meets_0 : decode cX4_meets 0 = .ok (.aload_n 0, 1) := by decide +kernel
theorem dX4_meets_1 : decode cX4_meets 1 = .ok (.iload_n 1, 1) := by decide +kernel
theorem dX4_meets_2 : decode cX4_meets 2 = .ok (.iconst 1, 1) := by decide +kernel
theorem dX4_meets_3 : decode cX4_meets 3 = .ok (.invokevirtual 37, 3) := by decide +kernel
theorem dX4_meets_6 : decode cX4_meets 6 = .ok (.aload_n 0, 1) := by decide +kernel
theorem dX4_meets_7 : decode cX4_meets 7 = .ok (.iload_n 2, 1) := by decide +kernel
theorem dX4_meets_8 : decode cX4_meets 8 = .ok (.iconst 1, 1) := by decide +kernel
theorem dX4_meets_9 : decode cX4_meets 9 = .ok (.invokevirtual 37, 3) := by decide +kernel
theorem dX4_meets_12 : decode cX4_meets 12 = .ok (.if_icmp .le 12, 3) := by decide +kernel
theorem dX4_meets_15 : decode cX4_meets 15 = .ok (.aload_n 0, 1) := by decide +kernel
theorem dX4_meets_16 : decode cX4_meets 16 = .ok (.iload_n 1, 1) := by decide +kernel
theorem dX4_meets_17 : decode cX4_meets 17 = .ok (.iconst 1, 1) := by decide +kernel
theorem dX4_meets_18 : decode cX4_meets 18 = .ok (.invokevirtual 37, 3) := by decide +kernel
theorem dX4_meets_21 : decode cX4_meets 21 = .ok (.goto 9, 3) := by decide +kernel
theorem dX4_meets_24 : decode cX4_meets 24 = .ok (.aload_n 0, 1) := by decide +kernel
theorem dX4_meets_25 : decode cX4_meets 25 = .ok (.iload_n 2, 1) := by decide +kernel
theorem dX4_meets_26 : decode cX4_meets 26 = .ok (.iconst 1, 1) := by decide +kernel
theorem dX4_meets_27 : decode cX4_meets 27 = .ok (.invokevirtual 37, 3) := by decide +kernel
theorem dX4_meets_30 : decode cX4_meets 30 = .ok (.istore_n 3, 1) := by decide +kernel
theorem dX4_meets_31 : decode cX4_meets 31 = .ok (.aload_n 0, 1) := by decide +kernel
theorem dX4_meets_32 : decode cX4_meets 32 = .ok (.getfield 7, 3) := by decide +kernel
theorem dX4_meets_35 : decode cX4_meets 35 = .ok (.iconst 5, 1) := by decide +kernel
theorem dX4_meets_36 : decode cX4_meets 36 = .ok (.iconst 4, 1) := by decide +kernel
theorem dX4_meets_37 : decode cX4_meets 37 = .ok (.iload_n 1, 1) := by decide +kernel
theorem dX4_meets_38 : decode cX4_meets 38 = .ok (.imul, 1) := by decide +kernel
theorem dX4_meets_39 : decode cX4_meets 39 = .ok (.iadd, 1) := by decide +kernel
theorem dX4_meets_40 : decode cX4_meets 40 = .ok (.iconst 1, 1) := by decide +kernel
theorem dX4_meets_41 : decode cX4_meets 41 = .ok (.iadd, 1) := by decide +kernel
theorem dX4_meets_42 : decode cX4_meets 42 = .ok (.iload_n 3, 1) := by decide +kernel
theorem dX4_meets_43 : decode cX4_meets 43 = .ok (.iastore, 1) := by decide +kernel
theorem dX4_meets_44 : decode cX4_meets 44 = .ok (.aload_n 0, 1) := by decide +kernel
theorem dX4_meets_45 : decode cX4_meets 45 = .ok (.getfield 7, 3) := by decide +kernel
theorem dX4_meets_48 : decode cX4_meets 48 = .ok (.iconst 5, 1) := by decide +kernel
theorem dX4_meets_49 : decode cX4_meets 49 = .ok (.iconst 4, 1) := by decide +kernel
theorem dX4_meets_50 : decode cX4_meets 50 = .ok (.iload_n 2, 1) := by decide +kernel
theorem dX4_meets_51 : decode cX4_meets 51 = .ok (.imul, 1) := by decide +kernel
theorem dX4_meets_52 : decode cX4_meets 52 = .ok (.iadd, 1) := by decide +kernel
theorem dX4_meets_53 : decode cX4_meets 53 = .ok (.iconst 1, 1) := by decide +kernel
theorem dX4_meets_54 : decode cX4_meets 54 = .ok (.iadd, 1) := by decide +kernel
theorem dX4_meets_55 : decode cX4_meets 55 = .ok (.iload_n 3, 1) := by decide +kernel
theorem dX4_meets_56 : decode cX4_meets 56 = .ok (.iastore, 1) := by decide +kernel
theorem dX4_meets_57 : decode cX4_meets 57 = .ok (.iconst 0, 1) := by decide +kernel
theorem dX4_meets_58 : decode cX4_meets 58 = .ok (.istore 4, 2) := by decide +kernel
theorem dX4_meets_60 : decode cX4_meets 60 = .ok (.iconst 0, 1) := by decide +kernel
theorem dX4_meets_61 : decode cX4_meets 61 = .ok (.istore 5, 2) := by decide +kernel
theorem dX4_meets_63 : decode cX4_meets 63 = .ok (.iload 5, 2) := by decide +kernel
theorem dX4_meets_65 : decode cX4_meets 65 = .ok (.bipush 12, 2) := by decide +kernel
theorem dX4_meets_67 : decode cX4_meets 67 = .ok (.if_icmp .ge 137, 3) := by decide +kernel
theorem dX4_meets_70 : decode cX4_meets 70 = .ok (.aload_n 0, 1) := by decide +kernel
theorem dX4_meets_71 : decode cX4_meets 71 = .ok (.iload_n 1, 1) := by decide +kernel
theorem dX4_meets_72 : decode cX4_meets 72 = .ok (.iload_n 2, 1) := by decide +kernel
theorem dX4_meets_73 : decode cX4_meets 73 = .ok (.iload 5, 2) := by decide +kernel
theorem dX4_meets_75 : decode cX4_meets 75 = .ok (.invokevirtual 108, 3) := by decide +kernel
theorem dX4_meets_78 : decode cX4_meets 78 = .ok (.istore 6, 2) := by decide +kernel
theorem dX4_meets_80 : decode cX4_meets 80 = .ok (.iload 4, 2) := by decide +kernel
theorem dX4_meets_82 : decode cX4_meets 82 = .ok (.iload 6, 2) := by decide +kernel
theorem dX4_meets_84 : decode cX4_meets 84 = .ok (.ifCond .le 7, 3) := by decide +kernel
theorem dX4_meets_87 : decode cX4_meets 87 = .ok (.iconst 1, 1) := by decide +kernel
theorem dX4_meets_88 : decode cX4_meets 88 = .ok (.goto 11, 3) := by decide +kernel
theorem dX4_meets_91 : decode cX4_meets 91 = .ok (.aload_n 0, 1) := by decide +kernel
theorem dX4_meets_92 : decode cX4_meets 92 = .ok (.iload_n 2, 1) := by decide +kernel
theorem dX4_meets_93 : decode cX4_meets 93 = .ok (.iload_n 1, 1) := by decide +kernel
theorem dX4_meets_94 : decode cX4_meets 94 = .ok (.iload 5, 2) := by decide +kernel
theorem dX4_meets_96 : decode cX4_meets 96 = .ok (.invokevirtual 108, 3) := by decide +kernel
theorem dX4_meets_99 : decode cX4_meets 99 = .ok (.iadd, 1) := by decide +kernel
theorem dX4_meets_100 : decode cX4_meets 100 = .ok (.istore 4, 2) := by decide +kernel
theorem dX4_meets_102 : decode cX4_meets 102 = .ok (.aload_n 0, 1) := by decide +kernel
theorem dX4_meets_103 : decode cX4_meets 103 = .ok (.iload_n 1, 1) := by decide +kernel
theorem dX4_meets_104 : decode cX4_meets 104 = .ok (.iload 5, 2) := by decide +kernel
theorem dX4_meets_106 : decode cX4_meets 106 = .ok (.iconst 0, 1) := by decide +kernel
theorem dX4_meets_107 : decode cX4_meets 107 = .ok (.invokevirtual 73, 3) := by decide +kernel
theorem dX4_meets_110 : decode cX4_meets 110 = .ok (.iconst 2, 1) := by decide +kernel
theorem dX4_meets_111 : decode cX4_meets 111 = .ok (.if_icmp .ne 87, 3) := by decide +kernel
theorem dX4_meets_114 : decode cX4_meets 114 = .ok (.aload_n 0, 1) := by decide +kernel
theorem dX4_meets_115 : decode cX4_meets 115 = .ok (.iload_n 2, 1) := by decide +kernel
theorem dX4_meets_116 : decode cX4_meets 116 = .ok (.iload 5, 2) := by decide +kernel
theorem dX4_meets_118 : decode cX4_meets 118 = .ok (.iconst 0, 1) := by decide +kernel
theorem dX4_meets_119 : decode cX4_meets 119 = .ok (.invokevirtual 73, 3) := by decide +kernel
theorem dX4_meets_122 : decode cX4_meets 122 = .ok (.iconst 2, 1) := by decide +kernel
theorem dX4_meets_123 : decode cX4_meets 123 = .ok (.if_icmp .ne 75, 3) := by decide +kernel
theorem dX4_meets_126 : decode cX4_meets 126 = .ok (.aload_n 0, 1) := by decide +kernel
theorem dX4_meets_127 : decode cX4_meets 127 = .ok (.iload_n 1, 1) := by decide +kernel
theorem dX4_meets_128 : decode cX4_meets 128 = .ok (.iload_n 2, 1) := by decide +kernel
theorem dX4_meets_129 : decode cX4_meets 129 = .ok (.iload 5, 2) := by decide +kernel
theorem dX4_meets_131 : decode cX4_meets 131 = .ok (.invokevirtual 111, 3) := by decide +kernel
theorem dX4_meets_134 : decode cX4_meets 134 = .ok (.ifCond .eq 64, 3) := by decide +kernel
theorem dX4_meets_137 : decode cX4_meets 137 = .ok (.aload_n 0, 1) := by decide +kernel
theorem dX4_meets_138 : decode cX4_meets 138 = .ok (.iload_n 1, 1) := by decide +kernel
theorem dX4_meets_139 : decode cX4_meets 139 = .ok (.iload 5, 2) := by decide +kernel
theorem dX4_meets_141 : decode cX4_meets 141 = .ok (.bipush 6, 2) := by decide +kernel
theorem dX4_meets_143 : decode cX4_meets 143 = .ok (.invokevirtual 73, 3) := by decide +kernel
theorem dX4_meets_146 : decode cX4_meets 146 = .ok (.aload_n 0, 1) := by decide +kernel
theorem dX4_meets_147 : decode cX4_meets 147 = .ok (.iload_n 2, 1) := by decide +kernel
theorem dX4_meets_148 : decode cX4_meets 148 = .ok (.iload 5, 2) := by decide +kernel
theorem dX4_meets_150 : decode cX4_meets 150 = .ok (.bipush 6, 2) := by decide +kernel
theorem dX4_meets_152 : decode cX4_meets 152 = .ok (.invokevirtual 73, 3) := by decide +kernel
theorem dX4_meets_155 : decode cX4_meets 155 = .ok (.ior, 1) := by decide +kernel
theorem dX4_meets_156 : decode cX4_meets 156 = .ok (.iconst 1, 1) := by decide +kernel
theorem dX4_meets_157 : decode cX4_meets 157 = .ok (.iload_n 1, 1) := by decide +kernel
theorem dX4_meets_158 : decode cX4_meets 158 = .ok (.ishl, 1) := by decide +kernel
theorem dX4_meets_159 : decode cX4_meets 159 = .ok (.ior, 1) := by decide +kernel
theorem dX4_meets_160 : decode cX4_meets 160 = .ok (.iconst 1, 1) := by decide +kernel
theorem dX4_meets_161 : decode cX4_meets 161 = .ok (.iload_n 2, 1) := by decide +kernel
theorem dX4_meets_162 : decode cX4_meets 162 = .ok (.ishl, 1) := by decide +kernel
theorem dX4_meets_163 : decode cX4_meets 163 = .ok (.ior, 1) := by decide +kernel
theorem dX4_meets_164 : decode cX4_meets 164 = .ok (.istore 7, 2) := by decide +kernel
theorem dX4_meets_166 : decode cX4_meets 166 = .ok (.aload_n 0, 1) := by decide +kernel
theorem dX4_meets_167 : decode cX4_meets 167 = .ok (.getfield 7, 3) := by decide +kernel
theorem dX4_meets_170 : decode cX4_meets 170 = .ok (.iload_n 1, 1) := by decide +kernel
theorem dX4_meets_171 : decode cX4_meets 171 = .ok (.iload 5, 2) := by decide +kernel
theorem dX4_meets_173 : decode cX4_meets 173 = .ok (.invokestatic 29, 3) := by decide +kernel
theorem dX4_meets_176 : decode cX4_meets 176 = .ok (.bipush 6, 2) := by decide +kernel
theorem dX4_meets_178 : decode cX4_meets 178 = .ok (.iadd, 1) := by decide +kernel
theorem dX4_meets_179 : decode cX4_meets 179 = .ok (.iload 7, 2) := by decide +kernel
theorem dX4_meets_181 : decode cX4_meets 181 = .ok (.iastore, 1) := by decide +kernel
theorem dX4_meets_182 : decode cX4_meets 182 = .ok (.aload_n 0, 1) := by decide +kernel
theorem dX4_meets_183 : decode cX4_meets 183 = .ok (.getfield 7, 3) := by decide +kernel
theorem dX4_meets_186 : decode cX4_meets 186 = .ok (.iload_n 2, 1) := by decide +kernel
theorem dX4_meets_187 : decode cX4_meets 187 = .ok (.iload 5, 2) := by decide +kernel
theorem dX4_meets_189 : decode cX4_meets 189 = .ok (.invokestatic 29, 3) := by decide +kernel
theorem dX4_meets_192 : decode cX4_meets 192 = .ok (.bipush 6, 2) := by decide +kernel
theorem dX4_meets_194 : decode cX4_meets 194 = .ok (.iadd, 1) := by decide +kernel
theorem dX4_meets_195 : decode cX4_meets 195 = .ok (.iload 7, 2) := by decide +kernel
theorem dX4_meets_197 : decode cX4_meets 197 = .ok (.iastore, 1) := by decide +kernel
theorem dX4_meets_198 : decode cX4_meets 198 = .ok (.iinc 5 1, 3) := by decide +kernel
theorem dX4_meets_201 : decode cX4_meets 201 = .ok (.goto (-138), 3) := by decide +kernel
theorem dX4_meets_204 : decode cX4_meets 204 = .ok (.iload 4, 2) := by decide +kernel
theorem dX4_meets_206 : decode cX4_meets 206 = .ok (.ireturn, 1) := by decide +kernel
theorem dX4_meetsOne_0 : decode cX4_meetsOne 0 = .ok (.aload_n 0, 1) := by decide +kernel
theorem dX4_meetsOne_1 : decode cX4_meetsOne 1 = .ok (.iload_n 1, 1) := by decide +kernel
theorem dX4_meetsOne_2 : decode cX4_meetsOne 2 = .ok (.invokevirtual 53, 3) := by decide +kernel
theorem dX4_meetsOne_5 : decode cX4_meetsOne 5 = .ok (.ifCond .eq 16, 3) := by decide +kernel
theorem dX4_meetsOne_8 : decode cX4_meetsOne 8 = .ok (.aload_n 0, 1) := by decide +kernel
theorem dX4_meetsOne_9 : decode cX4_meetsOne 9 = .ok (.iload_n 2, 1) := by decide +kernel
theorem dX4_meetsOne_10 : decode cX4_meetsOne 10 = .ok (.invokevirtual 53, 3) := by decide +kernel
theorem dX4_meetsOne_13 : decode cX4_meetsOne 13 = .ok (.ifCond .eq 8, 3) := by decide +kernel
theorem dX4_meetsOne_16 : decode cX4_meetsOne 16 = .ok (.iload_n 1, 1) := by decide +kernel
theorem dX4_meetsOne_17 : decode cX4_meetsOne 17 = .ok (.iload_n 2, 1) := by decide +kernel
theorem dX4_meetsOne_18 : decode cX4_meetsOne 18 = .ok (.if_icmp .ne 6, 3) := by decide +kernel
theorem dX4_meetsOne_21 : decode cX4_meetsOne 21 = .ok (.ldc 40, 2) := by decide +kernel
theorem dX4_meetsOne_23 : decode cX4_meetsOne 23 = .ok (.ireturn, 1) := by decide +kernel
theorem dX4_meetsOne_24 : decode cX4_meetsOne 24 = .ok (.aload_n 0, 1) := by decide +kernel
theorem dX4_meetsOne_25 : decode cX4_meetsOne 25 = .ok (.iload_n 1, 1) := by decide +kernel
theorem dX4_meetsOne_26 : decode cX4_meetsOne 26 = .ok (.invokevirtual 57, 3) := by decide +kernel
theorem dX4_meetsOne_29 : decode cX4_meetsOne 29 = .ok (.ifCond .eq 20, 3) := by decide +kernel
theorem dX4_meetsOne_32 : decode cX4_meetsOne 32 = .ok (.aload_n 0, 1) := by decide +kernel
theorem dX4_meetsOne_33 : decode cX4_meetsOne 33 = .ok (.iload_n 2, 1) := by decide +kernel
theorem dX4_meetsOne_34 : decode cX4_meetsOne 34 = .ok (.invokevirtual 57, 3) := by decide +kernel
theorem dX4_meetsOne_37 : decode cX4_meetsOne 37 = .ok (.ifCond .eq 12, 3) := by decide +kernel
theorem dX4_meetsOne_40 : decode cX4_meetsOne 40 = .ok (.aload_n 0, 1) := by decide +kernel
theorem dX4_meetsOne_41 : decode cX4_meetsOne 41 = .ok (.iload_n 1, 1) := by decide +kernel
theorem dX4_meetsOne_42 : decode cX4_meetsOne 42 = .ok (.iload_n 2, 1) := by decide +kernel
theorem dX4_meetsOne_43 : decode cX4_meetsOne 43 = .ok (.invokevirtual 114, 3) := by decide +kernel
theorem dX4_meetsOne_46 : decode cX4_meetsOne 46 = .ok (.goto 5, 3) := by decide +kernel
theorem dX4_meetsOne_49 : decode cX4_meetsOne 49 = .ok (.ldc 60, 2) := by decide +kernel
theorem dX4_meetsOne_51 : decode cX4_meetsOne 51 = .ok (.ireturn, 1) := by decide +kernel
theorem dX4_meet_0 : decode cX4_meet 0 = .ok (.aload_n 0, 1) := by decide +kernel
theorem dX4_meet_1 : decode cX4_meet 1 = .ok (.invokevirtual 46, 3) := by decide +kernel
theorem dX4_meet_4 : decode cX4_meet 4 = .ok (.aload_n 0, 1) := by decide +kernel
theorem dX4_meet_5 : decode cX4_meet 5 = .ok (.aload_n 0, 1) := by decide +kernel
theorem dX4_meet_6 : decode cX4_meet 6 = .ok (.iload_n 1, 1) := by decide +kernel
theorem dX4_meet_7 : decode cX4_meet 7 = .ok (.iload_n 2, 1) := by decide +kernel
theorem dX4_meet_8 : decode cX4_meet 8 = .ok (.invokevirtual 117, 3) := by decide +kernel
theorem dX4_meet_11 : decode cX4_meet 11 = .ok (.invokevirtual 49, 3) := by decide +kernel
theorem dX4_meet_14 : decode cX4_meet 14 = .ok (.ireturn, 1) := by decide +kernel
theorem dX4_isDead_0 : decode cX4_isDead 0 = .ok (.aload_n 0, 1) := by decide +kernel
theorem dX4_isDead_1 : decode cX4_isDead 1 = .ok (.iload_n 1, 1) := by decide +kernel
theorem dX4_isDead_2 : decode cX4_isDead 2 = .ok (.iload_n 2, 1) := by decide +kernel
theorem dX4_isDead_3 : decode cX4_isDead 3 = .ok (.iconst 0, 1) := by decide +kernel
theorem dX4_isDead_4 : decode cX4_isDead 4 = .ok (.invokevirtual 73, 3) := by decide +kernel
theorem dX4_isDead_7 : decode cX4_isDead 7 = .ok (.iconst 1, 1) := by decide +kernel
theorem dX4_isDead_8 : decode cX4_isDead 8 = .ok (.if_icmp .ne 51, 3) := by decide +kernel
theorem dX4_isDead_11 : decode cX4_isDead 11 = .ok (.aload_n 0, 1) := by decide +kernel
theorem dX4_isDead_12 : decode cX4_isDead 12 = .ok (.getfield 7, 3) := by decide +kernel
theorem dX4_isDead_15 : decode cX4_isDead 15 = .ok (.bipush 33, 2) := by decide +kernel
theorem dX4_isDead_17 : decode cX4_isDead 17 = .ok (.iconst 2, 1) := by decide +kernel
theorem dX4_isDead_18 : decode cX4_isDead 18 = .ok (.iload_n 2, 1) := by decide +kernel
theorem dX4_isDead_19 : decode cX4_isDead 19 = .ok (.imul, 1) := by decide +kernel
theorem dX4_isDead_20 : decode cX4_isDead 20 = .ok (.iadd, 1) := by decide +kernel
theorem dX4_isDead_21 : decode cX4_isDead 21 = .ok (.iaload, 1) := by decide +kernel
theorem dX4_isDead_22 : decode cX4_isDead 22 = .ok (.aload_n 0, 1) := by decide +kernel
theorem dX4_isDead_23 : decode cX4_isDead 23 = .ok (.getfield 7, 3) := by decide +kernel
theorem dX4_isDead_26 : decode cX4_isDead 26 = .ok (.bipush 33, 2) := by decide +kernel
theorem dX4_isDead_28 : decode cX4_isDead 28 = .ok (.iconst 2, 1) := by decide +kernel
theorem dX4_isDead_29 : decode cX4_isDead 29 = .ok (.iload_n 2, 1) := by decide +kernel
theorem dX4_isDead_30 : decode cX4_isDead 30 = .ok (.imul, 1) := by decide +kernel
theorem dX4_isDead_31 : decode cX4_isDead 31 = .ok (.iadd, 1) := by decide +kernel
theorem dX4_isDead_32 : decode cX4_isDead 32 = .ok (.iconst 1, 1) := by decide +kernel
theorem dX4_isDead_33 : decode cX4_isDead 33 = .ok (.iadd, 1) := by decide +kernel
theorem dX4_isDead_34 : decode cX4_isDead 34 = .ok (.iaload, 1) := by decide +kernel
theorem dX4_isDead_35 : decode cX4_isDead 35 = .ok (.aload_n 0, 1) := by decide +kernel
theorem dX4_isDead_36 : decode cX4_isDead 36 = .ok (.iload_n 1, 1) := by decide +kernel
theorem dX4_isDead_37 : decode cX4_isDead 37 = .ok (.iload_n 2, 1) := by decide +kernel
theorem dX4_isDead_38 : decode cX4_isDead 38 = .ok (.iconst 1, 1) := by decide +kernel
theorem dX4_isDead_39 : decode cX4_isDead 39 = .ok (.invokevirtual 73, 3) := by decide +kernel
theorem dX4_isDead_42 : decode cX4_isDead 42 = .ok (.aload_n 0, 1) := by decide +kernel
theorem dX4_isDead_43 : decode cX4_isDead 43 = .ok (.iload_n 1, 1) := by decide +kernel
theorem dX4_isDead_44 : decode cX4_isDead 44 = .ok (.iload_n 2, 1) := by decide +kernel
theorem dX4_isDead_45 : decode cX4_isDead 45 = .ok (.iconst 2, 1) := by decide +kernel
theorem dX4_isDead_46 : decode cX4_isDead 46 = .ok (.invokevirtual 73, 3) := by decide +kernel
theorem dX4_isDead_49 : decode cX4_isDead 49 = .ok (.invokestatic 81, 3) := by decide +kernel
theorem dX4_isDead_52 : decode cX4_isDead 52 = .ok (.ifCond .eq 7, 3) := by decide +kernel
theorem dX4_isDead_55 : decode cX4_isDead 55 = .ok (.iconst 1, 1) := by decide +kernel
theorem dX4_isDead_56 : decode cX4_isDead 56 = .ok (.goto 4, 3) := by decide +kernel
theorem dX4_isDead_59 : decode cX4_isDead 59 = .ok (.iconst 0, 1) := by decide +kernel
theorem dX4_isDead_60 : decode cX4_isDead 60 = .ok (.ireturn, 1) := by decide +kernel
theorem dX4_entryOf_0 : decode cX4_entryOf 0 = .ok (.aload_n 0, 1) := by decide +kernel
theorem dX4_entryOf_1 : decode cX4_entryOf 1 = .ok (.iload_n 1, 1) := by decide +kernel
theorem dX4_entryOf_2 : decode cX4_entryOf 2 = .ok (.invokevirtual 53, 3) := by decide +kernel
theorem dX4_entryOf_5 : decode cX4_entryOf 5 = .ok (.ifCond .eq 20, 3) := by decide +kernel
theorem dX4_entryOf_8 : decode cX4_entryOf 8 = .ok (.iload_n 2, 1) := by decide +kernel
theorem dX4_entryOf_9 : decode cX4_entryOf 9 = .ok (.invokestatic 88, 3) := by decide +kernel
theorem dX4_entryOf_12 : decode cX4_entryOf 12 = .ok (.ifCond .eq 13, 3) := by decide +kernel
theorem dX4_entryOf_15 : decode cX4_entryOf 15 = .ok (.iload_n 3, 1) := by decide +kernel
theorem dX4_entryOf_16 : decode cX4_entryOf 16 = .ok (.iconst 0, 1) := by decide +kernel
theorem dX4_entryOf_17 : decode cX4_entryOf 17 = .ok (.bipush 7, 2) := by decide +kernel
theorem dX4_entryOf_19 : decode cX4_entryOf 19 = .ok (.invokestatic 33, 3) := by decide +kernel
theorem dX4_entryOf_22 : decode cX4_entryOf 22 = .ok (.ifCond .ne 6, 3) := by decide +kernel
theorem dX4_entryOf_25 : decode cX4_entryOf 25 = .ok (.ldc 40, 2) := by decide +kernel
theorem dX4_entryOf_27 : decode cX4_entryOf 27 = .ok (.ireturn, 1) := by decide +kernel
theorem dX4_entryOf_28 : decode cX4_entryOf 28 = .ok (.aload_n 0, 1) := by decide +kernel
theorem dX4_entryOf_29 : decode cX4_entryOf 29 = .ok (.iload_n 1, 1) := by decide +kernel
theorem dX4_entryOf_30 : decode cX4_entryOf 30 = .ok (.iload_n 2, 1) := by decide +kernel
theorem dX4_entryOf_31 : decode cX4_entryOf 31 = .ok (.iconst 0, 1) := by decide +kernel
theorem dX4_entryOf_32 : decode cX4_entryOf 32 = .ok (.invokevirtual 73, 3) := by decide +kernel
theorem dX4_entryOf_35 : decode cX4_entryOf 35 = .ok (.istore 4, 2) := by decide +kernel
theorem dX4_entryOf_37 : decode cX4_entryOf 37 = .ok (.iload_n 3, 1) := by decide +kernel
theorem dX4_entryOf_38 : decode cX4_entryOf 38 = .ok (.iconst 3, 1) := by decide +kernel
theorem dX4_entryOf_39 : decode cX4_entryOf 39 = .ok (.if_icmp .ge 7, 3) := by decide +kernel
theorem dX4_entryOf_42 : decode cX4_entryOf 42 = .ok (.iconst 0, 1) := by decide +kernel
theorem dX4_entryOf_43 : decode cX4_entryOf 43 = .ok (.goto 19, 3) := by decide +kernel
theorem dX4_entryOf_46 : decode cX4_entryOf 46 = .ok (.iload_n 3, 1) := by decide +kernel
theorem dX4_entryOf_47 : decode cX4_entryOf 47 = .ok (.iconst 5, 1) := by decide +kernel
theorem dX4_entryOf_48 : decode cX4_entryOf 48 = .ok (.if_icmp .eq 9, 3) := by decide +kernel
theorem dX4_entryOf_51 : decode cX4_entryOf 51 = .ok (.iload_n 3, 1) := by decide +kernel
theorem dX4_entryOf_52 : decode cX4_entryOf 52 = .ok (.bipush 6, 2) := by decide +kernel
theorem dX4_entryOf_54 : decode cX4_entryOf 54 = .ok (.if_icmp .ne 7, 3) := by decide +kernel
theorem dX4_entryOf_57 : decode cX4_entryOf 57 = .ok (.iconst 2, 1) := by decide +kernel
theorem dX4_entryOf_58 : decode cX4_entryOf 58 = .ok (.goto 4, 3) := by decide +kernel
theorem dX4_entryOf_61 : decode cX4_entryOf 61 = .ok (.iconst 1, 1) := by decide +kernel
theorem dX4_entryOf_62 : decode cX4_entryOf 62 = .ok (.istore 5, 2) := by decide +kernel
theorem dX4_entryOf_64 : decode cX4_entryOf 64 = .ok (.iload 4, 2) := by decide +kernel
theorem dX4_entryOf_66 : decode cX4_entryOf 66 = .ok (.ifCond .eq 15, 3) := by decide +kernel
theorem dX4_entryOf_69 : decode cX4_entryOf 69 = .ok (.iload 5, 2) := by decide +kernel
theorem dX4_entryOf_71 : decode cX4_entryOf 71 = .ok (.ifCond .le 13, 3) := by decide +kernel
theorem dX4_entryOf_74 : decode cX4_entryOf 74 = .ok (.iload 4, 2) := by decide +kernel
theorem dX4_entryOf_76 : decode cX4_entryOf 76 = .ok (.iload 5, 2) := by decide +kernel
theorem dX4_entryOf_78 : decode cX4_entryOf 78 = .ok (.if_icmp .eq 6, 3) := by decide +kernel
theorem dX4_entryOf_81 : decode cX4_entryOf 81 = .ok (.ldc 80, 2) := by decide +kernel
theorem dX4_entryOf_83 : decode cX4_entryOf 83 = .ok (.ireturn, 1) := by decide +kernel
theorem dX4_entryOf_84 : decode cX4_entryOf 84 = .ok (.iload_n 3, 1) := by decide +kernel
theorem dX4_entryOf_85 : decode cX4_entryOf 85 = .ok (.ifCond .ne 10, 3) := by decide +kernel
theorem dX4_entryOf_88 : decode cX4_entryOf 88 = .ok (.iload 4, 2) := by decide +kernel
theorem dX4_entryOf_90 : decode cX4_entryOf 90 = .ok (.iconst 1, 1) := by decide +kernel
theorem dX4_entryOf_91 : decode cX4_entryOf 91 = .ok (.isub, 1) := by decide +kernel
theorem dX4_entryOf_92 : decode cX4_entryOf 92 = .ok (.goto 33, 3) := by decide +kernel
theorem dX4_entryOf_95 : decode cX4_entryOf 95 = .ok (.iload_n 3, 1) := by decide +kernel
theorem dX4_entryOf_96 : decode cX4_entryOf 96 = .ok (.bipush 7, 2) := by decide +kernel
theorem dX4_entryOf_98 : decode cX4_entryOf 98 = .ok (.if_icmp .ne 20, 3) := by decide +kernel
theorem dX4_entryOf_101 : decode cX4_entryOf 101 = .ok (.aload_n 0, 1) := by decide +kernel
theorem dX4_entryOf_102 : decode cX4_entryOf 102 = .ok (.iload_n 1, 1) := by decide +kernel
theorem dX4_entryOf_103 : decode cX4_entryOf 103 = .ok (.iload_n 2, 1) := by decide +kernel
theorem dX4_entryOf_104 : decode cX4_entryOf 104 = .ok (.invokevirtual 120, 3) := by decide +kernel
theorem dX4_entryOf_107 : decode cX4_entryOf 107 = .ok (.ifCond .eq 7, 3) := by decide +kernel
theorem dX4_entryOf_110 : decode cX4_entryOf 110 = .ok (.iconst 1, 1) := by decide +kernel
theorem dX4_entryOf_111 : decode cX4_entryOf 111 = .ok (.goto 14, 3) := by decide +kernel
theorem dX4_entryOf_114 : decode cX4_entryOf 114 = .ok (.iconst 0, 1) := by decide +kernel
theorem dX4_entryOf_115 : decode cX4_entryOf 115 = .ok (.goto 10, 3) := by decide +kernel
theorem dX4_entryOf_118 : decode cX4_entryOf 118 = .ok (.aload_n 0, 1) := by decide +kernel
theorem dX4_entryOf_119 : decode cX4_entryOf 119 = .ok (.iload_n 1, 1) := by decide +kernel
theorem dX4_entryOf_120 : decode cX4_entryOf 120 = .ok (.iload_n 2, 1) := by decide +kernel
theorem dX4_entryOf_121 : decode cX4_entryOf 121 = .ok (.iload_n 3, 1) := by decide +kernel
theorem dX4_entryOf_122 : decode cX4_entryOf 122 = .ok (.invokevirtual 73, 3) := by decide +kernel
theorem dX4_entryOf_125 : decode cX4_entryOf 125 = .ok (.ireturn, 1) := by decide +kernel
theorem dX4_drops_0 : decode cX4_drops 0 = .ok (.aload_n 0, 1) := by decide +kernel
theorem dX4_drops_1 : decode cX4_drops 1 = .ok (.iload_n 1, 1) := by decide +kernel
theorem dX4_drops_2 : decode cX4_drops 2 = .ok (.iload_n 2, 1) := by decide +kernel
theorem dX4_drops_3 : decode cX4_drops 3 = .ok (.bipush 6, 2) := by decide +kernel
theorem dX4_drops_5 : decode cX4_drops 5 = .ok (.invokevirtual 73, 3) := by decide +kernel
theorem dX4_drops_8 : decode cX4_drops 8 = .ok (.iload_n 3, 1) := by decide +kernel
theorem dX4_drops_9 : decode cX4_drops 9 = .ok (.iand, 1) := by decide +kernel
theorem dX4_drops_10 : decode cX4_drops 10 = .ok (.iload_n 3, 1) := by decide +kernel
theorem dX4_drops_11 : decode cX4_drops 11 = .ok (.if_icmp .eq 26, 3) := by decide +kernel
theorem dX4_drops_14 : decode cX4_drops 14 = .ok (.aload_n 0, 1) := by decide +kernel
theorem dX4_drops_15 : decode cX4_drops 15 = .ok (.getfield 7, 3) := by decide +kernel
theorem dX4_drops_18 : decode cX4_drops 18 = .ok (.iconst 1, 1) := by decide +kernel
theorem dX4_drops_19 : decode cX4_drops 19 = .ok (.iaload, 1) := by decide +kernel
theorem dX4_drops_20 : decode cX4_drops 20 = .ok (.aload_n 0, 1) := by decide +kernel
theorem dX4_drops_21 : decode cX4_drops 21 = .ok (.iload_n 1, 1) := by decide +kernel
theorem dX4_drops_22 : decode cX4_drops 22 = .ok (.iload_n 2, 1) := by decide +kernel
theorem dX4_drops_23 : decode cX4_drops 23 = .ok (.iconst 5, 1) := by decide +kernel
theorem dX4_drops_24 : decode cX4_drops 24 = .ok (.invokevirtual 73, 3) := by decide +kernel
theorem dX4_drops_27 : decode cX4_drops 27 = .ok (.isub, 1) := by decide +kernel
theorem dX4_drops_28 : decode cX4_drops 28 = .ok (.aload_n 0, 1) := by decide +kernel
theorem dX4_drops_29 : decode cX4_drops 29 = .ok (.getfield 7, 3) := by decide +kernel
theorem dX4_drops_32 : decode cX4_drops 32 = .ok (.iconst 2, 1) := by decide +kernel
theorem dX4_drops_33 : decode cX4_drops 33 = .ok (.iaload, 1) := by decide +kernel
theorem dX4_drops_34 : decode cX4_drops 34 = .ok (.if_icmp .lt 7, 3) := by decide +kernel
theorem dX4_drops_37 : decode cX4_drops 37 = .ok (.iconst 1, 1) := by decide +kernel
theorem dX4_drops_38 : decode cX4_drops 38 = .ok (.goto 4, 3) := by decide +kernel
theorem dX4_drops_41 : decode cX4_drops 41 = .ok (.iconst 0, 1) := by decide +kernel
theorem dX4_drops_42 : decode cX4_drops 42 = .ok (.istore 4, 2) := by decide +kernel
theorem dX4_drops_44 : decode cX4_drops 44 = .ok (.aload_n 0, 1) := by decide +kernel
theorem dX4_drops_45 : decode cX4_drops 45 = .ok (.iload_n 1, 1) := by decide +kernel
theorem dX4_drops_46 : decode cX4_drops 46 = .ok (.invokevirtual 70, 3) := by decide +kernel
theorem dX4_drops_49 : decode cX4_drops 49 = .ok (.ifCond .ne 19, 3) := by decide +kernel
theorem dX4_drops_52 : decode cX4_drops 52 = .ok (.aload_n 0, 1) := by decide +kernel
theorem dX4_drops_53 : decode cX4_drops 53 = .ok (.iload_n 1, 1) := by decide +kernel
theorem dX4_drops_54 : decode cX4_drops 54 = .ok (.iload_n 2, 1) := by decide +kernel
theorem dX4_drops_55 : decode cX4_drops 55 = .ok (.iconst 0, 1) := by decide +kernel
theorem dX4_drops_56 : decode cX4_drops 56 = .ok (.invokevirtual 73, 3) := by decide +kernel
theorem dX4_drops_59 : decode cX4_drops 59 = .ok (.iconst 2, 1) := by decide +kernel
theorem dX4_drops_60 : decode cX4_drops 60 = .ok (.if_icmp .ne 8, 3) := by decide +kernel
theorem dX4_drops_63 : decode cX4_drops 63 = .ok (.iload 4, 2) := by decide +kernel
theorem dX4_drops_65 : decode cX4_drops 65 = .ok (.ifCond .ne 5, 3) := by decide +kernel
theorem dX4_drops_68 : decode cX4_drops 68 = .ok (.iconst 0, 1) := by decide +kernel
theorem dX4_drops_69 : decode cX4_drops 69 = .ok (.ireturn, 1) := by decide +kernel
theorem dX4_drops_70 : decode cX4_drops 70 = .ok (.bipush 57, 2) := by decide +kernel
theorem dX4_drops_72 : decode cX4_drops 72 = .ok (.bipush 24, 2) := by decide +kernel
theorem dX4_drops_74 : decode cX4_drops 74 = .ok (.iload_n 1, 1) := by decide +kernel
theorem dX4_drops_75 : decode cX4_drops 75 = .ok (.imul, 1) := by decide +kernel
theorem dX4_drops_76 : decode cX4_drops 76 = .ok (.iadd, 1) := by decide +kernel
theorem dX4_drops_77 : decode cX4_drops 77 = .ok (.iconst 2, 1) := by decide +kernel
theorem dX4_drops_78 : decode cX4_drops 78 = .ok (.iload_n 2, 1) := by decide +kernel
theorem dX4_drops_79 : decode cX4_drops 79 = .ok (.imul, 1) := by decide +kernel
theorem dX4_drops_80 : decode cX4_drops 80 = .ok (.iadd, 1) := by decide +kernel
theorem dX4_drops_81 : decode cX4_drops 81 = .ok (.istore 5, 2) := by decide +kernel
theorem dX4_drops_83 : decode cX4_drops 83 = .ok (.aload_n 0, 1) := by decide +kernel
theorem dX4_drops_84 : decode cX4_drops 84 = .ok (.iload_n 1, 1) := by decide +kernel
theorem dX4_drops_85 : decode cX4_drops 85 = .ok (.iload_n 2, 1) := by decide +kernel
theorem dX4_drops_86 : decode cX4_drops 86 = .ok (.iconst 1, 1) := by decide +kernel
theorem dX4_drops_87 : decode cX4_drops 87 = .ok (.invokevirtual 73, 3) := by decide +kernel
theorem dX4_drops_90 : decode cX4_drops 90 = .ok (.aload_n 0, 1) := by decide +kernel
theorem dX4_drops_91 : decode cX4_drops 91 = .ok (.iload_n 1, 1) := by decide +kernel
theorem dX4_drops_92 : decode cX4_drops 92 = .ok (.iload_n 2, 1) := by decide +kernel
theorem dX4_drops_93 : decode cX4_drops 93 = .ok (.iconst 2, 1) := by decide +kernel
theorem dX4_drops_94 : decode cX4_drops 94 = .ok (.invokevirtual 73, 3) := by decide +kernel
theorem dX4_drops_97 : decode cX4_drops 97 = .ok (.aload_n 0, 1) := by decide +kernel
theorem dX4_drops_98 : decode cX4_drops 98 = .ok (.getfield 7, 3) := by decide +kernel
theorem dX4_drops_101 : decode cX4_drops 101 = .ok (.iload 5, 2) := by decide +kernel
theorem dX4_drops_103 : decode cX4_drops 103 = .ok (.iaload, 1) := by decide +kernel
theorem dX4_drops_104 : decode cX4_drops 104 = .ok (.aload_n 0, 1) := by decide +kernel
theorem dX4_drops_105 : decode cX4_drops 105 = .ok (.getfield 7, 3) := by decide +kernel
theorem dX4_drops_108 : decode cX4_drops 108 = .ok (.iload 5, 2) := by decide +kernel
theorem dX4_drops_110 : decode cX4_drops 110 = .ok (.iconst 1, 1) := by decide +kernel
theorem dX4_drops_111 : decode cX4_drops 111 = .ok (.iadd, 1) := by decide +kernel
theorem dX4_drops_112 : decode cX4_drops 112 = .ok (.iaload, 1) := by decide +kernel
theorem dX4_drops_113 : decode cX4_drops 113 = .ok (.invokestatic 81, 3) := by decide +kernel
theorem dX4_drops_116 : decode cX4_drops 116 = .ok (.ifCond .eq 33, 3) := by decide +kernel
theorem dX4_drops_119 : decode cX4_drops 119 = .ok (.aload_n 0, 1) := by decide +kernel
theorem dX4_drops_120 : decode cX4_drops 120 = .ok (.getfield 7, 3) := by decide +kernel
theorem dX4_drops_123 : decode cX4_drops 123 = .ok (.iload 5, 2) := by decide +kernel
theorem dX4_drops_125 : decode cX4_drops 125 = .ok (.aload_n 0, 1) := by decide +kernel
theorem dX4_drops_126 : decode cX4_drops 126 = .ok (.iload_n 1, 1) := by decide +kernel
theorem dX4_drops_127 : decode cX4_drops 127 = .ok (.iload_n 2, 1) := by decide +kernel
theorem dX4_drops_128 : decode cX4_drops 128 = .ok (.iconst 1, 1) := by decide +kernel
theorem dX4_drops_129 : decode cX4_drops 129 = .ok (.invokevirtual 73, 3) := by decide +kernel
theorem dX4_drops_132 : decode cX4_drops 132 = .ok (.iastore, 1) := by decide +kernel
theorem dX4_drops_133 : decode cX4_drops 133 = .ok (.aload_n 0, 1) := by decide +kernel
theorem dX4_drops_134 : decode cX4_drops 134 = .ok (.getfield 7, 3) := by decide +kernel
theorem dX4_drops_137 : decode cX4_drops 137 = .ok (.iload 5, 2) := by decide +kernel
theorem dX4_drops_139 : decode cX4_drops 139 = .ok (.iconst 1, 1) := by decide +kernel
theorem dX4_drops_140 : decode cX4_drops 140 = .ok (.iadd, 1) := by decide +kernel
theorem dX4_drops_141 : decode cX4_drops 141 = .ok (.aload_n 0, 1) := by decide +kernel
theorem dX4_drops_142 : decode cX4_drops 142 = .ok (.iload_n 1, 1) := by decide +kernel
theorem dX4_drops_143 : decode cX4_drops 143 = .ok (.iload_n 2, 1) := by decide +kernel
theorem dX4_drops_144 : decode cX4_drops 144 = .ok (.iconst 2, 1) := by decide +kernel
theorem dX4_drops_145 : decode cX4_drops 145 = .ok (.invokevirtual 73, 3) := by decide +kernel
theorem dX4_drops_148 : decode cX4_drops 148 = .ok (.iastore, 1) := by decide +kernel
theorem dX4_drops_149 : decode cX4_drops 149 = .ok (.aload_n 0, 1) := by decide +kernel
theorem dX4_drops_150 : decode cX4_drops 150 = .ok (.getfield 7, 3) := by decide +kernel
theorem dX4_drops_153 : decode cX4_drops 153 = .ok (.iload_n 1, 1) := by decide +kernel
theorem dX4_drops_154 : decode cX4_drops 154 = .ok (.iload_n 2, 1) := by decide +kernel
theorem dX4_drops_155 : decode cX4_drops 155 = .ok (.invokestatic 29, 3) := by decide +kernel
theorem dX4_drops_158 : decode cX4_drops 158 = .ok (.iconst 0, 1) := by decide +kernel
theorem dX4_drops_159 : decode cX4_drops 159 = .ok (.iastore, 1) := by decide +kernel
theorem dX4_drops_160 : decode cX4_drops 160 = .ok (.iconst 1, 1) := by decide +kernel
theorem dX4_drops_161 : decode cX4_drops 161 = .ok (.ireturn, 1) := by decide +kernel
theorem dX4_tickOne_0 : decode cX4_tickOne 0 = .ok (.aload_n 0, 1) := by decide +kernel
theorem dX4_tickOne_1 : decode cX4_tickOne 1 = .ok (.getfield 7, 3) := by decide +kernel
theorem dX4_tickOne_4 : decode cX4_tickOne 4 = .ok (.iconst 1, 1) := by decide +kernel
theorem dX4_tickOne_5 : decode cX4_tickOne 5 = .ok (.dup2, 1) := by decide +kernel
theorem dX4_tickOne_6 : decode cX4_tickOne 6 = .ok (.iaload, 1) := by decide +kernel
theorem dX4_tickOne_7 : decode cX4_tickOne 7 = .ok (.iconst 1, 1) := by decide +kernel
theorem dX4_tickOne_8 : decode cX4_tickOne 8 = .ok (.iadd, 1) := by decide +kernel
theorem dX4_tickOne_9 : decode cX4_tickOne 9 = .ok (.iastore, 1) := by decide +kernel
theorem dX4_tickOne_10 : decode cX4_tickOne 10 = .ok (.iconst 0, 1) := by decide +kernel
theorem dX4_tickOne_11 : decode cX4_tickOne 11 = .ok (.istore_n 1, 1) := by decide +kernel
theorem dX4_tickOne_12 : decode cX4_tickOne 12 = .ok (.iconst 0, 1) := by decide +kernel
theorem dX4_tickOne_13 : decode cX4_tickOne 13 = .ok (.istore_n 2, 1) := by decide +kernel
theorem dX4_tickOne_14 : decode cX4_tickOne 14 = .ok (.iload_n 2, 1) := by decide +kernel
theorem dX4_tickOne_15 : decode cX4_tickOne 15 = .ok (.aload_n 0, 1) := by decide +kernel
theorem dX4_tickOne_16 : decode cX4_tickOne 16 = .ok (.getfield 7, 3) := by decide +kernel
theorem dX4_tickOne_19 : decode cX4_tickOne 19 = .ok (.iconst 0, 1) := by decide +kernel
theorem dX4_tickOne_20 : decode cX4_tickOne 20 = .ok (.iaload, 1) := by decide +kernel
theorem dX4_tickOne_21 : decode cX4_tickOne 21 = .ok (.if_icmp .ge 27, 3) := by decide +kernel
theorem dX4_tickOne_24 : decode cX4_tickOne 24 = .ok (.iload_n 1, 1) := by decide +kernel
theorem dX4_tickOne_25 : decode cX4_tickOne 25 = .ok (.aload_n 0, 1) := by decide +kernel
theorem dX4_tickOne_26 : decode cX4_tickOne 26 = .ok (.iload_n 2, 1) := by decide +kernel
theorem dX4_tickOne_27 : decode cX4_tickOne 27 = .ok (.invokevirtual 70, 3) := by decide +kernel
theorem dX4_tickOne_30 : decode cX4_tickOne 30 = .ok (.ifCond .eq 7, 3) := by decide +kernel
theorem dX4_tickOne_33 : decode cX4_tickOne 33 = .ok (.iconst 0, 1) := by decide +kernel
theorem dX4_tickOne_34 : decode cX4_tickOne 34 = .ok (.goto 6, 3) := by decide +kernel
theorem dX4_tickOne_37 : decode cX4_tickOne 37 = .ok (.iconst 1, 1) := by decide +kernel
theorem dX4_tickOne_38 : decode cX4_tickOne 38 = .ok (.iload_n 2, 1) := by decide +kernel
theorem dX4_tickOne_39 : decode cX4_tickOne 39 = .ok (.ishl, 1) := by decide +kernel
theorem dX4_tickOne_40 : decode cX4_tickOne 40 = .ok (.ior, 1) := by decide +kernel
theorem dX4_tickOne_41 : decode cX4_tickOne 41 = .ok (.istore_n 1, 1) := by decide +kernel
theorem dX4_tickOne_42 : decode cX4_tickOne 42 = .ok (.iinc 2 1, 3) := by decide +kernel
theorem dX4_tickOne_45 : decode cX4_tickOne 45 = .ok (.goto (-31), 3) := by decide +kernel
theorem dX4_tickOne_48 : decode cX4_tickOne 48 = .ok (.iconst 0, 1) := by decide +kernel
theorem dX4_tickOne_49 : decode cX4_tickOne 49 = .ok (.istore_n 2, 1) := by decide +kernel
theorem dX4_tickOne_50 : decode cX4_tickOne 50 = .ok (.iconst 0, 1) := by decide +kernel
theorem dX4_tickOne_51 : decode cX4_tickOne 51 = .ok (.istore_n 3, 1) := by decide +kernel
theorem dX4_tickOne_52 : decode cX4_tickOne 52 = .ok (.iload_n 3, 1) := by decide +kernel
theorem dX4_tickOne_53 : decode cX4_tickOne 53 = .ok (.aload_n 0, 1) := by decide +kernel
theorem dX4_tickOne_54 : decode cX4_tickOne 54 = .ok (.getfield 7, 3) := by decide +kernel
theorem dX4_tickOne_57 : decode cX4_tickOne 57 = .ok (.iconst 0, 1) := by decide +kernel
theorem dX4_tickOne_58 : decode cX4_tickOne 58 = .ok (.iaload, 1) := by decide +kernel
theorem dX4_tickOne_59 : decode cX4_tickOne 59 = .ok (.if_icmp .ge 36, 3) := by decide +kernel
theorem dX4_tickOne_62 : decode cX4_tickOne 62 = .ok (.iconst 0, 1) := by decide +kernel
theorem dX4_tickOne_63 : decode cX4_tickOne 63 = .ok (.istore 4, 2) := by decide +kernel
theorem dX4_tickOne_65 : decode cX4_tickOne 65 = .ok (.iload 4, 2) := by decide +kernel
theorem dX4_tickOne_67 : decode cX4_tickOne 67 = .ok (.bipush 12, 2) := by decide +kernel
theorem dX4_tickOne_69 : decode cX4_tickOne 69 = .ok (.if_icmp .ge 20, 3) := by decide +kernel
theorem dX4_tickOne_72 : decode cX4_tickOne 72 = .ok (.iload_n 2, 1) := by decide +kernel
theorem dX4_tickOne_73 : decode cX4_tickOne 73 = .ok (.aload_n 0, 1) := by decide +kernel
theorem dX4_tickOne_74 : decode cX4_tickOne 74 = .ok (.iload_n 3, 1) := by decide +kernel
theorem dX4_tickOne_75 : decode cX4_tickOne 75 = .ok (.iload 4, 2) := by decide +kernel
theorem dX4_tickOne_77 : decode cX4_tickOne 77 = .ok (.iload_n 1, 1) := by decide +kernel
theorem dX4_tickOne_78 : decode cX4_tickOne 78 = .ok (.invokevirtual 124, 3) := by decide +kernel
theorem dX4_tickOne_81 : decode cX4_tickOne 81 = .ok (.iadd, 1) := by decide +kernel
theorem dX4_tickOne_82 : decode cX4_tickOne 82 = .ok (.istore_n 2, 1) := by decide +kernel
theorem dX4_tickOne_83 : decode cX4_tickOne 83 = .ok (.iinc 4 1, 3) := by decide +kernel
theorem dX4_tickOne_86 : decode cX4_tickOne 86 = .ok (.goto (-21), 3) := by decide +kernel
theorem dX4_tickOne_89 : decode cX4_tickOne 89 = .ok (.iinc 3 1, 3) := by decide +kernel
theorem dX4_tickOne_92 : decode cX4_tickOne 92 = .ok (.goto (-40), 3) := by decide +kernel
theorem dX4_tickOne_95 : decode cX4_tickOne 95 = .ok (.iload_n 2, 1) := by decide +kernel
theorem dX4_tickOne_96 : decode cX4_tickOne 96 = .ok (.ireturn, 1) := by decide +kernel
theorem dX4_ticks_0 : decode cX4_ticks 0 = .ok (.iload_n 1, 1) := by decide +kernel
theorem dX4_ticks_1 : decode cX4_ticks 1 = .ok (.iconst 1, 1) := by decide +kernel
theorem dX4_ticks_2 : decode cX4_ticks 2 = .ok (.bipush 60, 2) := by decide +kernel
theorem dX4_ticks_4 : decode cX4_ticks 4 = .ok (.invokestatic 33, 3) := by decide +kernel
theorem dX4_ticks_7 : decode cX4_ticks 7 = .ok (.ifCond .ne 6, 3) := by decide +kernel
theorem dX4_ticks_10 : decode cX4_ticks 10 = .ok (.ldc 40, 2) := by decide +kernel
theorem dX4_ticks_12 : decode cX4_ticks 12 = .ok (.ireturn, 1) := by decide +kernel
theorem dX4_ticks_13 : decode cX4_ticks 13 = .ok (.aload_n 0, 1) := by decide +kernel
theorem dX4_ticks_14 : decode cX4_ticks 14 = .ok (.getfield 7, 3) := by decide +kernel
theorem dX4_ticks_17 : decode cX4_ticks 17 = .ok (.iconst 1, 1) := by decide +kernel
theorem dX4_ticks_18 : decode cX4_ticks 18 = .ok (.iaload, 1) := by decide +kernel
theorem dX4_ticks_19 : decode cX4_ticks 19 = .ok (.iload_n 1, 1) := by decide +kernel
theorem dX4_ticks_20 : decode cX4_ticks 20 = .ok (.iadd, 1) := by decide +kernel
theorem dX4_ticks_21 : decode cX4_ticks 21 = .ok (.ldc 127, 2) := by decide +kernel
theorem dX4_ticks_23 : decode cX4_ticks 23 = .ok (.if_icmp .le 6, 3) := by decide +kernel
theorem dX4_ticks_26 : decode cX4_ticks 26 = .ok (.ldc 45, 2) := by decide +kernel
theorem dX4_ticks_28 : decode cX4_ticks 28 = .ok (.ireturn, 1) := by decide +kernel
theorem dX4_ticks_29 : decode cX4_ticks 29 = .ok (.iconst 0, 1) := by decide +kernel
theorem dX4_ticks_30 : decode cX4_ticks 30 = .ok (.istore_n 2, 1) := by decide +kernel
theorem dX4_ticks_31 : decode cX4_ticks 31 = .ok (.iconst 0, 1) := by decide +kernel
theorem dX4_ticks_32 : decode cX4_ticks 32 = .ok (.istore_n 3, 1) := by decide +kernel
theorem dX4_ticks_33 : decode cX4_ticks 33 = .ok (.iload_n 3, 1) := by decide +kernel
theorem dX4_ticks_34 : decode cX4_ticks 34 = .ok (.iload_n 1, 1) := by decide +kernel
theorem dX4_ticks_35 : decode cX4_ticks 35 = .ok (.if_icmp .ge 16, 3) := by decide +kernel
theorem dX4_ticks_38 : decode cX4_ticks 38 = .ok (.iload_n 2, 1) := by decide +kernel
theorem dX4_ticks_39 : decode cX4_ticks 39 = .ok (.aload_n 0, 1) := by decide +kernel
theorem dX4_ticks_40 : decode cX4_ticks 40 = .ok (.invokevirtual 128, 3) := by decide +kernel
theorem dX4_ticks_43 : decode cX4_ticks 43 = .ok (.iadd, 1) := by decide +kernel
theorem dX4_ticks_44 : decode cX4_ticks 44 = .ok (.istore_n 2, 1) := by decide +kernel
theorem dX4_ticks_45 : decode cX4_ticks 45 = .ok (.iinc 3 1, 3) := by decide +kernel
theorem dX4_ticks_48 : decode cX4_ticks 48 = .ok (.goto (-15), 3) := by decide +kernel
theorem dX4_ticks_51 : decode cX4_ticks 51 = .ok (.iload_n 2, 1) := by decide +kernel
theorem dX4_ticks_52 : decode cX4_ticks 52 = .ok (.ireturn, 1) := by decide +kernel
theorem dX4_tick_0 : decode cX4_tick 0 = .ok (.aload_n 0, 1) := by decide +kernel
theorem dX4_tick_1 : decode cX4_tick 1 = .ok (.invokevirtual 46, 3) := by decide +kernel
theorem dX4_tick_4 : decode cX4_tick 4 = .ok (.aload_n 0, 1) := by decide +kernel
theorem dX4_tick_5 : decode cX4_tick 5 = .ok (.aload_n 0, 1) := by decide +kernel
theorem dX4_tick_6 : decode cX4_tick 6 = .ok (.iload_n 1, 1) := by decide +kernel
theorem dX4_tick_7 : decode cX4_tick 7 = .ok (.invokevirtual 132, 3) := by decide +kernel
theorem dX4_tick_10 : decode cX4_tick 10 = .ok (.invokevirtual 49, 3) := by decide +kernel
theorem dX4_tick_13 : decode cX4_tick 13 = .ok (.ireturn, 1) := by decide +kernel
theorem dX4_newest_0 : decode cX4_newest 0 = .ok (.iload_n 1, 1) := by decide +kernel
theorem dX4_newest_1 : decode cX4_newest 1 = .ok (.invokestatic 88, 3) := by decide +kernel
theorem dX4_newest_4 : decode cX4_newest 4 = .ok (.ifCond .ne 6, 3) := by decide +kernel
theorem dX4_newest_7 : decode cX4_newest 7 = .ok (.ldc 40, 2) := by decide +kernel
theorem dX4_newest_9 : decode cX4_newest 9 = .ok (.ireturn, 1) := by decide +kernel
theorem dX4_newest_10 : decode cX4_newest 10 = .ok (.iconst (-1), 1) := by decide +kernel
theorem dX4_newest_11 : decode cX4_newest 11 = .ok (.istore_n 2, 1) := by decide +kernel
theorem dX4_newest_12 : decode cX4_newest 12 = .ok (.iconst 0, 1) := by decide +kernel
theorem dX4_newest_13 : decode cX4_newest 13 = .ok (.istore_n 3, 1) := by decide +kernel
theorem dX4_newest_14 : decode cX4_newest 14 = .ok (.iload_n 3, 1) := by decide +kernel
theorem dX4_newest_15 : decode cX4_newest 15 = .ok (.aload_n 0, 1) := by decide +kernel
theorem dX4_newest_16 : decode cX4_newest 16 = .ok (.getfield 7, 3) := by decide +kernel
theorem dX4_newest_19 : decode cX4_newest 19 = .ok (.iconst 0, 1) := by decide +kernel
theorem dX4_newest_20 : decode cX4_newest 20 = .ok (.iaload, 1) := by decide +kernel
theorem dX4_newest_21 : decode cX4_newest 21 = .ok (.if_icmp .ge 39, 3) := by decide +kernel
theorem dX4_newest_24 : decode cX4_newest 24 = .ok (.aload_n 0, 1) := by decide +kernel
theorem dX4_newest_25 : decode cX4_newest 25 = .ok (.iload_n 3, 1) := by decide +kernel
theorem dX4_newest_26 : decode cX4_newest 26 = .ok (.iload_n 1, 1) := by decide +kernel
theorem dX4_newest_27 : decode cX4_newest 27 = .ok (.iconst 0, 1) := by decide +kernel
theorem dX4_newest_28 : decode cX4_newest 28 = .ok (.invokevirtual 73, 3) := by decide +kernel
theorem dX4_newest_31 : decode cX4_newest 31 = .ok (.ifCond .eq 21, 3) := by decide +kernel
theorem dX4_newest_34 : decode cX4_newest 34 = .ok (.iload_n 2, 1) := by decide +kernel
theorem dX4_newest_35 : decode cX4_newest 35 = .ok (.ifCond .lt 13, 3) := by decide +kernel
theorem dX4_newest_38 : decode cX4_newest 38 = .ok (.aload_n 0, 1) := by decide +kernel
theorem dX4_newest_39 : decode cX4_newest 39 = .ok (.iload_n 3, 1) := by decide +kernel
theorem dX4_newest_40 : decode cX4_newest 40 = .ok (.iload_n 2, 1) := by decide +kernel
theorem dX4_newest_41 : decode cX4_newest 41 = .ok (.iload_n 1, 1) := by decide +kernel
theorem dX4_newest_42 : decode cX4_newest 42 = .ok (.invokevirtual 85, 3) := by decide +kernel
theorem dX4_newest_45 : decode cX4_newest 45 = .ok (.ifCond .eq 7, 3) := by decide +kernel
theorem dX4_newest_48 : decode cX4_newest 48 = .ok (.iload_n 3, 1) := by decide +kernel
theorem dX4_newest_49 : decode cX4_newest 49 = .ok (.goto 4, 3) := by decide +kernel
theorem dX4_newest_52 : decode cX4_newest 52 = .ok (.iload_n 2, 1) := by decide +kernel
theorem dX4_newest_53 : decode cX4_newest 53 = .ok (.istore_n 2, 1) := by decide +kernel
theorem dX4_newest_54 : decode cX4_newest 54 = .ok (.iinc 3 1, 3) := by decide +kernel
theorem dX4_newest_57 : decode cX4_newest 57 = .ok (.goto (-43), 3) := by decide +kernel
theorem dX4_newest_60 : decode cX4_newest 60 = .ok (.iconst 0, 1) := by decide +kernel
theorem dX4_newest_61 : decode cX4_newest 61 = .ok (.istore_n 3, 1) := by decide +kernel
theorem dX4_newest_62 : decode cX4_newest 62 = .ok (.iconst 0, 1) := by decide +kernel
theorem dX4_newest_63 : decode cX4_newest 63 = .ok (.istore 4, 2) := by decide +kernel
theorem dX4_newest_65 : decode cX4_newest 65 = .ok (.iload 4, 2) := by decide +kernel
theorem dX4_newest_67 : decode cX4_newest 67 = .ok (.aload_n 0, 1) := by decide +kernel
theorem dX4_newest_68 : decode cX4_newest 68 = .ok (.getfield 7, 3) := by decide +kernel
theorem dX4_newest_71 : decode cX4_newest 71 = .ok (.iconst 0, 1) := by decide +kernel
theorem dX4_newest_72 : decode cX4_newest 72 = .ok (.iaload, 1) := by decide +kernel
theorem dX4_newest_73 : decode cX4_newest 73 = .ok (.if_icmp .ge 35, 3) := by decide +kernel
theorem dX4_newest_76 : decode cX4_newest 76 = .ok (.iload_n 2, 1) := by decide +kernel
theorem dX4_newest_77 : decode cX4_newest 77 = .ok (.ifCond .lt 31, 3) := by decide +kernel
theorem dX4_newest_80 : decode cX4_newest 80 = .ok (.iload_n 3, 1) := by decide +kernel
theorem dX4_newest_81 : decode cX4_newest 81 = .ok (.aload_n 0, 1) := by decide +kernel
theorem dX4_newest_82 : decode cX4_newest 82 = .ok (.iload 4, 2) := by decide +kernel
theorem dX4_newest_84 : decode cX4_newest 84 = .ok (.iload_n 2, 1) := by decide +kernel
theorem dX4_newest_85 : decode cX4_newest 85 = .ok (.iload_n 1, 1) := by decide +kernel
theorem dX4_newest_86 : decode cX4_newest 86 = .ok (.invokevirtual 111, 3) := by decide +kernel
theorem dX4_newest_89 : decode cX4_newest 89 = .ok (.ifCond .eq 10, 3) := by decide +kernel
theorem dX4_newest_92 : decode cX4_newest 92 = .ok (.iconst 1, 1) := by decide +kernel
theorem dX4_newest_93 : decode cX4_newest 93 = .ok (.iload 4, 2) := by decide +kernel
theorem dX4_newest_95 : decode cX4_newest 95 = .ok (.ishl, 1) := by decide +kernel
theorem dX4_newest_96 : decode cX4_newest 96 = .ok (.goto 4, 3) := by decide +kernel
theorem dX4_newest_99 : decode cX4_newest 99 = .ok (.iconst 0, 1) := by decide +kernel
theorem dX4_newest_100 : decode cX4_newest 100 = .ok (.ior, 1) := by decide +kernel
theorem dX4_newest_101 : decode cX4_newest 101 = .ok (.istore_n 3, 1) := by decide +kernel
theorem dX4_newest_102 : decode cX4_newest 102 = .ok (.iinc 4 1, 3) := by decide +kernel
theorem dX4_newest_105 : decode cX4_newest 105 = .ok (.goto (-40), 3) := by decide +kernel
theorem dX4_newest_108 : decode cX4_newest 108 = .ok (.iload_n 2, 1) := by decide +kernel
theorem dX4_newest_109 : decode cX4_newest 109 = .ok (.ifCond .ge 8, 3) := by decide +kernel
theorem dX4_newest_112 : decode cX4_newest 112 = .ok (.ldc 80, 2) := by decide +kernel
theorem dX4_newest_114 : decode cX4_newest 114 = .ok (.goto 4, 3) := by decide +kernel
theorem dX4_newest_117 : decode cX4_newest 117 = .ok (.iload_n 3, 1) := by decide +kernel
theorem dX4_newest_118 : decode cX4_newest 118 = .ok (.ireturn, 1) := by decide +kernel
theorem dX4_unlike_0 : decode cX4_unlike 0 = .ok (.aload_n 0, 1) := by decide +kernel
theorem dX4_unlike_1 : decode cX4_unlike 1 = .ok (.iload_n 1, 1) := by decide +kernel
theorem dX4_unlike_2 : decode cX4_unlike 2 = .ok (.invokevirtual 53, 3) := by decide +kernel
theorem dX4_unlike_5 : decode cX4_unlike 5 = .ok (.ifCond .eq 11, 3) := by decide +kernel
theorem dX4_unlike_8 : decode cX4_unlike 8 = .ok (.aload_n 0, 1) := by decide +kernel
theorem dX4_unlike_9 : decode cX4_unlike 9 = .ok (.iload_n 2, 1) := by decide +kernel
theorem dX4_unlike_10 : decode cX4_unlike 10 = .ok (.invokevirtual 53, 3) := by decide +kernel
theorem dX4_unlike_13 : decode cX4_unlike 13 = .ok (.ifCond .ne 6, 3) := by decide +kernel
theorem dX4_unlike_16 : decode cX4_unlike 16 = .ok (.ldc 40, 2) := by decide +kernel
theorem dX4_unlike_18 : decode cX4_unlike 18 = .ok (.ireturn, 1) := by decide +kernel
theorem dX4_unlike_19 : decode cX4_unlike 19 = .ok (.iconst 0, 1) := by decide +kernel
theorem dX4_unlike_20 : decode cX4_unlike 20 = .ok (.istore_n 3, 1) := by decide +kernel
theorem dX4_unlike_21 : decode cX4_unlike 21 = .ok (.iconst 0, 1) := by decide +kernel
theorem dX4_unlike_22 : decode cX4_unlike 22 = .ok (.istore 4, 2) := by decide +kernel
theorem dX4_unlike_24 : decode cX4_unlike 24 = .ok (.iload 4, 2) := by decide +kernel
theorem dX4_unlike_26 : decode cX4_unlike 26 = .ok (.bipush 12, 2) := by decide +kernel
theorem dX4_unlike_28 : decode cX4_unlike 28 = .ok (.if_icmp .ge 31, 3) := by decide +kernel
theorem dX4_unlike_31 : decode cX4_unlike 31 = .ok (.iload_n 3, 1) := by decide +kernel
theorem dX4_unlike_32 : decode cX4_unlike 32 = .ok (.aload_n 0, 1) := by decide +kernel
theorem dX4_unlike_33 : decode cX4_unlike 33 = .ok (.iload_n 1, 1) := by decide +kernel
theorem dX4_unlike_34 : decode cX4_unlike 34 = .ok (.iload_n 2, 1) := by decide +kernel
theorem dX4_unlike_35 : decode cX4_unlike 35 = .ok (.iload 4, 2) := by decide +kernel
theorem dX4_unlike_37 : decode cX4_unlike 37 = .ok (.invokevirtual 111, 3) := by decide +kernel
theorem dX4_unlike_40 : decode cX4_unlike 40 = .ok (.ifCond .eq 7, 3) := by decide +kernel
theorem dX4_unlike_43 : decode cX4_unlike 43 = .ok (.iconst 0, 1) := by decide +kernel
theorem dX4_unlike_44 : decode cX4_unlike 44 = .ok (.goto 7, 3) := by decide +kernel
theorem dX4_unlike_47 : decode cX4_unlike 47 = .ok (.iconst 1, 1) := by decide +kernel
theorem dX4_unlike_48 : decode cX4_unlike 48 = .ok (.iload 4, 2) := by decide +kernel
theorem dX4_unlike_50 : decode cX4_unlike 50 = .ok (.ishl, 1) := by decide +kernel
theorem dX4_unlike_51 : decode cX4_unlike 51 = .ok (.ior, 1) := by decide +kernel
theorem dX4_unlike_52 : decode cX4_unlike 52 = .ok (.istore_n 3, 1) := by decide +kernel
theorem dX4_unlike_53 : decode cX4_unlike 53 = .ok (.iinc 4 1, 3) := by decide +kernel
theorem dX4_unlike_56 : decode cX4_unlike 56 = .ok (.goto (-32), 3) := by decide +kernel
theorem dX4_unlike_59 : decode cX4_unlike 59 = .ok (.iload_n 3, 1) := by decide +kernel
theorem dX4_unlike_60 : decode cX4_unlike 60 = .ok (.ireturn, 1) := by decide +kernel
theorem dX4_dead_0 : decode cX4_dead 0 = .ok (.aload_n 0, 1) := by decide +kernel
theorem dX4_dead_1 : decode cX4_dead 1 = .ok (.iload_n 1, 1) := by decide +kernel
theorem dX4_dead_2 : decode cX4_dead 2 = .ok (.invokevirtual 53, 3) := by decide +kernel
theorem dX4_dead_5 : decode cX4_dead 5 = .ok (.ifCond .ne 6, 3) := by decide +kernel
theorem dX4_dead_8 : decode cX4_dead 8 = .ok (.ldc 40, 2) := by decide +kernel
theorem dX4_dead_10 : decode cX4_dead 10 = .ok (.ireturn, 1) := by decide +kernel
theorem dX4_dead_11 : decode cX4_dead 11 = .ok (.iconst 0, 1) := by decide +kernel
theorem dX4_dead_12 : decode cX4_dead 12 = .ok (.istore_n 2, 1) := by decide +kernel
theorem dX4_dead_13 : decode cX4_dead 13 = .ok (.iconst 0, 1) := by decide +kernel
theorem dX4_dead_14 : decode cX4_dead 14 = .ok (.istore_n 3, 1) := by decide +kernel
theorem dX4_dead_15 : decode cX4_dead 15 = .ok (.iload_n 3, 1) := by decide +kernel
theorem dX4_dead_16 : decode cX4_dead 16 = .ok (.bipush 12, 2) := by decide +kernel
theorem dX4_dead_18 : decode cX4_dead 18 = .ok (.if_icmp .ge 28, 3) := by decide +kernel
theorem dX4_dead_21 : decode cX4_dead 21 = .ok (.iload_n 2, 1) := by decide +kernel
theorem dX4_dead_22 : decode cX4_dead 22 = .ok (.aload_n 0, 1) := by decide +kernel
theorem dX4_dead_23 : decode cX4_dead 23 = .ok (.iload_n 1, 1) := by decide +kernel
theorem dX4_dead_24 : decode cX4_dead 24 = .ok (.iload_n 3, 1) := by decide +kernel
theorem dX4_dead_25 : decode cX4_dead 25 = .ok (.invokevirtual 120, 3) := by decide +kernel
theorem dX4_dead_28 : decode cX4_dead 28 = .ok (.ifCond .eq 9, 3) := by decide +kernel
theorem dX4_dead_31 : decode cX4_dead 31 = .ok (.iconst 1, 1) := by decide +kernel
theorem dX4_dead_32 : decode cX4_dead 32 = .ok (.iload_n 3, 1) := by decide +kernel
theorem dX4_dead_33 : decode cX4_dead 33 = .ok (.ishl, 1) := by decide +kernel
theorem dX4_dead_34 : decode cX4_dead 34 = .ok (.goto 4, 3) := by decide +kernel
theorem dX4_dead_37 : decode cX4_dead 37 = .ok (.iconst 0, 1) := by decide +kernel
theorem dX4_dead_38 : decode cX4_dead 38 = .ok (.ior, 1) := by decide +kernel
theorem dX4_dead_39 : decode cX4_dead 39 = .ok (.istore_n 2, 1) := by decide +kernel
theorem dX4_dead_40 : decode cX4_dead 40 = .ok (.iinc 3 1, 3) := by decide +kernel
theorem dX4_dead_43 : decode cX4_dead 43 = .ok (.goto (-28), 3) := by decide +kernel
theorem dX4_dead_46 : decode cX4_dead 46 = .ok (.iload_n 2, 1) := by decide +kernel
theorem dX4_dead_47 : decode cX4_dead 47 = .ok (.ireturn, 1) := by decide +kernel
theorem dX4_ghosts_0 : decode cX4_ghosts 0 = .ok (.aload_n 0, 1) := by decide +kernel
theorem dX4_ghosts_1 : decode cX4_ghosts 1 = .ok (.iload_n 1, 1) := by decide +kernel
theorem dX4_ghosts_2 : decode cX4_ghosts 2 = .ok (.invokevirtual 53, 3) := by decide +kernel
theorem dX4_ghosts_5 : decode cX4_ghosts 5 = .ok (.ifCond .eq 26, 3) := by decide +kernel
theorem dX4_ghosts_8 : decode cX4_ghosts 8 = .ok (.aload_n 0, 1) := by decide +kernel
theorem dX4_ghosts_9 : decode cX4_ghosts 9 = .ok (.iload_n 2, 1) := by decide +kernel
theorem dX4_ghosts_10 : decode cX4_ghosts 10 = .ok (.invokevirtual 53, 3) := by decide +kernel
theorem dX4_ghosts_13 : decode cX4_ghosts 13 = .ok (.ifCond .eq 18, 3) := by decide +kernel
theorem dX4_ghosts_16 : decode cX4_ghosts 16 = .ok (.iload_n 1, 1) := by decide +kernel
theorem dX4_ghosts_17 : decode cX4_ghosts 17 = .ok (.iload_n 2, 1) := by decide +kernel
theorem dX4_ghosts_18 : decode cX4_ghosts 18 = .ok (.if_icmp .eq 13, 3) := by decide +kernel
theorem dX4_ghosts_21 : decode cX4_ghosts 21 = .ok (.iload_n 3, 1) := by decide +kernel
theorem dX4_ghosts_22 : decode cX4_ghosts 22 = .ok (.iconst 0, 1) := by decide +kernel
theorem dX4_ghosts_23 : decode cX4_ghosts 23 = .ok (.bipush 60, 2) := by decide +kernel
theorem dX4_ghosts_25 : decode cX4_ghosts 25 = .ok (.invokestatic 33, 3) := by decide +kernel
theorem dX4_ghosts_28 : decode cX4_ghosts 28 = .ok (.ifCond .ne 6, 3) := by decide +kernel
theorem dX4_ghosts_31 : decode cX4_ghosts 31 = .ok (.ldc 40, 2) := by decide +kernel
theorem dX4_ghosts_33 : decode cX4_ghosts 33 = .ok (.ireturn, 1) := by decide +kernel
theorem dX4_ghosts_34 : decode cX4_ghosts 34 = .ok (.aload_n 0, 1) := by decide +kernel
theorem dX4_ghosts_35 : decode cX4_ghosts 35 = .ok (.iload_n 1, 1) := by decide +kernel
theorem dX4_ghosts_36 : decode cX4_ghosts 36 = .ok (.invokevirtual 70, 3) := by decide +kernel
theorem dX4_ghosts_39 : decode cX4_ghosts 39 = .ok (.ifCond .ne 11, 3) := by decide +kernel
theorem dX4_ghosts_42 : decode cX4_ghosts 42 = .ok (.aload_n 0, 1) := by decide +kernel
theorem dX4_ghosts_43 : decode cX4_ghosts 43 = .ok (.iload_n 2, 1) := by decide +kernel
theorem dX4_ghosts_44 : decode cX4_ghosts 44 = .ok (.invokevirtual 70, 3) := by decide +kernel
theorem dX4_ghosts_47 : decode cX4_ghosts 47 = .ok (.ifCond .eq 6, 3) := by decide +kernel
theorem dX4_ghosts_50 : decode cX4_ghosts 50 = .ok (.ldc 60, 2) := by decide +kernel
theorem dX4_ghosts_52 : decode cX4_ghosts 52 = .ok (.ireturn, 1) := by decide +kernel
theorem dX4_ghosts_53 : decode cX4_ghosts 53 = .ok (.aload_n 0, 1) := by decide +kernel
theorem dX4_ghosts_54 : decode cX4_ghosts 54 = .ok (.invokevirtual 135, 3) := by decide +kernel
theorem dX4_ghosts_57 : decode cX4_ghosts 57 = .ok (.iconst 0, 1) := by decide +kernel
theorem dX4_ghosts_58 : decode cX4_ghosts 58 = .ok (.istore 4, 2) := by decide +kernel
theorem dX4_ghosts_60 : decode cX4_ghosts 60 = .ok (.iload 4, 2) := by decide +kernel
theorem dX4_ghosts_62 : decode cX4_ghosts 62 = .ok (.iload_n 3, 1) := by decide +kernel
theorem dX4_ghosts_63 : decode cX4_ghosts 63 = .ok (.if_icmp .ge 14, 3) := by decide +kernel
theorem dX4_ghosts_66 : decode cX4_ghosts 66 = .ok (.aload_n 0, 1) := by decide +kernel
theorem dX4_ghosts_67 : decode cX4_ghosts 67 = .ok (.invokevirtual 128, 3) := by decide +kernel
theorem dX4_ghosts_70 : decode cX4_ghosts 70 = .ok (.pop, 1) := by decide +kernel
theorem dX4_ghosts_71 : decode cX4_ghosts 71 = .ok (.iinc 4 1, 3) := by decide +kernel
theorem dX4_ghosts_74 : decode cX4_ghosts 74 = .ok (.goto (-14), 3) := by decide +kernel
theorem dX4_ghosts_77 : decode cX4_ghosts 77 = .ok (.aload_n 0, 1) := by decide +kernel
theorem dX4_ghosts_78 : decode cX4_ghosts 78 = .ok (.getfield 7, 3) := by decide +kernel
theorem dX4_ghosts_81 : decode cX4_ghosts 81 = .ok (.iconst 3, 1) := by decide +kernel
theorem dX4_ghosts_82 : decode cX4_ghosts 82 = .ok (.iaload, 1) := by decide +kernel
theorem dX4_ghosts_83 : decode cX4_ghosts 83 = .ok (.istore 4, 2) := by decide +kernel
theorem dX4_ghosts_85 : decode cX4_ghosts 85 = .ok (.aload_n 0, 1) := by decide +kernel
theorem dX4_ghosts_86 : decode cX4_ghosts 86 = .ok (.iload_n 1, 1) := by decide +kernel
theorem dX4_ghosts_87 : decode cX4_ghosts 87 = .ok (.iload_n 2, 1) := by decide +kernel
theorem dX4_ghosts_88 : decode cX4_ghosts 88 = .ok (.invokevirtual 114, 3) := by decide +kernel
theorem dX4_ghosts_91 : decode cX4_ghosts 91 = .ok (.pop, 1) := by decide +kernel
theorem dX4_ghosts_92 : decode cX4_ghosts 92 = .ok (.aload_n 0, 1) := by decide +kernel
theorem dX4_ghosts_93 : decode cX4_ghosts 93 = .ok (.getfield 7, 3) := by decide +kernel
theorem dX4_ghosts_96 : decode cX4_ghosts 96 = .ok (.iconst 3, 1) := by decide +kernel
theorem dX4_ghosts_97 : decode cX4_ghosts 97 = .ok (.iaload, 1) := by decide +kernel
theorem dX4_ghosts_98 : decode cX4_ghosts 98 = .ok (.iload 4, 2) := by decide +kernel
theorem dX4_ghosts_100 : decode cX4_ghosts 100 = .ok (.isub, 1) := by decide +kernel
theorem dX4_ghosts_101 : decode cX4_ghosts 101 = .ok (.istore 5, 2) := by decide +kernel
theorem dX4_ghosts_103 : decode cX4_ghosts 103 = .ok (.aload_n 0, 1) := by decide +kernel
theorem dX4_ghosts_104 : decode cX4_ghosts 104 = .ok (.invokevirtual 138, 3) := by decide +kernel
theorem dX4_ghosts_107 : decode cX4_ghosts 107 = .ok (.iload 5, 2) := by decide +kernel
theorem dX4_ghosts_109 : decode cX4_ghosts 109 = .ok (.ireturn, 1) := by decide +kernel
theorem dX4_bestMeeting_0 : decode cX4_bestMeeting 0 = .ok (.iload_n 1, 1) := by decide +kernel
theorem dX4_bestMeeting_1 : decode cX4_bestMeeting 1 = .ok (.iconst 0, 1) := by decide +kernel
theorem dX4_bestMeeting_2 : decode cX4_bestMeeting 2 = .ok (.iconst 1, 1) := by decide +kernel
theorem dX4_bestMeeting_3 : decode cX4_bestMeeting 3 = .ok (.invokestatic 33, 3) := by decide +kernel
theorem dX4_bestMeeting_6 : decode cX4_bestMeeting 6 = .ok (.ifCond .ne 6, 3) := by decide +kernel
theorem dX4_bestMeeting_9 : decode cX4_bestMeeting 9 = .ok (.ldc 40, 2) := by decide +kernel
theorem dX4_bestMeeting_11 : decode cX4_bestMeeting 11 = .ok (.ireturn, 1) := by decide +kernel
theorem dX4_bestMeeting_12 : decode cX4_bestMeeting 12 = .ok (.ldc 80, 2) := by decide +kernel
theorem dX4_bestMeeting_14 : decode cX4_bestMeeting 14 = .ok (.istore_n 2, 1) := by decide +kernel
theorem dX4_bestMeeting_15 : decode cX4_bestMeeting 15 = .ok (.iconst (-1), 1) := by decide +kernel
theorem dX4_bestMeeting_16 : decode cX4_bestMeeting 16 = .ok (.istore_n 3, 1) := by decide +kernel
theorem dX4_bestMeeting_17 : decode cX4_bestMeeting 17 = .ok (.iconst 0, 1) := by decide +kernel
theorem dX4_bestMeeting_18 : decode cX4_bestMeeting 18 = .ok (.istore 4, 2) := by decide +kernel
theorem dX4_bestMeeting_20 : decode cX4_bestMeeting 20 = .ok (.iload 4, 2) := by decide +kernel
theorem dX4_bestMeeting_22 : decode cX4_bestMeeting 22 = .ok (.aload_n 0, 1) := by decide +kernel
theorem dX4_bestMeeting_23 : decode cX4_bestMeeting 23 = .ok (.getfield 7, 3) := by decide +kernel
theorem dX4_bestMeeting_26 : decode cX4_bestMeeting 26 = .ok (.iconst 0, 1) := by decide +kernel
theorem dX4_bestMeeting_27 : decode cX4_bestMeeting 27 = .ok (.iaload, 1) := by decide +kernel
theorem dX4_bestMeeting_28 : decode cX4_bestMeeting 28 = .ok (.if_icmp .ge 100, 3) := by decide +kernel
theorem dX4_bestMeeting_31 : decode cX4_bestMeeting 31 = .ok (.iload 4, 2) := by decide +kernel
theorem dX4_bestMeeting_33 : decode cX4_bestMeeting 33 = .ok (.iconst 1, 1) := by decide +kernel
theorem dX4_bestMeeting_34 : decode cX4_bestMeeting 34 = .ok (.iadd, 1) := by decide +kernel
theorem dX4_bestMeeting_35 : decode cX4_bestMeeting 35 = .ok (.istore 5, 2) := by decide +kernel
theorem dX4_bestMeeting_37 : decode cX4_bestMeeting 37 = .ok (.iload 5, 2) := by decide +kernel
theorem dX4_bestMeeting_39 : decode cX4_bestMeeting 39 = .ok (.aload_n 0, 1) := by decide +kernel
theorem dX4_bestMeeting_40 : decode cX4_bestMeeting 40 = .ok (.getfield 7, 3) := by decide +kernel
theorem dX4_bestMeeting_43 : decode cX4_bestMeeting 43 = .ok (.iconst 0, 1) := by decide +kernel
theorem dX4_bestMeeting_44 : decode cX4_bestMeeting 44 = .ok (.iaload, 1) := by decide +kernel
theorem dX4_bestMeeting_45 : decode cX4_bestMeeting 45 = .ok (.if_icmp .ge 77, 3) := by decide +kernel
theorem dX4_bestMeeting_48 : decode cX4_bestMeeting 48 = .ok (.aload_n 0, 1) := by decide +kernel
theorem dX4_bestMeeting_49 : decode cX4_bestMeeting 49 = .ok (.iload 4, 2) := by decide +kernel
theorem dX4_bestMeeting_51 : decode cX4_bestMeeting 51 = .ok (.invokevirtual 57, 3) := by decide +kernel
theorem dX4_bestMeeting_54 : decode cX4_bestMeeting 54 = .ok (.ifCond .eq 62, 3) := by decide +kernel
theorem dX4_bestMeeting_57 : decode cX4_bestMeeting 57 = .ok (.aload_n 0, 1) := by decide +kernel
theorem dX4_bestMeeting_58 : decode cX4_bestMeeting 58 = .ok (.iload 5, 2) := by decide +kernel
theorem dX4_bestMeeting_60 : decode cX4_bestMeeting 60 = .ok (.invokevirtual 57, 3) := by decide +kernel
theorem dX4_bestMeeting_63 : decode cX4_bestMeeting 63 = .ok (.ifCond .eq 53, 3) := by decide +kernel
theorem dX4_bestMeeting_66 : decode cX4_bestMeeting 66 = .ok (.aload_n 0, 1) := by decide +kernel
theorem dX4_bestMeeting_67 : decode cX4_bestMeeting 67 = .ok (.invokevirtual 135, 3) := by decide +kernel
theorem dX4_bestMeeting_70 : decode cX4_bestMeeting 70 = .ok (.aload_n 0, 1) := by decide +kernel
theorem dX4_bestMeeting_71 : decode cX4_bestMeeting 71 = .ok (.iload 4, 2) := by decide +kernel
theorem dX4_bestMeeting_73 : decode cX4_bestMeeting 73 = .ok (.iload 5, 2) := by decide +kernel
theorem dX4_bestMeeting_75 : decode cX4_bestMeeting 75 = .ok (.invokevirtual 114, 3) := by decide +kernel
theorem dX4_bestMeeting_78 : decode cX4_bestMeeting 78 = .ok (.istore 6, 2) := by decide +kernel
theorem dX4_bestMeeting_80 : decode cX4_bestMeeting 80 = .ok (.aload_n 0, 1) := by decide +kernel
theorem dX4_bestMeeting_81 : decode cX4_bestMeeting 81 = .ok (.invokevirtual 138, 3) := by decide +kernel
theorem dX4_bestMeeting_84 : decode cX4_bestMeeting 84 = .ok (.iload 6, 2) := by decide +kernel
theorem dX4_bestMeeting_86 : decode cX4_bestMeeting 86 = .ok (.iload_n 3, 1) := by decide +kernel
theorem dX4_bestMeeting_87 : decode cX4_bestMeeting 87 = .ok (.if_icmp .le 14, 3) := by decide +kernel
theorem dX4_bestMeeting_90 : decode cX4_bestMeeting 90 = .ok (.bipush 10, 2) := by decide +kernel
theorem dX4_bestMeeting_92 : decode cX4_bestMeeting 92 = .ok (.iload 4, 2) := by decide +kernel
theorem dX4_bestMeeting_94 : decode cX4_bestMeeting 94 = .ok (.imul, 1) := by decide +kernel
theorem dX4_bestMeeting_95 : decode cX4_bestMeeting 95 = .ok (.iload 5, 2) := by decide +kernel
theorem dX4_bestMeeting_97 : decode cX4_bestMeeting 97 = .ok (.iadd, 1) := by decide +kernel
theorem dX4_bestMeeting_98 : decode cX4_bestMeeting 98 = .ok (.goto 4, 3) := by decide +kernel
theorem dX4_bestMeeting_101 : decode cX4_bestMeeting 101 = .ok (.iload_n 2, 1) := by decide +kernel
theorem dX4_bestMeeting_102 : decode cX4_bestMeeting 102 = .ok (.istore_n 2, 1) := by decide +kernel
theorem dX4_bestMeeting_103 : decode cX4_bestMeeting 103 = .ok (.iload 6, 2) := by decide +kernel
theorem dX4_bestMeeting_105 : decode cX4_bestMeeting 105 = .ok (.iload_n 3, 1) := by decide +kernel
theorem dX4_bestMeeting_106 : decode cX4_bestMeeting 106 = .ok (.if_icmp .le 8, 3) := by decide +kernel
theorem dX4_bestMeeting_109 : decode cX4_bestMeeting 109 = .ok (.iload 6, 2) := by decide +kernel
theorem dX4_bestMeeting_111 : decode cX4_bestMeeting 111 = .ok (.goto 4, 3) := by decide +kernel
theorem dX4_bestMeeting_114 : decode cX4_bestMeeting 114 = .ok (.iload_n 3, 1) := by decide +kernel
theorem dX4_bestMeeting_115 : decode cX4_bestMeeting 115 = .ok (.istore_n 3, 1) := by decide +kernel
theorem dX4_bestMeeting_116 : decode cX4_bestMeeting 116 = .ok (.iinc 5 1, 3) := by decide +kernel
theorem dX4_bestMeeting_119 : decode cX4_bestMeeting 119 = .ok (.goto (-82), 3) := by decide +kernel
theorem dX4_bestMeeting_122 : decode cX4_bestMeeting 122 = .ok (.iinc 4 1, 3) := by decide +kernel
theorem dX4_bestMeeting_125 : decode cX4_bestMeeting 125 = .ok (.goto (-105), 3) := by decide +kernel
theorem dX4_bestMeeting_128 : decode cX4_bestMeeting 128 = .ok (.iload_n 1, 1) := by decide +kernel
theorem dX4_bestMeeting_129 : decode cX4_bestMeeting 129 = .ok (.ifCond .eq 7, 3) := by decide +kernel
theorem dX4_bestMeeting_132 : decode cX4_bestMeeting 132 = .ok (.iload_n 3, 1) := by decide +kernel
theorem dX4_bestMeeting_133 : decode cX4_bestMeeting 133 = .ok (.ifCond .ge 7, 3) := by decide +kernel
theorem dX4_bestMeeting_136 : decode cX4_bestMeeting 136 = .ok (.iload_n 2, 1) := by decide +kernel
theorem dX4_bestMeeting_137 : decode cX4_bestMeeting 137 = .ok (.goto 4, 3) := by decide +kernel
theorem dX4_bestMeeting_140 : decode cX4_bestMeeting 140 = .ok (.iload_n 3, 1) := by decide +kernel
theorem dX4_bestMeeting_141 : decode cX4_bestMeeting 141 = .ok (.ireturn, 1) := by decide +kernel
theorem dX4_awakeBehind_0 : decode cX4_awakeBehind 0 = .ok (.iload_n 1, 1) := by decide +kernel
theorem dX4_awakeBehind_1 : decode cX4_awakeBehind 1 = .ok (.iconst 1, 1) := by decide +kernel
theorem dX4_awakeBehind_2 : decode cX4_awakeBehind 2 = .ok (.iadd, 1) := by decide +kernel
theorem dX4_awakeBehind_3 : decode cX4_awakeBehind 3 = .ok (.istore_n 2, 1) := by decide +kernel
theorem dX4_awakeBehind_4 : decode cX4_awakeBehind 4 = .ok (.iload_n 2, 1) := by decide +kernel
theorem dX4_awakeBehind_5 : decode cX4_awakeBehind 5 = .ok (.aload_n 0, 1) := by decide +kernel
theorem dX4_awakeBehind_6 : decode cX4_awakeBehind 6 = .ok (.getfield 7, 3) := by decide +kernel
theorem dX4_awakeBehind_9 : decode cX4_awakeBehind 9 = .ok (.iconst 0, 1) := by decide +kernel
theorem dX4_awakeBehind_10 : decode cX4_awakeBehind 10 = .ok (.iaload, 1) := by decide +kernel
theorem dX4_awakeBehind_11 : decode cX4_awakeBehind 11 = .ok (.if_icmp .ge 17, 3) := by decide +kernel
theorem dX4_awakeBehind_14 : decode cX4_awakeBehind 14 = .ok (.aload_n 0, 1) := by decide +kernel
theorem dX4_awakeBehind_15 : decode cX4_awakeBehind 15 = .ok (.iload_n 2, 1) := by decide +kernel
theorem dX4_awakeBehind_16 : decode cX4_awakeBehind 16 = .ok (.invokevirtual 57, 3) := by decide +kernel
theorem dX4_awakeBehind_19 : decode cX4_awakeBehind 19 = .ok (.ifCond .ne 9, 3) := by decide +kernel
theorem dX4_awakeBehind_22 : decode cX4_awakeBehind 22 = .ok (.iinc 2 1, 3) := by decide +kernel
theorem dX4_awakeBehind_25 : decode cX4_awakeBehind 25 = .ok (.goto (-21), 3) := by decide +kernel
theorem dX4_awakeBehind_28 : decode cX4_awakeBehind 28 = .ok (.iload_n 2, 1) := by decide +kernel
theorem dX4_awakeBehind_29 : decode cX4_awakeBehind 29 = .ok (.ireturn, 1) := by decide +kernel
theorem dX4_areAllSame_0 : decode cX4_areAllSame 0 = .ok (.aload_n 0, 1) := by decide +kernel
theorem dX4_areAllSame_1 : decode cX4_areAllSame 1 = .ok (.iconst (-1), 1) := by decide +kernel
theorem dX4_areAllSame_2 : decode cX4_areAllSame 2 = .ok (.invokevirtual 141, 3) := by decide +kernel
theorem dX4_areAllSame_5 : decode cX4_areAllSame 5 = .ok (.istore_n 1, 1) := by decide +kernel
theorem dX4_areAllSame_6 : decode cX4_areAllSame 6 = .ok (.iconst 1, 1) := by decide +kernel
theorem dX4_areAllSame_7 : decode cX4_areAllSame 7 = .ok (.istore_n 2, 1) := by decide +kernel
theorem dX4_areAllSame_8 : decode cX4_areAllSame 8 = .ok (.aload_n 0, 1) := by decide +kernel
theorem dX4_areAllSame_9 : decode cX4_areAllSame 9 = .ok (.iload_n 1, 1) := by decide +kernel
theorem dX4_areAllSame_10 : decode cX4_areAllSame 10 = .ok (.invokevirtual 141, 3) := by decide +kernel
theorem dX4_areAllSame_13 : decode cX4_areAllSame 13 = .ok (.istore_n 3, 1) := by decide +kernel
theorem dX4_areAllSame_14 : decode cX4_areAllSame 14 = .ok (.iload_n 3, 1) := by decide +kernel
theorem dX4_areAllSame_15 : decode cX4_areAllSame 15 = .ok (.aload_n 0, 1) := by decide +kernel
theorem dX4_areAllSame_16 : decode cX4_areAllSame 16 = .ok (.getfield 7, 3) := by decide +kernel
theorem dX4_areAllSame_19 : decode cX4_areAllSame 19 = .ok (.iconst 0, 1) := by decide +kernel
theorem dX4_areAllSame_20 : decode cX4_areAllSame 20 = .ok (.iaload, 1) := by decide +kernel
theorem dX4_areAllSame_21 : decode cX4_areAllSame 21 = .ok (.if_icmp .ge 49, 3) := by decide +kernel
theorem dX4_areAllSame_24 : decode cX4_areAllSame 24 = .ok (.iconst 0, 1) := by decide +kernel
theorem dX4_areAllSame_25 : decode cX4_areAllSame 25 = .ok (.istore 4, 2) := by decide +kernel
theorem dX4_areAllSame_27 : decode cX4_areAllSame 27 = .ok (.iload 4, 2) := by decide +kernel
theorem dX4_areAllSame_29 : decode cX4_areAllSame 29 = .ok (.bipush 12, 2) := by decide +kernel
theorem dX4_areAllSame_31 : decode cX4_areAllSame 31 = .ok (.if_icmp .ge 30, 3) := by decide +kernel
theorem dX4_areAllSame_34 : decode cX4_areAllSame 34 = .ok (.iload_n 2, 1) := by decide +kernel
theorem dX4_areAllSame_35 : decode cX4_areAllSame 35 = .ok (.ifCond .eq 18, 3) := by decide +kernel
theorem dX4_areAllSame_38 : decode cX4_areAllSame 38 = .ok (.aload_n 0, 1) := by decide +kernel
theorem dX4_areAllSame_39 : decode cX4_areAllSame 39 = .ok (.iload_n 1, 1) := by decide +kernel
theorem dX4_areAllSame_40 : decode cX4_areAllSame 40 = .ok (.iload_n 3, 1) := by decide +kernel
theorem dX4_areAllSame_41 : decode cX4_areAllSame 41 = .ok (.iload 4, 2) := by decide +kernel
theorem dX4_areAllSame_43 : decode cX4_areAllSame 43 = .ok (.invokevirtual 111, 3) := by decide +kernel
theorem dX4_areAllSame_46 : decode cX4_areAllSame 46 = .ok (.ifCond .eq 7, 3) := by decide +kernel
theorem dX4_areAllSame_49 : decode cX4_areAllSame 49 = .ok (.iconst 1, 1) := by decide +kernel
theorem dX4_areAllSame_50 : decode cX4_areAllSame 50 = .ok (.goto 4, 3) := by decide +kernel
theorem dX4_areAllSame_53 : decode cX4_areAllSame 53 = .ok (.iconst 0, 1) := by decide +kernel
theorem dX4_areAllSame_54 : decode cX4_areAllSame 54 = .ok (.istore_n 2, 1) := by decide +kernel
theorem dX4_areAllSame_55 : decode cX4_areAllSame 55 = .ok (.iinc 4 1, 3) := by decide +kernel
theorem dX4_areAllSame_58 : decode cX4_areAllSame 58 = .ok (.goto (-31), 3) := by decide +kernel
theorem dX4_areAllSame_61 : decode cX4_areAllSame 61 = .ok (.aload_n 0, 1) := by decide +kernel
theorem dX4_areAllSame_62 : decode cX4_areAllSame 62 = .ok (.iload_n 3, 1) := by decide +kernel
theorem dX4_areAllSame_63 : decode cX4_areAllSame 63 = .ok (.invokevirtual 141, 3) := by decide +kernel
theorem dX4_areAllSame_66 : decode cX4_areAllSame 66 = .ok (.istore_n 3, 1) := by decide +kernel
theorem dX4_areAllSame_67 : decode cX4_areAllSame 67 = .ok (.goto (-53), 3) := by decide +kernel
theorem dX4_areAllSame_70 : decode cX4_areAllSame 70 = .ok (.iload_n 2, 1) := by decide +kernel
theorem dX4_areAllSame_71 : decode cX4_areAllSame 71 = .ok (.ireturn, 1) := by decide +kernel
theorem dX4_round_0 : decode cX4_round 0 = .ok (.aload_n 0, 1) := by decide +kernel
theorem dX4_round_1 : decode cX4_round 1 = .ok (.iconst (-1), 1) := by decide +kernel
theorem dX4_round_2 : decode cX4_round 2 = .ok (.invokevirtual 141, 3) := by decide +kernel
theorem dX4_round_5 : decode cX4_round 5 = .ok (.istore_n 1, 1) := by decide +kernel
theorem dX4_round_6 : decode cX4_round 6 = .ok (.iload_n 1, 1) := by decide +kernel
theorem dX4_round_7 : decode cX4_round 7 = .ok (.istore_n 2, 1) := by decide +kernel
theorem dX4_round_8 : decode cX4_round 8 = .ok (.iload_n 2, 1) := by decide +kernel
theorem dX4_round_9 : decode cX4_round 9 = .ok (.aload_n 0, 1) := by decide +kernel
theorem dX4_round_10 : decode cX4_round 10 = .ok (.getfield 7, 3) := by decide +kernel
theorem dX4_round_13 : decode cX4_round 13 = .ok (.iconst 0, 1) := by decide +kernel
theorem dX4_round_14 : decode cX4_round 14 = .ok (.iaload, 1) := by decide +kernel
theorem dX4_round_15 : decode cX4_round 15 = .ok (.if_icmp .ge 54, 3) := by decide +kernel
theorem dX4_round_18 : decode cX4_round 18 = .ok (.aload_n 0, 1) := by decide +kernel
theorem dX4_round_19 : decode cX4_round 19 = .ok (.iload_n 2, 1) := by decide +kernel
theorem dX4_round_20 : decode cX4_round 20 = .ok (.invokevirtual 141, 3) := by decide +kernel
theorem dX4_round_23 : decode cX4_round 23 = .ok (.istore_n 3, 1) := by decide +kernel
theorem dX4_round_24 : decode cX4_round 24 = .ok (.iload_n 3, 1) := by decide +kernel
theorem dX4_round_25 : decode cX4_round 25 = .ok (.aload_n 0, 1) := by decide +kernel
theorem dX4_round_26 : decode cX4_round 26 = .ok (.getfield 7, 3) := by decide +kernel
theorem dX4_round_29 : decode cX4_round 29 = .ok (.iconst 0, 1) := by decide +kernel
theorem dX4_round_30 : decode cX4_round 30 = .ok (.iaload, 1) := by decide +kernel
theorem dX4_round_31 : decode cX4_round 31 = .ok (.if_icmp .ge 13, 3) := by decide +kernel
theorem dX4_round_34 : decode cX4_round 34 = .ok (.aload_n 0, 1) := by decide +kernel
theorem dX4_round_35 : decode cX4_round 35 = .ok (.iload_n 2, 1) := by decide +kernel
theorem dX4_round_36 : decode cX4_round 36 = .ok (.iload_n 3, 1) := by decide +kernel
theorem dX4_round_37 : decode cX4_round 37 = .ok (.invokevirtual 114, 3) := by decide +kernel
theorem dX4_round_40 : decode cX4_round 40 = .ok (.pop, 1) := by decide +kernel
theorem dX4_round_41 : decode cX4_round 41 = .ok (.goto 19, 3) := by decide +kernel
theorem dX4_round_44 : decode cX4_round 44 = .ok (.aload_n 0, 1) := by decide +kernel
theorem dX4_round_45 : decode cX4_round 45 = .ok (.iconst 0, 1) := by decide +kernel
theorem dX4_round_46 : decode cX4_round 46 = .ok (.invokevirtual 61, 3) := by decide +kernel
theorem dX4_round_49 : decode cX4_round 49 = .ok (.iconst 2, 1) := by decide +kernel
theorem dX4_round_50 : decode cX4_round 50 = .ok (.if_icmp .le 10, 3) := by decide +kernel
theorem dX4_round_53 : decode cX4_round 53 = .ok (.aload_n 0, 1) := by decide +kernel
theorem dX4_round_54 : decode cX4_round 54 = .ok (.iload_n 2, 1) := by decide +kernel
theorem dX4_round_55 : decode cX4_round 55 = .ok (.iload_n 1, 1) := by decide +kernel
theorem dX4_round_56 : decode cX4_round 56 = .ok (.invokevirtual 114, 3) := by decide +kernel
theorem dX4_round_59 : decode cX4_round 59 = .ok (.pop, 1) := by decide +kernel
theorem dX4_round_60 : decode cX4_round 60 = .ok (.aload_n 0, 1) := by decide +kernel
theorem dX4_round_61 : decode cX4_round 61 = .ok (.iload_n 2, 1) := by decide +kernel
theorem dX4_round_62 : decode cX4_round 62 = .ok (.invokevirtual 141, 3) := by decide +kernel
theorem dX4_round_65 : decode cX4_round 65 = .ok (.istore_n 2, 1) := by decide +kernel
theorem dX4_round_66 : decode cX4_round 66 = .ok (.goto (-58), 3) := by decide +kernel
theorem dX4_round_69 : decode cX4_round 69 = .ok (.return_, 1) := by decide +kernel
theorem dX4_rounds_0 : decode cX4_rounds 0 = .ok (.aload_n 0, 1) := by decide +kernel
theorem dX4_rounds_1 : decode cX4_rounds 1 = .ok (.invokevirtual 135, 3) := by decide +kernel
theorem dX4_rounds_4 : decode cX4_rounds 4 = .ok (.iconst 0, 1) := by decide +kernel
theorem dX4_rounds_5 : decode cX4_rounds 5 = .ok (.istore_n 1, 1) := by decide +kernel
theorem dX4_rounds_6 : decode cX4_rounds 6 = .ok (.iload_n 1, 1) := by decide +kernel
theorem dX4_rounds_7 : decode cX4_rounds 7 = .ok (.bipush 7, 2) := by decide +kernel
theorem dX4_rounds_9 : decode cX4_rounds 9 = .ok (.if_icmp .ge 20, 3) := by decide +kernel
theorem dX4_rounds_12 : decode cX4_rounds 12 = .ok (.aload_n 0, 1) := by decide +kernel
theorem dX4_rounds_13 : decode cX4_rounds 13 = .ok (.invokevirtual 144, 3) := by decide +kernel
theorem dX4_rounds_16 : decode cX4_rounds 16 = .ok (.ifCond .ne 13, 3) := by decide +kernel
theorem dX4_rounds_19 : decode cX4_rounds 19 = .ok (.aload_n 0, 1) := by decide +kernel
theorem dX4_rounds_20 : decode cX4_rounds 20 = .ok (.invokevirtual 148, 3) := by decide +kernel
theorem dX4_rounds_23 : decode cX4_rounds 23 = .ok (.iinc 1 1, 3) := by decide +kernel
theorem dX4_rounds_26 : decode cX4_rounds 26 = .ok (.goto (-20), 3) := by decide +kernel
theorem dX4_rounds_29 : decode cX4_rounds 29 = .ok (.aload_n 0, 1) := by decide +kernel
theorem dX4_rounds_30 : decode cX4_rounds 30 = .ok (.invokevirtual 144, 3) := by decide +kernel
theorem dX4_rounds_33 : decode cX4_rounds 33 = .ok (.istore_n 2, 1) := by decide +kernel
theorem dX4_rounds_34 : decode cX4_rounds 34 = .ok (.aload_n 0, 1) := by decide +kernel
theorem dX4_rounds_35 : decode cX4_rounds 35 = .ok (.invokevirtual 138, 3) := by decide +kernel
theorem dX4_rounds_38 : decode cX4_rounds 38 = .ok (.iload_n 2, 1) := by decide +kernel
theorem dX4_rounds_39 : decode cX4_rounds 39 = .ok (.ifCond .eq 7, 3) := by decide +kernel
theorem dX4_rounds_42 : decode cX4_rounds 42 = .ok (.iload_n 1, 1) := by decide +kernel
theorem dX4_rounds_43 : decode cX4_rounds 43 = .ok (.goto 5, 3) := by decide +kernel
theorem dX4_rounds_46 : decode cX4_rounds 46 = .ok (.ldc 80, 2) := by decide +kernel
theorem dX4_rounds_48 : decode cX4_rounds 48 = .ok (.ireturn, 1) := by decide +kernel
theorem dX4_entries_0 : decode cX4_entries 0 = .ok (.iconst 0, 1) := by decide +kernel
theorem dX4_entries_1 : decode cX4_entries 1 = .ok (.istore_n 2, 1) := by decide +kernel
theorem dX4_entries_2 : decode cX4_entries 2 = .ok (.iconst 0, 1) := by decide +kernel
theorem dX4_entries_3 : decode cX4_entries 3 = .ok (.istore_n 3, 1) := by decide +kernel
theorem dX4_entries_4 : decode cX4_entries 4 = .ok (.iload_n 3, 1) := by decide +kernel
theorem dX4_entries_5 : decode cX4_entries 5 = .ok (.bipush 84, 2) := by decide +kernel
theorem dX4_entries_7 : decode cX4_entries 7 = .ok (.if_icmp .ge 70, 3) := by decide +kernel
theorem dX4_entries_10 : decode cX4_entries 10 = .ok (.iload_n 3, 1) := by decide +kernel
theorem dX4_entries_11 : decode cX4_entries 11 = .ok (.bipush 12, 2) := by decide +kernel
theorem dX4_entries_13 : decode cX4_entries 13 = .ok (.idiv, 1) := by decide +kernel
theorem dX4_entries_14 : decode cX4_entries 14 = .ok (.istore 4, 2) := by decide +kernel
theorem dX4_entries_16 : decode cX4_entries 16 = .ok (.iload_n 2, 1) := by decide +kernel
theorem dX4_entries_17 : decode cX4_entries 17 = .ok (.iload 4, 2) := by decide +kernel
theorem dX4_entries_19 : decode cX4_entries 19 = .ok (.aload_n 0, 1) := by decide +kernel
theorem dX4_entries_20 : decode cX4_entries 20 = .ok (.getfield 7, 3) := by decide +kernel
theorem dX4_entries_23 : decode cX4_entries 23 = .ok (.iconst 0, 1) := by decide +kernel
theorem dX4_entries_24 : decode cX4_entries 24 = .ok (.iaload, 1) := by decide +kernel
theorem dX4_entries_25 : decode cX4_entries 25 = .ok (.if_icmp .ge 43, 3) := by decide +kernel
theorem dX4_entries_28 : decode cX4_entries 28 = .ok (.iload_n 1, 1) := by decide +kernel
theorem dX4_entries_29 : decode cX4_entries 29 = .ok (.iconst 3, 1) := by decide +kernel
theorem dX4_entries_30 : decode cX4_entries 30 = .ok (.if_icmp .ne 19, 3) := by decide +kernel
theorem dX4_entries_33 : decode cX4_entries 33 = .ok (.aload_n 0, 1) := by decide +kernel
theorem dX4_entries_34 : decode cX4_entries 34 = .ok (.iload 4, 2) := by decide +kernel
theorem dX4_entries_36 : decode cX4_entries 36 = .ok (.iload_n 3, 1) := by decide +kernel
theorem dX4_entries_37 : decode cX4_entries 37 = .ok (.bipush 12, 2) := by decide +kernel
theorem dX4_entries_39 : decode cX4_entries 39 = .ok (.irem, 1) := by decide +kernel
theorem dX4_entries_40 : decode cX4_entries 40 = .ok (.invokevirtual 120, 3) := by decide +kernel
theorem dX4_entries_43 : decode cX4_entries 43 = .ok (.ifCond .eq 25, 3) := by decide +kernel
theorem dX4_entries_46 : decode cX4_entries 46 = .ok (.goto 18, 3) := by decide +kernel
theorem dX4_entries_49 : decode cX4_entries 49 = .ok (.aload_n 0, 1) := by decide +kernel
theorem dX4_entries_50 : decode cX4_entries 50 = .ok (.iload 4, 2) := by decide +kernel
theorem dX4_entries_52 : decode cX4_entries 52 = .ok (.iload_n 3, 1) := by decide +kernel
theorem dX4_entries_53 : decode cX4_entries 53 = .ok (.bipush 12, 2) := by decide +kernel
theorem dX4_entries_55 : decode cX4_entries 55 = .ok (.irem, 1) := by decide +kernel
theorem dX4_entries_56 : decode cX4_entries 56 = .ok (.iconst 0, 1) := by decide +kernel
theorem dX4_entries_57 : decode cX4_entries 57 = .ok (.invokevirtual 73, 3) := by decide +kernel
theorem dX4_entries_60 : decode cX4_entries 60 = .ok (.iload_n 1, 1) := by decide +kernel
theorem dX4_entries_61 : decode cX4_entries 61 = .ok (.if_icmp .ne 7, 3) := by decide +kernel
theorem dX4_entries_64 : decode cX4_entries 64 = .ok (.iconst 1, 1) := by decide +kernel
theorem dX4_entries_65 : decode cX4_entries 65 = .ok (.goto 4, 3) := by decide +kernel
theorem dX4_entries_68 : decode cX4_entries 68 = .ok (.iconst 0, 1) := by decide +kernel
theorem dX4_entries_69 : decode cX4_entries 69 = .ok (.iadd, 1) := by decide +kernel
theorem dX4_entries_70 : decode cX4_entries 70 = .ok (.istore_n 2, 1) := by decide +kernel
theorem dX4_entries_71 : decode cX4_entries 71 = .ok (.iinc 3 1, 3) := by decide +kernel
theorem dX4_entries_74 : decode cX4_entries 74 = .ok (.goto (-70), 3) := by decide +kernel
theorem dX4_entries_77 : decode cX4_entries 77 = .ok (.iload_n 2, 1) := by decide +kernel
theorem dX4_entries_78 : decode cX4_entries 78 = .ok (.ireturn, 1) := by decide +kernel
theorem dX4_count_0 : decode cX4_count 0 = .ok (.iload_n 1, 1) := by decide +kernel
theorem dX4_count_1 : decode cX4_count 1 = .ok (.tableswitch 124 0 11 #[63, 70, 70, 78, 85, 92, 92, 92, 100, 107, 114, 119], 63) := by decide +kernel
theorem dX4_count_64 : decode cX4_count 64 = .ok (.aload_n 0, 1) := by decide +kernel
theorem dX4_count_65 : decode cX4_count 65 = .ok (.getfield 7, 3) := by decide +kernel
theorem dX4_count_68 : decode cX4_count 68 = .ok (.iconst 0, 1) := by decide +kernel
theorem dX4_count_69 : decode cX4_count 69 = .ok (.iaload, 1) := by decide +kernel
theorem dX4_count_70 : decode cX4_count 70 = .ok (.ireturn, 1) := by decide +kernel
theorem dX4_count_71 : decode cX4_count 71 = .ok (.aload_n 0, 1) := by decide +kernel
theorem dX4_count_72 : decode cX4_count 72 = .ok (.iload_n 1, 1) := by decide +kernel
theorem dX4_count_73 : decode cX4_count 73 = .ok (.iconst 1, 1) := by decide +kernel
theorem dX4_count_74 : decode cX4_count 74 = .ok (.isub, 1) := by decide +kernel
theorem dX4_count_75 : decode cX4_count 75 = .ok (.invokevirtual 61, 3) := by decide +kernel
theorem dX4_count_78 : decode cX4_count 78 = .ok (.ireturn, 1) := by decide +kernel
theorem dX4_count_79 : decode cX4_count 79 = .ok (.aload_n 0, 1) := by decide +kernel
theorem dX4_count_80 : decode cX4_count 80 = .ok (.getfield 7, 3) := by decide +kernel
theorem dX4_count_83 : decode cX4_count 83 = .ok (.iconst 1, 1) := by decide +kernel
theorem dX4_count_84 : decode cX4_count 84 = .ok (.iaload, 1) := by decide +kernel
theorem dX4_count_85 : decode cX4_count 85 = .ok (.ireturn, 1) := by decide +kernel
theorem dX4_count_86 : decode cX4_count 86 = .ok (.aload_n 0, 1) := by decide +kernel
theorem dX4_count_87 : decode cX4_count 87 = .ok (.getfield 7, 3) := by decide +kernel
theorem dX4_count_90 : decode cX4_count 90 = .ok (.iconst 2, 1) := by decide +kernel
theorem dX4_count_91 : decode cX4_count 91 = .ok (.iaload, 1) := by decide +kernel
theorem dX4_count_92 : decode cX4_count 92 = .ok (.ireturn, 1) := by decide +kernel
theorem dX4_count_93 : decode cX4_count 93 = .ok (.aload_n 0, 1) := by decide +kernel
theorem dX4_count_94 : decode cX4_count 94 = .ok (.iload_n 1, 1) := by decide +kernel
theorem dX4_count_95 : decode cX4_count 95 = .ok (.iconst 4, 1) := by decide +kernel
theorem dX4_count_96 : decode cX4_count 96 = .ok (.isub, 1) := by decide +kernel
theorem dX4_count_97 : decode cX4_count 97 = .ok (.invokevirtual 151, 3) := by decide +kernel
theorem dX4_count_100 : decode cX4_count 100 = .ok (.ireturn, 1) := by decide +kernel
theorem dX4_count_101 : decode cX4_count 101 = .ok (.aload_n 0, 1) := by decide +kernel
theorem dX4_count_102 : decode cX4_count 102 = .ok (.getfield 7, 3) := by decide +kernel
theorem dX4_count_105 : decode cX4_count 105 = .ok (.iconst 3, 1) := by decide +kernel
theorem dX4_count_106 : decode cX4_count 106 = .ok (.iaload, 1) := by decide +kernel
theorem dX4_count_107 : decode cX4_count 107 = .ok (.ireturn, 1) := by decide +kernel
theorem dX4_count_108 : decode cX4_count 108 = .ok (.aload_n 0, 1) := by decide +kernel
theorem dX4_count_109 : decode cX4_count 109 = .ok (.getfield 7, 3) := by decide +kernel
theorem dX4_count_112 : decode cX4_count 112 = .ok (.iconst 4, 1) := by decide +kernel
theorem dX4_count_113 : decode cX4_count 113 = .ok (.iaload, 1) := by decide +kernel
theorem dX4_count_114 : decode cX4_count 114 = .ok (.ireturn, 1) := by decide +kernel
theorem dX4_count_115 : decode cX4_count 115 = .ok (.aload_n 0, 1) := by decide +kernel
theorem dX4_count_116 : decode cX4_count 116 = .ok (.getfield 41, 3) := by decide +kernel
theorem dX4_count_119 : decode cX4_count 119 = .ok (.ireturn, 1) := by decide +kernel
theorem dX4_count_120 : decode cX4_count 120 = .ok (.aload_n 0, 1) := by decide +kernel
theorem dX4_count_121 : decode cX4_count 121 = .ok (.getfield 154, 3) := by decide +kernel
theorem dX4_count_124 : decode cX4_count 124 = .ok (.ireturn, 1) := by decide +kernel
theorem dX4_count_125 : decode cX4_count 125 = .ok (.ldc 40, 2) := by decide +kernel
theorem dX4_count_127 : decode cX4_count 127 = .ok (.ireturn, 1) := by decide +kernel
theorem dX4_undo_0 : decode cX4_undo 0 = .ok (.aload_n 0, 1) := by decide +kernel
theorem dX4_undo_1 : decode cX4_undo 1 = .ok (.getfield 41, 3) := by decide +kernel
theorem dX4_undo_4 : decode cX4_undo 4 = .ok (.ifCond .ne 6, 3) := by decide +kernel
theorem dX4_undo_7 : decode cX4_undo 7 = .ok (.ldc 60, 2) := by decide +kernel
theorem dX4_undo_9 : decode cX4_undo 9 = .ok (.ireturn, 1) := by decide +kernel
theorem dX4_undo_10 : decode cX4_undo 10 = .ok (.aload_n 0, 1) := by decide +kernel
theorem dX4_undo_11 : decode cX4_undo 11 = .ok (.dup, 1) := by decide +kernel
theorem dX4_undo_12 : decode cX4_undo 12 = .ok (.getfield 41, 3) := by decide +kernel
theorem dX4_undo_15 : decode cX4_undo 15 = .ok (.iconst 1, 1) := by decide +kernel
theorem dX4_undo_16 : decode cX4_undo 16 = .ok (.isub, 1) := by decide +kernel
theorem dX4_undo_17 : decode cX4_undo 17 = .ok (.putfield 41, 3) := by decide +kernel
theorem dX4_undo_20 : decode cX4_undo 20 = .ok (.iconst 0, 1) := by decide +kernel
theorem dX4_undo_21 : decode cX4_undo 21 = .ok (.istore_n 1, 1) := by decide +kernel
theorem dX4_undo_22 : decode cX4_undo 22 = .ok (.iload_n 1, 1) := by decide +kernel
theorem dX4_undo_23 : decode cX4_undo 23 = .ok (.sipush 813, 3) := by decide +kernel
theorem dX4_undo_26 : decode cX4_undo 26 = .ok (.if_icmp .ge 30, 3) := by decide +kernel
theorem dX4_undo_29 : decode cX4_undo 29 = .ok (.aload_n 0, 1) := by decide +kernel
theorem dX4_undo_30 : decode cX4_undo 30 = .ok (.getfield 7, 3) := by decide +kernel
theorem dX4_undo_33 : decode cX4_undo 33 = .ok (.iload_n 1, 1) := by decide +kernel
theorem dX4_undo_34 : decode cX4_undo 34 = .ok (.aload_n 0, 1) := by decide +kernel
theorem dX4_undo_35 : decode cX4_undo 35 = .ok (.getfield 13, 3) := by decide +kernel
theorem dX4_undo_38 : decode cX4_undo 38 = .ok (.sipush 813, 3) := by decide +kernel
theorem dX4_undo_41 : decode cX4_undo 41 = .ok (.aload_n 0, 1) := by decide +kernel
theorem dX4_undo_42 : decode cX4_undo 42 = .ok (.getfield 41, 3) := by decide +kernel
theorem dX4_undo_45 : decode cX4_undo 45 = .ok (.imul, 1) := by decide +kernel
theorem dX4_undo_46 : decode cX4_undo 46 = .ok (.iload_n 1, 1) := by decide +kernel
theorem dX4_undo_47 : decode cX4_undo 47 = .ok (.iadd, 1) := by decide +kernel
theorem dX4_undo_48 : decode cX4_undo 48 = .ok (.iaload, 1) := by decide +kernel
theorem dX4_undo_49 : decode cX4_undo 49 = .ok (.iastore, 1) := by decide +kernel
theorem dX4_undo_50 : decode cX4_undo 50 = .ok (.iinc 1 1, 3) := by decide +kernel
theorem dX4_undo_53 : decode cX4_undo 53 = .ok (.goto (-31), 3) := by decide +kernel
theorem dX4_undo_56 : decode cX4_undo 56 = .ok (.aload_n 0, 1) := by decide +kernel
theorem dX4_undo_57 : decode cX4_undo 57 = .ok (.getfield 41, 3) := by decide +kernel
theorem dX4_undo_60 : decode cX4_undo 60 = .ok (.ireturn, 1) := by decide +kernel
theorem dX4_type_0 : decode cX4_type 0 = .ok (.iload_n 1, 1) := by decide +kernel
theorem dX4_type_1 : decode cX4_type 1 = .ok (.bipush 32, 2) := by decide +kernel
theorem dX4_type_3 : decode cX4_type 3 = .ok (.bipush 126, 2) := by decide +kernel
theorem dX4_type_5 : decode cX4_type 5 = .ok (.invokestatic 33, 3) := by decide +kernel
theorem dX4_type_8 : decode cX4_type 8 = .ok (.ifCond .ne 6, 3) := by decide +kernel
theorem dX4_type_11 : decode cX4_type 11 = .ok (.ldc 40, 2) := by decide +kernel
theorem dX4_type_13 : decode cX4_type 13 = .ok (.ireturn, 1) := by decide +kernel
theorem dX4_type_14 : decode cX4_type 14 = .ok (.aload_n 0, 1) := by decide +kernel
theorem dX4_type_15 : decode cX4_type 15 = .ok (.getfield 154, 3) := by decide +kernel
theorem dX4_type_18 : decode cX4_type 18 = .ok (.bipush 60, 2) := by decide +kernel
theorem dX4_type_20 : decode cX4_type 20 = .ok (.if_icmp .ne 6, 3) := by decide +kernel
theorem dX4_type_23 : decode cX4_type 23 = .ok (.ldc 45, 2) := by decide +kernel
theorem dX4_type_25 : decode cX4_type 25 = .ok (.ireturn, 1) := by decide +kernel
theorem dX4_type_26 : decode cX4_type 26 = .ok (.aload_n 0, 1) := by decide +kernel
theorem dX4_type_27 : decode cX4_type 27 = .ok (.getfield 22, 3) := by decide +kernel
theorem dX4_type_30 : decode cX4_type 30 = .ok (.aload_n 0, 1) := by decide +kernel
theorem dX4_type_31 : decode cX4_type 31 = .ok (.getfield 154, 3) := by decide +kernel
theorem dX4_type_34 : decode cX4_type 34 = .ok (.iload_n 1, 1) := by decide +kernel
theorem dX4_type_35 : decode cX4_type 35 = .ok (.i2c, 1) := by decide +kernel
theorem dX4_type_36 : decode cX4_type 36 = .ok (.castore, 1) := by decide +kernel
theorem dX4_type_37 : decode cX4_type 37 = .ok (.aload_n 0, 1) := by decide +kernel
theorem dX4_type_38 : decode cX4_type 38 = .ok (.dup, 1) := by decide +kernel
theorem dX4_type_39 : decode cX4_type 39 = .ok (.getfield 154, 3) := by decide +kernel
theorem dX4_type_42 : decode cX4_type 42 = .ok (.iconst 1, 1) := by decide +kernel
theorem dX4_type_43 : decode cX4_type 43 = .ok (.iadd, 1) := by decide +kernel
theorem dX4_type_44 : decode cX4_type 44 = .ok (.putfield 154, 3) := by decide +kernel
theorem dX4_type_47 : decode cX4_type 47 = .ok (.aload_n 0, 1) := by decide +kernel
theorem dX4_type_48 : decode cX4_type 48 = .ok (.getfield 154, 3) := by decide +kernel
theorem dX4_type_51 : decode cX4_type 51 = .ok (.ireturn, 1) := by decide +kernel
theorem dX4_clearText_0 : decode cX4_clearText 0 = .ok (.aload_n 0, 1) := by decide +kernel
theorem dX4_clearText_1 : decode cX4_clearText 1 = .ok (.getfield 154, 3) := by decide +kernel
theorem dX4_clearText_4 : decode cX4_clearText 4 = .ok (.istore_n 1, 1) := by decide +kernel
theorem dX4_clearText_5 : decode cX4_clearText 5 = .ok (.aload_n 0, 1) := by decide +kernel
theorem dX4_clearText_6 : decode cX4_clearText 6 = .ok (.iconst 0, 1) := by decide +kernel
theorem dX4_clearText_7 : decode cX4_clearText 7 = .ok (.putfield 154, 3) := by decide +kernel
theorem dX4_clearText_10 : decode cX4_clearText 10 = .ok (.iload_n 1, 1) := by decide +kernel
theorem dX4_clearText_11 : decode cX4_clearText 11 = .ok (.ireturn, 1) := by decide +kernel
theorem dX4_has_0 : decode cX4_has 0 = .ok (.aload_n 0, 1) := by decide +kernel
theorem dX4_has_1 : decode cX4_has 1 = .ok (.getfield 157, 3) := by decide +kernel
theorem dX4_has_4 : decode cX4_has 4 = .ok (.aload_n 0, 1) := by decide +kernel
theorem dX4_has_5 : decode cX4_has 5 = .ok (.getfield 154, 3) := by decide +kernel
theorem dX4_has_8 : decode cX4_has 8 = .ok (.if_icmp .ge 20, 3) := by decide +kernel
theorem dX4_has_11 : decode cX4_has 11 = .ok (.aload_n 0, 1) := by decide +kernel
theorem dX4_has_12 : decode cX4_has 12 = .ok (.getfield 22, 3) := by decide +kernel
theorem dX4_has_15 : decode cX4_has 15 = .ok (.aload_n 0, 1) := by decide +kernel
theorem dX4_has_16 : decode cX4_has 16 = .ok (.getfield 157, 3) := by decide +kernel
theorem dX4_has_19 : decode cX4_has 19 = .ok (.caload, 1) := by decide +kernel
theorem dX4_has_20 : decode cX4_has 20 = .ok (.iload_n 1, 1) := by decide +kernel
theorem dX4_has_21 : decode cX4_has 21 = .ok (.if_icmp .ne 7, 3) := by decide +kernel
theorem dX4_has_24 : decode cX4_has 24 = .ok (.iconst 1, 1) := by decide +kernel
theorem dX4_has_25 : decode cX4_has 25 = .ok (.goto 4, 3) := by decide +kernel
theorem dX4_has_28 : decode cX4_has 28 = .ok (.iconst 0, 1) := by decide +kernel
theorem dX4_has_29 : decode cX4_has 29 = .ok (.istore_n 2, 1) := by decide +kernel
theorem dX4_has_30 : decode cX4_has 30 = .ok (.aload_n 0, 1) := by decide +kernel
theorem dX4_has_31 : decode cX4_has 31 = .ok (.dup, 1) := by decide +kernel
theorem dX4_has_32 : decode cX4_has 32 = .ok (.getfield 157, 3) := by decide +kernel
theorem dX4_has_35 : decode cX4_has 35 = .ok (.iload_n 2, 1) := by decide +kernel
theorem dX4_has_36 : decode cX4_has 36 = .ok (.ifCond .eq 7, 3) := by decide +kernel
theorem dX4_has_39 : decode cX4_has 39 = .ok (.iconst 1, 1) := by decide +kernel
theorem dX4_has_40 : decode cX4_has 40 = .ok (.goto 4, 3) := by decide +kernel
theorem dX4_has_43 : decode cX4_has 43 = .ok (.iconst 0, 1) := by decide +kernel
theorem dX4_has_44 : decode cX4_has 44 = .ok (.iadd, 1) := by decide +kernel
theorem dX4_has_45 : decode cX4_has 45 = .ok (.putfield 157, 3) := by decide +kernel
theorem dX4_has_48 : decode cX4_has 48 = .ok (.iload_n 2, 1) := by decide +kernel
theorem dX4_has_49 : decode cX4_has 49 = .ok (.ireturn, 1) := by decide +kernel
theorem dX4_number_0 : decode cX4_number 0 = .ok (.aload_n 0, 1) := by decide +kernel
theorem dX4_number_1 : decode cX4_number 1 = .ok (.getfield 157, 3) := by decide +kernel
theorem dX4_number_4 : decode cX4_number 4 = .ok (.istore_n 2, 1) := by decide +kernel
theorem dX4_number_5 : decode cX4_number 5 = .ok (.aload_n 0, 1) := by decide +kernel
theorem dX4_number_6 : decode cX4_number 6 = .ok (.getfield 26, 3) := by decide +kernel
theorem dX4_number_9 : decode cX4_number 9 = .ok (.iload_n 1, 1) := by decide +kernel
theorem dX4_number_10 : decode cX4_number 10 = .ok (.iconst 0, 1) := by decide +kernel
theorem dX4_number_11 : decode cX4_number 11 = .ok (.iastore, 1) := by decide +kernel
theorem dX4_number_12 : decode cX4_number 12 = .ok (.aload_n 0, 1) := by decide +kernel
theorem dX4_number_13 : decode cX4_number 13 = .ok (.getfield 157, 3) := by decide +kernel
theorem dX4_number_16 : decode cX4_number 16 = .ok (.aload_n 0, 1) := by decide +kernel
theorem dX4_number_17 : decode cX4_number 17 = .ok (.getfield 154, 3) := by decide +kernel
theorem dX4_number_20 : decode cX4_number 20 = .ok (.if_icmp .ge 73, 3) := by decide +kernel
theorem dX4_number_23 : decode cX4_number 23 = .ok (.aload_n 0, 1) := by decide +kernel
theorem dX4_number_24 : decode cX4_number 24 = .ok (.getfield 157, 3) := by decide +kernel
theorem dX4_number_27 : decode cX4_number 27 = .ok (.iload_n 2, 1) := by decide +kernel
theorem dX4_number_28 : decode cX4_number 28 = .ok (.iconst 2, 1) := by decide +kernel
theorem dX4_number_29 : decode cX4_number 29 = .ok (.iadd, 1) := by decide +kernel
theorem dX4_number_30 : decode cX4_number 30 = .ok (.if_icmp .ge 63, 3) := by decide +kernel
theorem dX4_number_33 : decode cX4_number 33 = .ok (.aload_n 0, 1) := by decide +kernel
theorem dX4_number_34 : decode cX4_number 34 = .ok (.getfield 22, 3) := by decide +kernel
theorem dX4_number_37 : decode cX4_number 37 = .ok (.aload_n 0, 1) := by decide +kernel
theorem dX4_number_38 : decode cX4_number 38 = .ok (.getfield 157, 3) := by decide +kernel
theorem dX4_number_41 : decode cX4_number 41 = .ok (.caload, 1) := by decide +kernel
theorem dX4_number_42 : decode cX4_number 42 = .ok (.bipush 48, 2) := by decide +kernel
theorem dX4_number_44 : decode cX4_number 44 = .ok (.bipush 57, 2) := by decide +kernel
theorem dX4_number_46 : decode cX4_number 46 = .ok (.invokestatic 33, 3) := by decide +kernel
theorem dX4_number_49 : decode cX4_number 49 = .ok (.ifCond .eq 44, 3) := by decide +kernel
theorem dX4_number_52 : decode cX4_number 52 = .ok (.aload_n 0, 1) := by decide +kernel
theorem dX4_number_53 : decode cX4_number 53 = .ok (.getfield 26, 3) := by decide +kernel
theorem dX4_number_56 : decode cX4_number 56 = .ok (.iload_n 1, 1) := by decide +kernel
theorem dX4_number_57 : decode cX4_number 57 = .ok (.bipush 10, 2) := by decide +kernel
theorem dX4_number_59 : decode cX4_number 59 = .ok (.aload_n 0, 1) := by decide +kernel
theorem dX4_number_60 : decode cX4_number 60 = .ok (.getfield 26, 3) := by decide +kernel
theorem dX4_number_63 : decode cX4_number 63 = .ok (.iload_n 1, 1) := by decide +kernel
theorem dX4_number_64 : decode cX4_number 64 = .ok (.iaload, 1) := by decide +kernel
theorem dX4_number_65 : decode cX4_number 65 = .ok (.imul, 1) := by decide +kernel
theorem dX4_number_66 : decode cX4_number 66 = .ok (.aload_n 0, 1) := by decide +kernel
theorem dX4_number_67 : decode cX4_number 67 = .ok (.getfield 22, 3) := by decide +kernel
theorem dX4_number_70 : decode cX4_number 70 = .ok (.aload_n 0, 1) := by decide +kernel
theorem dX4_number_71 : decode cX4_number 71 = .ok (.getfield 157, 3) := by decide +kernel
theorem dX4_number_74 : decode cX4_number 74 = .ok (.caload, 1) := by decide +kernel
theorem dX4_number_75 : decode cX4_number 75 = .ok (.iadd, 1) := by decide +kernel
theorem dX4_number_76 : decode cX4_number 76 = .ok (.bipush 48, 2) := by decide +kernel
theorem dX4_number_78 : decode cX4_number 78 = .ok (.isub, 1) := by decide +kernel
theorem dX4_number_79 : decode cX4_number 79 = .ok (.iastore, 1) := by decide +kernel
theorem dX4_number_80 : decode cX4_number 80 = .ok (.aload_n 0, 1) := by decide +kernel
theorem dX4_number_81 : decode cX4_number 81 = .ok (.dup, 1) := by decide +kernel
theorem dX4_number_82 : decode cX4_number 82 = .ok (.getfield 157, 3) := by decide +kernel
theorem dX4_number_85 : decode cX4_number 85 = .ok (.iconst 1, 1) := by decide +kernel
theorem dX4_number_86 : decode cX4_number 86 = .ok (.iadd, 1) := by decide +kernel
theorem dX4_number_87 : decode cX4_number 87 = .ok (.putfield 157, 3) := by decide +kernel
theorem dX4_number_90 : decode cX4_number 90 = .ok (.goto (-78), 3) := by decide +kernel
theorem dX4_number_93 : decode cX4_number 93 = .ok (.aload_n 0, 1) := by decide +kernel
theorem dX4_number_94 : decode cX4_number 94 = .ok (.getfield 157, 3) := by decide +kernel
theorem dX4_number_97 : decode cX4_number 97 = .ok (.iload_n 2, 1) := by decide +kernel
theorem dX4_number_98 : decode cX4_number 98 = .ok (.if_icmp .le 7, 3) := by decide +kernel
theorem dX4_number_101 : decode cX4_number 101 = .ok (.iconst 1, 1) := by decide +kernel
theorem dX4_number_102 : decode cX4_number 102 = .ok (.goto 4, 3) := by decide +kernel
theorem dX4_number_105 : decode cX4_number 105 = .ok (.iconst 0, 1) := by decide +kernel
theorem dX4_number_106 : decode cX4_number 106 = .ok (.ireturn, 1) := by decide +kernel
theorem dX4_readsForm_0 : decode cX4_readsForm 0 = .ok (.iload_n 1, 1) := by decide +kernel
theorem dX4_readsForm_1 : decode cX4_readsForm 1 = .ok (.bipush 116, 2) := by decide +kernel
theorem dX4_readsForm_3 : decode cX4_readsForm 3 = .ok (.if_icmp .ne 7, 3) := by decide +kernel
theorem dX4_readsForm_6 : decode cX4_readsForm 6 = .ok (.iconst 3, 1) := by decide +kernel
theorem dX4_readsForm_7 : decode cX4_readsForm 7 = .ok (.goto 42, 3) := by decide +kernel
theorem dX4_readsForm_10 : decode cX4_readsForm 10 = .ok (.iload_n 1, 1) := by decide +kernel
theorem dX4_readsForm_11 : decode cX4_readsForm 11 = .ok (.bipush 98, 2) := by decide +kernel
theorem dX4_readsForm_13 : decode cX4_readsForm 13 = .ok (.if_icmp .eq 9, 3) := by decide +kernel
theorem dX4_readsForm_16 : decode cX4_readsForm 16 = .ok (.iload_n 1, 1) := by decide +kernel
theorem dX4_readsForm_17 : decode cX4_readsForm 17 = .ok (.bipush 109, 2) := by decide +kernel
theorem dX4_readsForm_19 : decode cX4_readsForm 19 = .ok (.if_icmp .ne 7, 3) := by decide +kernel
theorem dX4_readsForm_22 : decode cX4_readsForm 22 = .ok (.iconst 2, 1) := by decide +kernel
theorem dX4_readsForm_23 : decode cX4_readsForm 23 = .ok (.goto 26, 3) := by decide +kernel
theorem dX4_readsForm_26 : decode cX4_readsForm 26 = .ok (.iload_n 1, 1) := by decide +kernel
theorem dX4_readsForm_27 : decode cX4_readsForm 27 = .ok (.bipush 115, 2) := by decide +kernel
theorem dX4_readsForm_29 : decode cX4_readsForm 29 = .ok (.if_icmp .eq 15, 3) := by decide +kernel
theorem dX4_readsForm_32 : decode cX4_readsForm 32 = .ok (.iload_n 1, 1) := by decide +kernel
theorem dX4_readsForm_33 : decode cX4_readsForm 33 = .ok (.bipush 119, 2) := by decide +kernel
theorem dX4_readsForm_35 : decode cX4_readsForm 35 = .ok (.if_icmp .eq 9, 3) := by decide +kernel
theorem dX4_readsForm_38 : decode cX4_readsForm 38 = .ok (.iload_n 1, 1) := by decide +kernel
theorem dX4_readsForm_39 : decode cX4_readsForm 39 = .ok (.bipush 110, 2) := by decide +kernel
theorem dX4_readsForm_41 : decode cX4_readsForm 41 = .ok (.if_icmp .ne 7, 3) := by decide +kernel
theorem dX4_readsForm_44 : decode cX4_readsForm 44 = .ok (.iconst 1, 1) := by decide +kernel
theorem dX4_readsForm_45 : decode cX4_readsForm 45 = .ok (.goto 4, 3) := by decide +kernel
theorem dX4_readsForm_48 : decode cX4_readsForm 48 = .ok (.iconst 0, 1) := by decide +kernel
theorem dX4_readsForm_49 : decode cX4_readsForm 49 = .ok (.istore_n 2, 1) := by decide +kernel
theorem dX4_readsForm_50 : decode cX4_readsForm 50 = .ok (.iload_n 2, 1) := by decide +kernel
theorem dX4_readsForm_51 : decode cX4_readsForm 51 = .ok (.ifCond .le 15, 3) := by decide +kernel
theorem dX4_readsForm_54 : decode cX4_readsForm 54 = .ok (.aload_n 0, 1) := by decide +kernel
theorem dX4_readsForm_55 : decode cX4_readsForm 55 = .ok (.iconst 0, 1) := by decide +kernel
theorem dX4_readsForm_56 : decode cX4_readsForm 56 = .ok (.invokevirtual 160, 3) := by decide +kernel
theorem dX4_readsForm_59 : decode cX4_readsForm 59 = .ok (.ifCond .eq 7, 3) := by decide +kernel
theorem dX4_readsForm_62 : decode cX4_readsForm 62 = .ok (.iconst 1, 1) := by decide +kernel
theorem dX4_readsForm_63 : decode cX4_readsForm 63 = .ok (.goto 4, 3) := by decide +kernel
theorem dX4_readsForm_66 : decode cX4_readsForm 66 = .ok (.iconst 0, 1) := by decide +kernel
theorem dX4_readsForm_67 : decode cX4_readsForm 67 = .ok (.istore_n 3, 1) := by decide +kernel
theorem dX4_readsForm_68 : decode cX4_readsForm 68 = .ok (.iconst 1, 1) := by decide +kernel
theorem dX4_readsForm_69 : decode cX4_readsForm 69 = .ok (.istore 4, 2) := by decide +kernel
theorem dX4_readsForm_71 : decode cX4_readsForm 71 = .ok (.iload 4, 2) := by decide +kernel
theorem dX4_readsForm_73 : decode cX4_readsForm 73 = .ok (.iload_n 2, 1) := by decide +kernel
theorem dX4_readsForm_74 : decode cX4_readsForm 74 = .ok (.if_icmp .ge 37, 3) := by decide +kernel
theorem dX4_readsForm_77 : decode cX4_readsForm 77 = .ok (.iload_n 3, 1) := by decide +kernel
theorem dX4_readsForm_78 : decode cX4_readsForm 78 = .ok (.ifCond .eq 33, 3) := by decide +kernel
theorem dX4_readsForm_81 : decode cX4_readsForm 81 = .ok (.aload_n 0, 1) := by decide +kernel
theorem dX4_readsForm_82 : decode cX4_readsForm 82 = .ok (.bipush 44, 2) := by decide +kernel
theorem dX4_readsForm_84 : decode cX4_readsForm 84 = .ok (.invokevirtual 163, 3) := by decide +kernel
theorem dX4_readsForm_87 : decode cX4_readsForm 87 = .ok (.ifCond .eq 16, 3) := by decide +kernel
theorem dX4_readsForm_90 : decode cX4_readsForm 90 = .ok (.aload_n 0, 1) := by decide +kernel
theorem dX4_readsForm_91 : decode cX4_readsForm 91 = .ok (.iload 4, 2) := by decide +kernel
theorem dX4_readsForm_93 : decode cX4_readsForm 93 = .ok (.invokevirtual 160, 3) := by decide +kernel
theorem dX4_readsForm_96 : decode cX4_readsForm 96 = .ok (.ifCond .eq 7, 3) := by decide +kernel
theorem dX4_readsForm_99 : decode cX4_readsForm 99 = .ok (.iconst 1, 1) := by decide +kernel
theorem dX4_readsForm_100 : decode cX4_readsForm 100 = .ok (.goto 4, 3) := by decide +kernel
theorem dX4_readsForm_103 : decode cX4_readsForm 103 = .ok (.iconst 0, 1) := by decide +kernel
theorem dX4_readsForm_104 : decode cX4_readsForm 104 = .ok (.istore_n 3, 1) := by decide +kernel
theorem dX4_readsForm_105 : decode cX4_readsForm 105 = .ok (.iinc 4 1, 3) := by decide +kernel
theorem dX4_readsForm_108 : decode cX4_readsForm 108 = .ok (.goto (-37), 3) := by decide +kernel
theorem dX4_readsForm_111 : decode cX4_readsForm 111 = .ok (.iload_n 3, 1) := by decide +kernel
theorem dX4_readsForm_112 : decode cX4_readsForm 112 = .ok (.ifCond .eq 16, 3) := by decide +kernel
theorem dX4_readsForm_115 : decode cX4_readsForm 115 = .ok (.aload_n 0, 1) := by decide +kernel
theorem dX4_readsForm_116 : decode cX4_readsForm 116 = .ok (.bipush 59, 2) := by decide +kernel
theorem dX4_readsForm_118 : decode cX4_readsForm 118 = .ok (.invokevirtual 163, 3) := by decide +kernel
theorem dX4_readsForm_121 : decode cX4_readsForm 121 = .ok (.ifCond .eq 7, 3) := by decide +kernel
theorem dX4_readsForm_124 : decode cX4_readsForm 124 = .ok (.iconst 1, 1) := by decide +kernel
theorem dX4_readsForm_125 : decode cX4_readsForm 125 = .ok (.goto 4, 3) := by decide +kernel
theorem dX4_readsForm_128 : decode cX4_readsForm 128 = .ok (.iconst 0, 1) := by decide +kernel
theorem dX4_readsForm_129 : decode cX4_readsForm 129 = .ok (.ireturn, 1) := by decide +kernel
theorem dX4_isThere_0 : decode cX4_isThere 0 = .ok (.iload_n 1, 1) := by decide +kernel
theorem dX4_isThere_1 : decode cX4_isThere 1 = .ok (.bipush 110, 2) := by decide +kernel
theorem dX4_isThere_3 : decode cX4_isThere 3 = .ok (.if_icmp .eq 16, 3) := by decide +kernel
theorem dX4_isThere_6 : decode cX4_isThere 6 = .ok (.aload_n 0, 1) := by decide +kernel
theorem dX4_isThere_7 : decode cX4_isThere 7 = .ok (.aload_n 0, 1) := by decide +kernel
theorem dX4_isThere_8 : decode cX4_isThere 8 = .ok (.getfield 26, 3) := by decide +kernel
theorem dX4_isThere_11 : decode cX4_isThere 11 = .ok (.iconst 0, 1) := by decide +kernel
theorem dX4_isThere_12 : decode cX4_isThere 12 = .ok (.iaload, 1) := by decide +kernel
theorem dX4_isThere_13 : decode cX4_isThere 13 = .ok (.invokevirtual 53, 3) := by decide +kernel
theorem dX4_isThere_16 : decode cX4_isThere 16 = .ok (.ifCond .eq 7, 3) := by decide +kernel
theorem dX4_isThere_19 : decode cX4_isThere 19 = .ok (.iconst 1, 1) := by decide +kernel
theorem dX4_isThere_20 : decode cX4_isThere 20 = .ok (.goto 4, 3) := by decide +kernel
theorem dX4_isThere_23 : decode cX4_isThere 23 = .ok (.iconst 0, 1) := by decide +kernel
theorem dX4_isThere_24 : decode cX4_isThere 24 = .ok (.istore_n 2, 1) := by decide +kernel
theorem dX4_isThere_25 : decode cX4_isThere 25 = .ok (.iload_n 1, 1) := by decide +kernel
theorem dX4_isThere_26 : decode cX4_isThere 26 = .ok (.bipush 109, 2) := by decide +kernel
theorem dX4_isThere_28 : decode cX4_isThere 28 = .ok (.if_icmp .ne 16, 3) := by decide +kernel
theorem dX4_isThere_31 : decode cX4_isThere 31 = .ok (.aload_n 0, 1) := by decide +kernel
theorem dX4_isThere_32 : decode cX4_isThere 32 = .ok (.aload_n 0, 1) := by decide +kernel
theorem dX4_isThere_33 : decode cX4_isThere 33 = .ok (.getfield 26, 3) := by decide +kernel
theorem dX4_isThere_36 : decode cX4_isThere 36 = .ok (.iconst 1, 1) := by decide +kernel
theorem dX4_isThere_37 : decode cX4_isThere 37 = .ok (.iaload, 1) := by decide +kernel
theorem dX4_isThere_38 : decode cX4_isThere 38 = .ok (.invokevirtual 53, 3) := by decide +kernel
theorem dX4_isThere_41 : decode cX4_isThere 41 = .ok (.goto 32, 3) := by decide +kernel
theorem dX4_isThere_44 : decode cX4_isThere 44 = .ok (.iload_n 1, 1) := by decide +kernel
theorem dX4_isThere_45 : decode cX4_isThere 45 = .ok (.bipush 116, 2) := by decide +kernel
theorem dX4_isThere_47 : decode cX4_isThere 47 = .ok (.if_icmp .eq 9, 3) := by decide +kernel
theorem dX4_isThere_50 : decode cX4_isThere 50 = .ok (.iload_n 1, 1) := by decide +kernel
theorem dX4_isThere_51 : decode cX4_isThere 51 = .ok (.bipush 98, 2) := by decide +kernel
theorem dX4_isThere_53 : decode cX4_isThere 53 = .ok (.if_icmp .ne 15, 3) := by decide +kernel
theorem dX4_isThere_56 : decode cX4_isThere 56 = .ok (.aload_n 0, 1) := by decide +kernel
theorem dX4_isThere_57 : decode cX4_isThere 57 = .ok (.getfield 26, 3) := by decide +kernel
theorem dX4_isThere_60 : decode cX4_isThere 60 = .ok (.iconst 1, 1) := by decide +kernel
theorem dX4_isThere_61 : decode cX4_isThere 61 = .ok (.iaload, 1) := by decide +kernel
theorem dX4_isThere_62 : decode cX4_isThere 62 = .ok (.invokestatic 88, 3) := by decide +kernel
theorem dX4_isThere_65 : decode cX4_isThere 65 = .ok (.ifCond .eq 7, 3) := by decide +kernel
theorem dX4_isThere_68 : decode cX4_isThere 68 = .ok (.iconst 1, 1) := by decide +kernel
theorem dX4_isThere_69 : decode cX4_isThere 69 = .ok (.goto 4, 3) := by decide +kernel
theorem dX4_isThere_72 : decode cX4_isThere 72 = .ok (.iconst 0, 1) := by decide +kernel
theorem dX4_isThere_73 : decode cX4_isThere 73 = .ok (.istore_n 3, 1) := by decide +kernel
theorem dX4_isThere_74 : decode cX4_isThere 74 = .ok (.iload_n 2, 1) := by decide +kernel
theorem dX4_isThere_75 : decode cX4_isThere 75 = .ok (.ifCond .eq 11, 3) := by decide +kernel
theorem dX4_isThere_78 : decode cX4_isThere 78 = .ok (.iload_n 3, 1) := by decide +kernel
theorem dX4_isThere_79 : decode cX4_isThere 79 = .ok (.ifCond .eq 7, 3) := by decide +kernel
theorem dX4_isThere_82 : decode cX4_isThere 82 = .ok (.iconst 1, 1) := by decide +kernel
theorem dX4_isThere_83 : decode cX4_isThere 83 = .ok (.goto 4, 3) := by decide +kernel
theorem dX4_isThere_86 : decode cX4_isThere 86 = .ok (.iconst 0, 1) := by decide +kernel
theorem dX4_isThere_87 : decode cX4_isThere 87 = .ok (.ireturn, 1) := by decide +kernel
theorem dX4_does_0 : decode cX4_does 0 = .ok (.iload_n 1, 1) := by decide +kernel
theorem dX4_does_1 : decode cX4_does 1 = .ok (.lookupswitch 131 #[(98, 75), (109, 92), (115, 109), (116, 51), (119, 120)], 51) := by decide +kernel
theorem dX4_does_52 : decode cX4_does 52 = .ok (.aload_n 0, 1) := by decide +kernel
theorem dX4_does_53 : decode cX4_does 53 = .ok (.aload_n 0, 1) := by decide +kernel
theorem dX4_does_54 : decode cX4_does 54 = .ok (.getfield 26, 3) := by decide +kernel
theorem dX4_does_57 : decode cX4_does 57 = .ok (.iconst 0, 1) := by decide +kernel
theorem dX4_does_58 : decode cX4_does 58 = .ok (.iaload, 1) := by decide +kernel
theorem dX4_does_59 : decode cX4_does 59 = .ok (.aload_n 0, 1) := by decide +kernel
theorem dX4_does_60 : decode cX4_does 60 = .ok (.getfield 26, 3) := by decide +kernel
theorem dX4_does_63 : decode cX4_does 63 = .ok (.iconst 1, 1) := by decide +kernel
theorem dX4_does_64 : decode cX4_does 64 = .ok (.iaload, 1) := by decide +kernel
theorem dX4_does_65 : decode cX4_does 65 = .ok (.aload_n 0, 1) := by decide +kernel
theorem dX4_does_66 : decode cX4_does 66 = .ok (.getfield 26, 3) := by decide +kernel
theorem dX4_does_69 : decode cX4_does 69 = .ok (.iconst 2, 1) := by decide +kernel
theorem dX4_does_70 : decode cX4_does 70 = .ok (.iaload, 1) := by decide +kernel
theorem dX4_does_71 : decode cX4_does 71 = .ok (.iconst 0, 1) := by decide +kernel
theorem dX4_does_72 : decode cX4_does 72 = .ok (.invokevirtual 95, 3) := by decide +kernel
theorem dX4_does_75 : decode cX4_does 75 = .ok (.ireturn, 1) := by decide +kernel
theorem dX4_does_76 : decode cX4_does 76 = .ok (.aload_n 0, 1) := by decide +kernel
theorem dX4_does_77 : decode cX4_does 77 = .ok (.aload_n 0, 1) := by decide +kernel
theorem dX4_does_78 : decode cX4_does 78 = .ok (.getfield 26, 3) := by decide +kernel
theorem dX4_does_81 : decode cX4_does 81 = .ok (.iconst 0, 1) := by decide +kernel
theorem dX4_does_82 : decode cX4_does 82 = .ok (.iaload, 1) := by decide +kernel
theorem dX4_does_83 : decode cX4_does 83 = .ok (.aload_n 0, 1) := by decide +kernel
theorem dX4_does_84 : decode cX4_does 84 = .ok (.getfield 26, 3) := by decide +kernel
theorem dX4_does_87 : decode cX4_does 87 = .ok (.iconst 1, 1) := by decide +kernel
theorem dX4_does_88 : decode cX4_does 88 = .ok (.iaload, 1) := by decide +kernel
theorem dX4_does_89 : decode cX4_does 89 = .ok (.invokevirtual 99, 3) := by decide +kernel
theorem dX4_does_92 : decode cX4_does 92 = .ok (.ireturn, 1) := by decide +kernel
theorem dX4_does_93 : decode cX4_does 93 = .ok (.aload_n 0, 1) := by decide +kernel
theorem dX4_does_94 : decode cX4_does 94 = .ok (.aload_n 0, 1) := by decide +kernel
theorem dX4_does_95 : decode cX4_does 95 = .ok (.getfield 26, 3) := by decide +kernel
theorem dX4_does_98 : decode cX4_does 98 = .ok (.iconst 0, 1) := by decide +kernel
theorem dX4_does_99 : decode cX4_does 99 = .ok (.iaload, 1) := by decide +kernel
theorem dX4_does_100 : decode cX4_does 100 = .ok (.aload_n 0, 1) := by decide +kernel
theorem dX4_does_101 : decode cX4_does 101 = .ok (.getfield 26, 3) := by decide +kernel
theorem dX4_does_104 : decode cX4_does 104 = .ok (.iconst 1, 1) := by decide +kernel
theorem dX4_does_105 : decode cX4_does 105 = .ok (.iaload, 1) := by decide +kernel
theorem dX4_does_106 : decode cX4_does 106 = .ok (.invokevirtual 117, 3) := by decide +kernel
theorem dX4_does_109 : decode cX4_does 109 = .ok (.ireturn, 1) := by decide +kernel
theorem dX4_does_110 : decode cX4_does 110 = .ok (.aload_n 0, 1) := by decide +kernel
theorem dX4_does_111 : decode cX4_does 111 = .ok (.aload_n 0, 1) := by decide +kernel
theorem dX4_does_112 : decode cX4_does 112 = .ok (.getfield 26, 3) := by decide +kernel
theorem dX4_does_115 : decode cX4_does 115 = .ok (.iconst 0, 1) := by decide +kernel
theorem dX4_does_116 : decode cX4_does 116 = .ok (.iaload, 1) := by decide +kernel
theorem dX4_does_117 : decode cX4_does 117 = .ok (.invokevirtual 64, 3) := by decide +kernel
theorem dX4_does_120 : decode cX4_does 120 = .ok (.ireturn, 1) := by decide +kernel
theorem dX4_does_121 : decode cX4_does 121 = .ok (.aload_n 0, 1) := by decide +kernel
theorem dX4_does_122 : decode cX4_does 122 = .ok (.aload_n 0, 1) := by decide +kernel
theorem dX4_does_123 : decode cX4_does 123 = .ok (.getfield 26, 3) := by decide +kernel
theorem dX4_does_126 : decode cX4_does 126 = .ok (.iconst 0, 1) := by decide +kernel
theorem dX4_does_127 : decode cX4_does 127 = .ok (.iaload, 1) := by decide +kernel
theorem dX4_does_128 : decode cX4_does 128 = .ok (.invokevirtual 67, 3) := by decide +kernel
theorem dX4_does_131 : decode cX4_does 131 = .ok (.ireturn, 1) := by decide +kernel
theorem dX4_does_132 : decode cX4_does 132 = .ok (.aload_n 0, 1) := by decide +kernel
theorem dX4_does_133 : decode cX4_does 133 = .ok (.aload_n 0, 1) := by decide +kernel
theorem dX4_does_134 : decode cX4_does 134 = .ok (.getfield 26, 3) := by decide +kernel
theorem dX4_does_137 : decode cX4_does 137 = .ok (.iconst 0, 1) := by decide +kernel
theorem dX4_does_138 : decode cX4_does 138 = .ok (.iaload, 1) := by decide +kernel
theorem dX4_does_139 : decode cX4_does 139 = .ok (.invokevirtual 132, 3) := by decide +kernel
theorem dX4_does_142 : decode cX4_does 142 = .ok (.ireturn, 1) := by decide +kernel
theorem dX4_doesNext_0 : decode cX4_doesNext 0 = .ok (.aload_n 0, 1) := by decide +kernel
theorem dX4_doesNext_1 : decode cX4_doesNext 1 = .ok (.getfield 22, 3) := by decide +kernel
theorem dX4_doesNext_4 : decode cX4_doesNext 4 = .ok (.aload_n 0, 1) := by decide +kernel
theorem dX4_doesNext_5 : decode cX4_doesNext 5 = .ok (.getfield 157, 3) := by decide +kernel
theorem dX4_doesNext_8 : decode cX4_doesNext 8 = .ok (.caload, 1) := by decide +kernel
theorem dX4_doesNext_9 : decode cX4_doesNext 9 = .ok (.istore_n 1, 1) := by decide +kernel
theorem dX4_doesNext_10 : decode cX4_doesNext 10 = .ok (.aload_n 0, 1) := by decide +kernel
theorem dX4_doesNext_11 : decode cX4_doesNext 11 = .ok (.dup, 1) := by decide +kernel
theorem dX4_doesNext_12 : decode cX4_doesNext 12 = .ok (.getfield 157, 3) := by decide +kernel
theorem dX4_doesNext_15 : decode cX4_doesNext 15 = .ok (.iconst 1, 1) := by decide +kernel
theorem dX4_doesNext_16 : decode cX4_doesNext 16 = .ok (.iadd, 1) := by decide +kernel
theorem dX4_doesNext_17 : decode cX4_doesNext 17 = .ok (.putfield 157, 3) := by decide +kernel
theorem dX4_doesNext_20 : decode cX4_doesNext 20 = .ok (.aload_n 0, 1) := by decide +kernel
theorem dX4_doesNext_21 : decode cX4_doesNext 21 = .ok (.iload_n 1, 1) := by decide +kernel
theorem dX4_doesNext_22 : decode cX4_doesNext 22 = .ok (.invokevirtual 167, 3) := by decide +kernel
theorem dX4_doesNext_25 : decode cX4_doesNext 25 = .ok (.ifCond .ne 5, 3) := by decide +kernel
theorem dX4_doesNext_28 : decode cX4_doesNext 28 = .ok (.iconst 1, 1) := by decide +kernel
theorem dX4_doesNext_29 : decode cX4_doesNext 29 = .ok (.ireturn, 1) := by decide +kernel
theorem dX4_doesNext_30 : decode cX4_doesNext 30 = .ok (.aload_n 0, 1) := by decide +kernel
theorem dX4_doesNext_31 : decode cX4_doesNext 31 = .ok (.iload_n 1, 1) := by decide +kernel
theorem dX4_doesNext_32 : decode cX4_doesNext 32 = .ok (.invokevirtual 170, 3) := by decide +kernel
theorem dX4_doesNext_35 : decode cX4_doesNext 35 = .ok (.ifCond .ne 7, 3) := by decide +kernel
theorem dX4_doesNext_38 : decode cX4_doesNext 38 = .ok (.iconst 2, 1) := by decide +kernel
theorem dX4_doesNext_39 : decode cX4_doesNext 39 = .ok (.goto 18, 3) := by decide +kernel
theorem dX4_doesNext_42 : decode cX4_doesNext 42 = .ok (.aload_n 0, 1) := by decide +kernel
theorem dX4_doesNext_43 : decode cX4_doesNext 43 = .ok (.iload_n 1, 1) := by decide +kernel
theorem dX4_doesNext_44 : decode cX4_doesNext 44 = .ok (.invokevirtual 173, 3) := by decide +kernel
theorem dX4_doesNext_47 : decode cX4_doesNext 47 = .ok (.ldc 40, 2) := by decide +kernel
theorem dX4_doesNext_49 : decode cX4_doesNext 49 = .ok (.if_icmp .gt 7, 3) := by decide +kernel
theorem dX4_doesNext_52 : decode cX4_doesNext 52 = .ok (.iconst 3, 1) := by decide +kernel
theorem dX4_doesNext_53 : decode cX4_doesNext 53 = .ok (.goto 4, 3) := by decide +kernel
theorem dX4_doesNext_56 : decode cX4_doesNext 56 = .ok (.iconst 0, 1) := by decide +kernel
theorem dX4_doesNext_57 : decode cX4_doesNext 57 = .ok (.ireturn, 1) := by decide +kernel
theorem dX4_faulty_0 : decode cX4_faulty 0 = .ok (.aload_n 0, 1) := by decide +kernel
theorem dX4_faulty_1 : decode cX4_faulty 1 = .ok (.invokevirtual 135, 3) := by decide +kernel
theorem dX4_faulty_4 : decode cX4_faulty 4 = .ok (.ldc 80, 2) := by decide +kernel
theorem dX4_faulty_6 : decode cX4_faulty 6 = .ok (.istore_n 1, 1) := by decide +kernel
theorem dX4_faulty_7 : decode cX4_faulty 7 = .ok (.aload_n 0, 1) := by decide +kernel
theorem dX4_faulty_8 : decode cX4_faulty 8 = .ok (.iconst 0, 1) := by decide +kernel
theorem dX4_faulty_9 : decode cX4_faulty 9 = .ok (.putfield 157, 3) := by decide +kernel
theorem dX4_faulty_12 : decode cX4_faulty 12 = .ok (.aload_n 0, 1) := by decide +kernel
theorem dX4_faulty_13 : decode cX4_faulty 13 = .ok (.getfield 157, 3) := by decide +kernel
theorem dX4_faulty_16 : decode cX4_faulty 16 = .ok (.aload_n 0, 1) := by decide +kernel
theorem dX4_faulty_17 : decode cX4_faulty 17 = .ok (.getfield 154, 3) := by decide +kernel
theorem dX4_faulty_20 : decode cX4_faulty 20 = .ok (.if_icmp .ge 38, 3) := by decide +kernel
theorem dX4_faulty_23 : decode cX4_faulty 23 = .ok (.iload_n 1, 1) := by decide +kernel
theorem dX4_faulty_24 : decode cX4_faulty 24 = .ok (.ldc 80, 2) := by decide +kernel
theorem dX4_faulty_26 : decode cX4_faulty 26 = .ok (.if_icmp .ne 32, 3) := by decide +kernel
theorem dX4_faulty_29 : decode cX4_faulty 29 = .ok (.aload_n 0, 1) := by decide +kernel
theorem dX4_faulty_30 : decode cX4_faulty 30 = .ok (.getfield 157, 3) := by decide +kernel
theorem dX4_faulty_33 : decode cX4_faulty 33 = .ok (.istore_n 2, 1) := by decide +kernel
theorem dX4_faulty_34 : decode cX4_faulty 34 = .ok (.aload_n 0, 1) := by decide +kernel
theorem dX4_faulty_35 : decode cX4_faulty 35 = .ok (.aload_n 0, 1) := by decide +kernel
theorem dX4_faulty_36 : decode cX4_faulty 36 = .ok (.invokevirtual 177, 3) := by decide +kernel
theorem dX4_faulty_39 : decode cX4_faulty 39 = .ok (.putfield 180, 3) := by decide +kernel
theorem dX4_faulty_42 : decode cX4_faulty 42 = .ok (.aload_n 0, 1) := by decide +kernel
theorem dX4_faulty_43 : decode cX4_faulty 43 = .ok (.getfield 180, 3) := by decide +kernel
theorem dX4_faulty_46 : decode cX4_faulty 46 = .ok (.ifCond .le 7, 3) := by decide +kernel
theorem dX4_faulty_49 : decode cX4_faulty 49 = .ok (.iload_n 2, 1) := by decide +kernel
theorem dX4_faulty_50 : decode cX4_faulty 50 = .ok (.goto 4, 3) := by decide +kernel
theorem dX4_faulty_53 : decode cX4_faulty 53 = .ok (.iload_n 1, 1) := by decide +kernel
theorem dX4_faulty_54 : decode cX4_faulty 54 = .ok (.istore_n 1, 1) := by decide +kernel
theorem dX4_faulty_55 : decode cX4_faulty 55 = .ok (.goto (-43), 3) := by decide +kernel
theorem dX4_faulty_58 : decode cX4_faulty 58 = .ok (.aload_n 0, 1) := by decide +kernel
theorem dX4_faulty_59 : decode cX4_faulty 59 = .ok (.invokevirtual 138, 3) := by decide +kernel
theorem dX4_faulty_62 : decode cX4_faulty 62 = .ok (.iload_n 1, 1) := by decide +kernel
theorem dX4_faulty_63 : decode cX4_faulty 63 = .ok (.ireturn, 1) := by decide +kernel
theorem dX4_fault_0 : decode cX4_fault 0 = .ok (.iload_n 1, 1) := by decide +kernel
theorem dX4_fault_1 : decode cX4_fault 1 = .ok (.iconst 0, 1) := by decide +kernel
theorem dX4_fault_2 : decode cX4_fault 2 = .ok (.iconst 1, 1) := by decide +kernel
theorem dX4_fault_3 : decode cX4_fault 3 = .ok (.invokestatic 33, 3) := by decide +kernel
theorem dX4_fault_6 : decode cX4_fault 6 = .ok (.ifCond .ne 6, 3) := by decide +kernel
theorem dX4_fault_9 : decode cX4_fault 9 = .ok (.ldc 40, 2) := by decide +kernel
theorem dX4_fault_11 : decode cX4_fault 11 = .ok (.ireturn, 1) := by decide +kernel
theorem dX4_fault_12 : decode cX4_fault 12 = .ok (.aload_n 0, 1) := by decide +kernel
theorem dX4_fault_13 : decode cX4_fault 13 = .ok (.invokevirtual 183, 3) := by decide +kernel
theorem dX4_fault_16 : decode cX4_fault 16 = .ok (.istore_n 2, 1) := by decide +kernel
theorem dX4_fault_17 : decode cX4_fault 17 = .ok (.iload_n 2, 1) := by decide +kernel
theorem dX4_fault_18 : decode cX4_fault 18 = .ok (.ldc 80, 2) := by decide +kernel
theorem dX4_fault_20 : decode cX4_fault 20 = .ok (.if_icmp .eq 7, 3) := by decide +kernel
theorem dX4_fault_23 : decode cX4_fault 23 = .ok (.iload_n 1, 1) := by decide +kernel
theorem dX4_fault_24 : decode cX4_fault 24 = .ok (.ifCond .ne 7, 3) := by decide +kernel
theorem dX4_fault_27 : decode cX4_fault 27 = .ok (.iload_n 2, 1) := by decide +kernel
theorem dX4_fault_28 : decode cX4_fault 28 = .ok (.goto 7, 3) := by decide +kernel
theorem dX4_fault_31 : decode cX4_fault 31 = .ok (.aload_n 0, 1) := by decide +kernel
theorem dX4_fault_32 : decode cX4_fault 32 = .ok (.getfield 180, 3) := by decide +kernel
theorem dX4_fault_35 : decode cX4_fault 35 = .ok (.ireturn, 1) := by decide +kernel
theorem dX4_play_0 : decode cX4_play 0 = .ok (.aload_n 0, 1) := by decide +kernel
theorem dX4_play_1 : decode cX4_play 1 = .ok (.invokevirtual 183, 3) := by decide +kernel
theorem dX4_play_4 : decode cX4_play 4 = .ok (.ldc 80, 2) := by decide +kernel
theorem dX4_play_6 : decode cX4_play 6 = .ok (.if_icmp .eq 6, 3) := by decide +kernel
theorem dX4_play_9 : decode cX4_play 9 = .ok (.ldc 60, 2) := by decide +kernel
theorem dX4_play_11 : decode cX4_play 11 = .ok (.ireturn, 1) := by decide +kernel
theorem dX4_play_12 : decode cX4_play 12 = .ok (.aload_n 0, 1) := by decide +kernel
theorem dX4_play_13 : decode cX4_play 13 = .ok (.invokevirtual 46, 3) := by decide +kernel
theorem dX4_play_16 : decode cX4_play 16 = .ok (.iconst 0, 1) := by decide +kernel
theorem dX4_play_17 : decode cX4_play 17 = .ok (.istore_n 1, 1) := by decide +kernel
theorem dX4_play_18 : decode cX4_play 18 = .ok (.aload_n 0, 1) := by decide +kernel
theorem dX4_play_19 : decode cX4_play 19 = .ok (.iconst 0, 1) := by decide +kernel
theorem dX4_play_20 : decode cX4_play 20 = .ok (.putfield 157, 3) := by decide +kernel
theorem dX4_play_23 : decode cX4_play 23 = .ok (.aload_n 0, 1) := by decide +kernel
theorem dX4_play_24 : decode cX4_play 24 = .ok (.getfield 157, 3) := by decide +kernel
theorem dX4_play_27 : decode cX4_play 27 = .ok (.aload_n 0, 1) := by decide +kernel
theorem dX4_play_28 : decode cX4_play 28 = .ok (.getfield 154, 3) := by decide +kernel
theorem dX4_play_31 : decode cX4_play 31 = .ok (.if_icmp .ge 21, 3) := by decide +kernel
theorem dX4_play_34 : decode cX4_play 34 = .ok (.iload_n 1, 1) := by decide +kernel
theorem dX4_play_35 : decode cX4_play 35 = .ok (.aload_n 0, 1) := by decide +kernel
theorem dX4_play_36 : decode cX4_play 36 = .ok (.invokevirtual 177, 3) := by decide +kernel
theorem dX4_play_39 : decode cX4_play 39 = .ok (.ifCond .ne 7, 3) := by decide +kernel
theorem dX4_play_42 : decode cX4_play 42 = .ok (.iconst 1, 1) := by decide +kernel
theorem dX4_play_43 : decode cX4_play 43 = .ok (.goto 4, 3) := by decide +kernel
theorem dX4_play_46 : decode cX4_play 46 = .ok (.iconst 0, 1) := by decide +kernel
theorem dX4_play_47 : decode cX4_play 47 = .ok (.iadd, 1) := by decide +kernel
theorem dX4_play_48 : decode cX4_play 48 = .ok (.istore_n 1, 1) := by decide +kernel
theorem dX4_play_49 : decode cX4_play 49 = .ok (.goto (-26), 3) := by decide +kernel
theorem dX4_play_52 : decode cX4_play 52 = .ok (.aload_n 0, 1) := by decide +kernel
theorem dX4_play_53 : decode cX4_play 53 = .ok (.iload_n 1, 1) := by decide +kernel
theorem dX4_play_54 : decode cX4_play 54 = .ok (.invokevirtual 49, 3) := by decide +kernel
theorem dX4_play_57 : decode cX4_play 57 = .ok (.ireturn, 1) := by decide +kernel
