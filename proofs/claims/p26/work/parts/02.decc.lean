theorem dX0_init_0 : decode cX0_init 0 = .ok (.aload_n 0, 1) := by decide +kernel
theorem dX0_init_1 : decode cX0_init 1 = .ok (.invokespecial 3, 3) := by decide +kernel
theorem dX0_init_4 : decode cX0_init 4 = .ok (.aload_n 0, 1) := by decide +kernel
theorem dX0_init_5 : decode cX0_init 5 = .ok (.iconst 5, 1) := by decide +kernel
theorem dX0_init_6 : decode cX0_init 6 = .ok (.anewarray 9, 3) := by decide +kernel
theorem dX0_init_9 : decode cX0_init 9 = .ok (.putfield 11, 3) := by decide +kernel
theorem dX0_init_12 : decode cX0_init 12 = .ok (.aload_n 0, 1) := by decide +kernel
theorem dX0_init_13 : decode cX0_init 13 = .ok (.iconst 0, 1) := by decide +kernel
theorem dX0_init_14 : decode cX0_init 14 = .ok (.putfield 17, 3) := by decide +kernel
theorem dX0_init_17 : decode cX0_init 17 = .ok (.iconst 0, 1) := by decide +kernel
theorem dX0_init_18 : decode cX0_init 18 = .ok (.istore_n 1, 1) := by decide +kernel
theorem dX0_init_19 : decode cX0_init 19 = .ok (.iload_n 1, 1) := by decide +kernel
theorem dX0_init_20 : decode cX0_init 20 = .ok (.aload_n 0, 1) := by decide +kernel
theorem dX0_init_21 : decode cX0_init 21 = .ok (.getfield 11, 3) := by decide +kernel
theorem dX0_init_24 : decode cX0_init 24 = .ok (.arraylength, 1) := by decide +kernel
theorem dX0_init_25 : decode cX0_init 25 = .ok (.if_icmp .ge 22, 3) := by decide +kernel
theorem dX0_init_28 : decode cX0_init 28 = .ok (.aload_n 0, 1) := by decide +kernel
theorem dX0_init_29 : decode cX0_init 29 = .ok (.getfield 11, 3) := by decide +kernel
theorem dX0_init_32 : decode cX0_init 32 = .ok (.iload_n 1, 1) := by decide +kernel
theorem dX0_init_33 : decode cX0_init 33 = .ok (.new 9, 3) := by decide +kernel
theorem dX0_init_36 : decode cX0_init 36 = .ok (.dup, 1) := by decide +kernel
theorem dX0_init_37 : decode cX0_init 37 = .ok (.invokespecial 21, 3) := by decide +kernel
theorem dX0_init_40 : decode cX0_init 40 = .ok (.aastore, 1) := by decide +kernel
theorem dX0_init_41 : decode cX0_init 41 = .ok (.iinc 1 1, 3) := by decide +kernel
theorem dX0_init_44 : decode cX0_init 44 = .ok (.goto (-25), 3) := by decide +kernel
theorem dX0_init_47 : decode cX0_init 47 = .ok (.return_, 1) := by decide +kernel
theorem dX0_prepare_0 : decode cX0_prepare 0 = .ok (.aload_n 0, 1) := by decide +kernel
theorem dX0_prepare_1 : decode cX0_prepare 1 = .ok (.getfield 11, 3) := by decide +kernel
theorem dX0_prepare_4 : decode cX0_prepare 4 = .ok (.aload_n 0, 1) := by decide +kernel
theorem dX0_prepare_5 : decode cX0_prepare 5 = .ok (.getfield 17, 3) := by decide +kernel
theorem dX0_prepare_8 : decode cX0_prepare 8 = .ok (.aaload, 1) := by decide +kernel
theorem dX0_prepare_9 : decode cX0_prepare 9 = .ok (.aload_n 1, 1) := by decide +kernel
theorem dX0_prepare_10 : decode cX0_prepare 10 = .ok (.invokevirtual 22, 3) := by decide +kernel
theorem dX0_prepare_13 : decode cX0_prepare 13 = .ok (.return_, 1) := by decide +kernel
theorem dX0_keep_0 : decode cX0_keep 0 = .ok (.aload_n 0, 1) := by decide +kernel
theorem dX0_keep_1 : decode cX0_keep 1 = .ok (.dup, 1) := by decide +kernel
theorem dX0_keep_2 : decode cX0_keep 2 = .ok (.getfield 17, 3) := by decide +kernel
theorem dX0_keep_5 : decode cX0_keep 5 = .ok (.iconst 1, 1) := by decide +kernel
theorem dX0_keep_6 : decode cX0_keep 6 = .ok (.iadd, 1) := by decide +kernel
theorem dX0_keep_7 : decode cX0_keep 7 = .ok (.putfield 17, 3) := by decide +kernel
theorem dX0_keep_10 : decode cX0_keep 10 = .ok (.aload_n 0, 1) := by decide +kernel
theorem dX0_keep_11 : decode cX0_keep 11 = .ok (.getfield 17, 3) := by decide +kernel
theorem dX0_keep_14 : decode cX0_keep 14 = .ok (.iconst 4, 1) := by decide +kernel
theorem dX0_keep_15 : decode cX0_keep 15 = .ok (.if_icmp .le 7, 3) := by decide +kernel
theorem dX0_keep_18 : decode cX0_keep 18 = .ok (.aload_n 0, 1) := by decide +kernel
theorem dX0_keep_19 : decode cX0_keep 19 = .ok (.invokevirtual 26, 3) := by decide +kernel
theorem dX0_keep_22 : decode cX0_keep 22 = .ok (.return_, 1) := by decide +kernel
theorem dX0_dropOldest_0 : decode cX0_dropOldest 0 = .ok (.aload_n 0, 1) := by decide +kernel
theorem dX0_dropOldest_1 : decode cX0_dropOldest 1 = .ok (.getfield 11, 3) := by decide +kernel
theorem dX0_dropOldest_4 : decode cX0_dropOldest 4 = .ok (.iconst 0, 1) := by decide +kernel
theorem dX0_dropOldest_5 : decode cX0_dropOldest 5 = .ok (.aaload, 1) := by decide +kernel
theorem dX0_dropOldest_6 : decode cX0_dropOldest 6 = .ok (.astore_n 1, 1) := by decide +kernel
theorem dX0_dropOldest_7 : decode cX0_dropOldest 7 = .ok (.iconst 0, 1) := by decide +kernel
theorem dX0_dropOldest_8 : decode cX0_dropOldest 8 = .ok (.istore_n 2, 1) := by decide +kernel
theorem dX0_dropOldest_9 : decode cX0_dropOldest 9 = .ok (.iload_n 2, 1) := by decide +kernel
theorem dX0_dropOldest_10 : decode cX0_dropOldest 10 = .ok (.iconst 4, 1) := by decide +kernel
theorem dX0_dropOldest_11 : decode cX0_dropOldest 11 = .ok (.if_icmp .ge 23, 3) := by decide +kernel
theorem dX0_dropOldest_14 : decode cX0_dropOldest 14 = .ok (.aload_n 0, 1) := by decide +kernel
theorem dX0_dropOldest_15 : decode cX0_dropOldest 15 = .ok (.getfield 11, 3) := by decide +kernel
theorem dX0_dropOldest_18 : decode cX0_dropOldest 18 = .ok (.iload_n 2, 1) := by decide +kernel
theorem dX0_dropOldest_19 : decode cX0_dropOldest 19 = .ok (.aload_n 0, 1) := by decide +kernel
theorem dX0_dropOldest_20 : decode cX0_dropOldest 20 = .ok (.getfield 11, 3) := by decide +kernel
theorem dX0_dropOldest_23 : decode cX0_dropOldest 23 = .ok (.iload_n 2, 1) := by decide +kernel
theorem dX0_dropOldest_24 : decode cX0_dropOldest 24 = .ok (.iconst 1, 1) := by decide +kernel
theorem dX0_dropOldest_25 : decode cX0_dropOldest 25 = .ok (.iadd, 1) := by decide +kernel
theorem dX0_dropOldest_26 : decode cX0_dropOldest 26 = .ok (.aaload, 1) := by decide +kernel
theorem dX0_dropOldest_27 : decode cX0_dropOldest 27 = .ok (.aastore, 1) := by decide +kernel
theorem dX0_dropOldest_28 : decode cX0_dropOldest 28 = .ok (.iinc 2 1, 3) := by decide +kernel
theorem dX0_dropOldest_31 : decode cX0_dropOldest 31 = .ok (.goto (-22), 3) := by decide +kernel
theorem dX0_dropOldest_34 : decode cX0_dropOldest 34 = .ok (.aload_n 0, 1) := by decide +kernel
theorem dX0_dropOldest_35 : decode cX0_dropOldest 35 = .ok (.getfield 11, 3) := by decide +kernel
theorem dX0_dropOldest_38 : decode cX0_dropOldest 38 = .ok (.iconst 4, 1) := by decide +kernel
theorem dX0_dropOldest_39 : decode cX0_dropOldest 39 = .ok (.aload_n 1, 1) := by decide +kernel
theorem dX0_dropOldest_40 : decode cX0_dropOldest 40 = .ok (.aastore, 1) := by decide +kernel
theorem dX0_dropOldest_41 : decode cX0_dropOldest 41 = .ok (.aload_n 0, 1) := by decide +kernel
theorem dX0_dropOldest_42 : decode cX0_dropOldest 42 = .ok (.dup, 1) := by decide +kernel
theorem dX0_dropOldest_43 : decode cX0_dropOldest 43 = .ok (.getfield 17, 3) := by decide +kernel
theorem dX0_dropOldest_46 : decode cX0_dropOldest 46 = .ok (.iconst 1, 1) := by decide +kernel
theorem dX0_dropOldest_47 : decode cX0_dropOldest 47 = .ok (.isub, 1) := by decide +kernel
theorem dX0_dropOldest_48 : decode cX0_dropOldest 48 = .ok (.putfield 17, 3) := by decide +kernel
theorem dX0_dropOldest_51 : decode cX0_dropOldest 51 = .ok (.return_, 1) := by decide +kernel
theorem dX0_restore_0 : decode cX0_restore 0 = .ok (.aload_n 0, 1) := by decide +kernel
theorem dX0_restore_1 : decode cX0_restore 1 = .ok (.dup, 1) := by decide +kernel
theorem dX0_restore_2 : decode cX0_restore 2 = .ok (.getfield 17, 3) := by decide +kernel
theorem dX0_restore_5 : decode cX0_restore 5 = .ok (.iconst 1, 1) := by decide +kernel
theorem dX0_restore_6 : decode cX0_restore 6 = .ok (.isub, 1) := by decide +kernel
theorem dX0_restore_7 : decode cX0_restore 7 = .ok (.putfield 17, 3) := by decide +kernel
theorem dX0_restore_10 : decode cX0_restore 10 = .ok (.aload_n 1, 1) := by decide +kernel
theorem dX0_restore_11 : decode cX0_restore 11 = .ok (.aload_n 0, 1) := by decide +kernel
theorem dX0_restore_12 : decode cX0_restore 12 = .ok (.getfield 11, 3) := by decide +kernel
theorem dX0_restore_15 : decode cX0_restore 15 = .ok (.aload_n 0, 1) := by decide +kernel
theorem dX0_restore_16 : decode cX0_restore 16 = .ok (.getfield 17, 3) := by decide +kernel
theorem dX0_restore_19 : decode cX0_restore 19 = .ok (.aaload, 1) := by decide +kernel
theorem dX0_restore_20 : decode cX0_restore 20 = .ok (.invokevirtual 22, 3) := by decide +kernel
theorem dX0_restore_23 : decode cX0_restore 23 = .ok (.return_, 1) := by decide +kernel
theorem dX1_init_0 : decode cX1_init 0 = .ok (.aload_n 0, 1) := by decide +kernel
theorem dX1_init_1 : decode cX1_init 1 = .ok (.invokespecial 3, 3) := by decide +kernel
theorem dX1_init_4 : decode cX1_init 4 = .ok (.aload_n 0, 1) := by decide +kernel
theorem dX1_init_5 : decode cX1_init 5 = .ok (.bipush 60, 2) := by decide +kernel
theorem dX1_init_7 : decode cX1_init 7 = .ok (.newarray .char, 2) := by decide +kernel
theorem dX1_init_9 : decode cX1_init 9 = .ok (.putfield 9, 3) := by decide +kernel
theorem dX1_init_12 : decode cX1_init 12 = .ok (.aload_n 0, 1) := by decide +kernel
theorem dX1_init_13 : decode cX1_init 13 = .ok (.iconst 0, 1) := by decide +kernel
theorem dX1_init_14 : decode cX1_init 14 = .ok (.putfield 15, 3) := by decide +kernel
theorem dX1_init_17 : decode cX1_init 17 = .ok (.aload_n 0, 1) := by decide +kernel
theorem dX1_init_18 : decode cX1_init 18 = .ok (.iconst 3, 1) := by decide +kernel
theorem dX1_init_19 : decode cX1_init 19 = .ok (.newarray .int, 2) := by decide +kernel
theorem dX1_init_21 : decode cX1_init 21 = .ok (.putfield 19, 3) := by decide +kernel
theorem dX1_init_24 : decode cX1_init 24 = .ok (.aload_n 0, 1) := by decide +kernel
theorem dX1_init_25 : decode cX1_init 25 = .ok (.iconst 0, 1) := by decide +kernel
theorem dX1_init_26 : decode cX1_init 26 = .ok (.putfield 23, 3) := by decide +kernel
theorem dX1_init_29 : decode cX1_init 29 = .ok (.aload_n 0, 1) := by decide +kernel
theorem dX1_init_30 : decode cX1_init 30 = .ok (.iconst 0, 1) := by decide +kernel
theorem dX1_init_31 : decode cX1_init 31 = .ok (.putfield 26, 3) := by decide +kernel
theorem dX1_init_34 : decode cX1_init 34 = .ok (.aload_n 0, 1) := by decide +kernel
theorem dX1_init_35 : decode cX1_init 35 = .ok (.iconst 0, 1) := by decide +kernel
theorem dX1_init_36 : decode cX1_init 36 = .ok (.putfield 29, 3) := by decide +kernel
theorem dX1_init_39 : decode cX1_init 39 = .ok (.return_, 1) := by decide +kernel
theorem dX2_init_0 : decode cX2_init 0 = .ok (.aload_n 0, 1) := by decide +kernel
theorem dX2_init_1 : decode cX2_init 1 = .ok (.invokespecial 3, 3) := by decide +kernel
theorem dX2_init_4 : decode cX2_init 4 = .ok (.aload_n 0, 1) := by decide +kernel
theorem dX2_init_5 : decode cX2_init 5 = .ok (.iconst 0, 1) := by decide +kernel
theorem dX2_init_6 : decode cX2_init 6 = .ok (.putfield 9, 3) := by decide +kernel
theorem dX2_init_9 : decode cX2_init 9 = .ok (.aload_n 0, 1) := by decide +kernel
theorem dX2_init_10 : decode cX2_init 10 = .ok (.iconst 0, 1) := by decide +kernel
theorem dX2_init_11 : decode cX2_init 11 = .ok (.putfield 15, 3) := by decide +kernel
theorem dX2_init_14 : decode cX2_init 14 = .ok (.aload_n 0, 1) := by decide +kernel
theorem dX2_init_15 : decode cX2_init 15 = .ok (.bipush 10, 2) := by decide +kernel
theorem dX2_init_17 : decode cX2_init 17 = .ok (.putfield 18, 3) := by decide +kernel
theorem dX2_init_20 : decode cX2_init 20 = .ok (.aload_n 0, 1) := by decide +kernel
theorem dX2_init_21 : decode cX2_init 21 = .ok (.iconst 0, 1) := by decide +kernel
theorem dX2_init_22 : decode cX2_init 22 = .ok (.putfield 21, 3) := by decide +kernel
theorem dX2_init_25 : decode cX2_init 25 = .ok (.aload_n 0, 1) := by decide +kernel
theorem dX2_init_26 : decode cX2_init 26 = .ok (.bipush 7, 2) := by decide +kernel
theorem dX2_init_28 : decode cX2_init 28 = .ok (.newarray .int, 2) := by decide +kernel
theorem dX2_init_30 : decode cX2_init 30 = .ok (.putfield 24, 3) := by decide +kernel
theorem dX2_init_33 : decode cX2_init 33 = .ok (.aload_n 0, 1) := by decide +kernel
theorem dX2_init_34 : decode cX2_init 34 = .ok (.bipush 7, 2) := by decide +kernel
theorem dX2_init_36 : decode cX2_init 36 = .ok (.newarray .int, 2) := by decide +kernel
theorem dX2_init_38 : decode cX2_init 38 = .ok (.putfield 28, 3) := by decide +kernel
theorem dX2_init_41 : decode cX2_init 41 = .ok (.aload_n 0, 1) := by decide +kernel
theorem dX2_init_42 : decode cX2_init 42 = .ok (.bipush 7, 2) := by decide +kernel
theorem dX2_init_44 : decode cX2_init 44 = .ok (.newarray .int, 2) := by decide +kernel
theorem dX2_init_46 : decode cX2_init 46 = .ok (.putfield 31, 3) := by decide +kernel
theorem dX2_init_49 : decode cX2_init 49 = .ok (.aload_n 0, 1) := by decide +kernel
theorem dX2_init_50 : decode cX2_init 50 = .ok (.bipush 7, 2) := by decide +kernel
theorem dX2_init_52 : decode cX2_init 52 = .ok (.newarray .int, 2) := by decide +kernel
theorem dX2_init_54 : decode cX2_init 54 = .ok (.putfield 34, 3) := by decide +kernel
theorem dX2_init_57 : decode cX2_init 57 = .ok (.aload_n 0, 1) := by decide +kernel
theorem dX2_init_58 : decode cX2_init 58 = .ok (.bipush 84, 2) := by decide +kernel
theorem dX2_init_60 : decode cX2_init 60 = .ok (.newarray .int, 2) := by decide +kernel
theorem dX2_init_62 : decode cX2_init 62 = .ok (.putfield 37, 3) := by decide +kernel
theorem dX2_init_65 : decode cX2_init 65 = .ok (.aload_n 0, 1) := by decide +kernel
theorem dX2_init_66 : decode cX2_init 66 = .ok (.bipush 84, 2) := by decide +kernel
theorem dX2_init_68 : decode cX2_init 68 = .ok (.newarray .int, 2) := by decide +kernel
theorem dX2_init_70 : decode cX2_init 70 = .ok (.putfield 40, 3) := by decide +kernel
theorem dX2_init_73 : decode cX2_init 73 = .ok (.aload_n 0, 1) := by decide +kernel
theorem dX2_init_74 : decode cX2_init 74 = .ok (.bipush 84, 2) := by decide +kernel
theorem dX2_init_76 : decode cX2_init 76 = .ok (.newarray .int, 2) := by decide +kernel
theorem dX2_init_78 : decode cX2_init 78 = .ok (.putfield 43, 3) := by decide +kernel
theorem dX2_init_81 : decode cX2_init 81 = .ok (.aload_n 0, 1) := by decide +kernel
theorem dX2_init_82 : decode cX2_init 82 = .ok (.bipush 84, 2) := by decide +kernel
theorem dX2_init_84 : decode cX2_init 84 = .ok (.newarray .int, 2) := by decide +kernel
theorem dX2_init_86 : decode cX2_init 86 = .ok (.putfield 46, 3) := by decide +kernel
theorem dX2_init_89 : decode cX2_init 89 = .ok (.aload_n 0, 1) := by decide +kernel
theorem dX2_init_90 : decode cX2_init 90 = .ok (.bipush 84, 2) := by decide +kernel
theorem dX2_init_92 : decode cX2_init 92 = .ok (.newarray .int, 2) := by decide +kernel
theorem dX2_init_94 : decode cX2_init 94 = .ok (.putfield 49, 3) := by decide +kernel
theorem dX2_init_97 : decode cX2_init 97 = .ok (.aload_n 0, 1) := by decide +kernel
theorem dX2_init_98 : decode cX2_init 98 = .ok (.bipush 84, 2) := by decide +kernel
theorem dX2_init_100 : decode cX2_init 100 = .ok (.newarray .int, 2) := by decide +kernel
theorem dX2_init_102 : decode cX2_init 102 = .ok (.putfield 52, 3) := by decide +kernel
theorem dX2_init_105 : decode cX2_init 105 = .ok (.aload_n 0, 1) := by decide +kernel
theorem dX2_init_106 : decode cX2_init 106 = .ok (.bipush 12, 2) := by decide +kernel
theorem dX2_init_108 : decode cX2_init 108 = .ok (.newarray .int, 2) := by decide +kernel
theorem dX2_init_110 : decode cX2_init 110 = .ok (.putfield 55, 3) := by decide +kernel
theorem dX2_init_113 : decode cX2_init 113 = .ok (.return_, 1) := by decide +kernel
theorem dX2_copyFrom_0 : decode cX2_copyFrom 0 = .ok (.aload_n 0, 1) := by decide +kernel
theorem dX2_copyFrom_1 : decode cX2_copyFrom 1 = .ok (.aload_n 1, 1) := by decide +kernel
theorem dX2_copyFrom_2 : decode cX2_copyFrom 2 = .ok (.getfield 9, 3) := by decide +kernel
theorem dX2_copyFrom_5 : decode cX2_copyFrom 5 = .ok (.putfield 9, 3) := by decide +kernel
theorem dX2_copyFrom_8 : decode cX2_copyFrom 8 = .ok (.aload_n 0, 1) := by decide +kernel
theorem dX2_copyFrom_9 : decode cX2_copyFrom 9 = .ok (.aload_n 1, 1) := by decide +kernel
theorem dX2_copyFrom_10 : decode cX2_copyFrom 10 = .ok (.getfield 15, 3) := by decide +kernel
theorem dX2_copyFrom_13 : decode cX2_copyFrom 13 = .ok (.putfield 15, 3) := by decide +kernel
theorem dX2_copyFrom_16 : decode cX2_copyFrom 16 = .ok (.aload_n 0, 1) := by decide +kernel
theorem dX2_copyFrom_17 : decode cX2_copyFrom 17 = .ok (.aload_n 1, 1) := by decide +kernel
theorem dX2_copyFrom_18 : decode cX2_copyFrom 18 = .ok (.getfield 18, 3) := by decide +kernel
theorem dX2_copyFrom_21 : decode cX2_copyFrom 21 = .ok (.putfield 18, 3) := by decide +kernel
theorem dX2_copyFrom_24 : decode cX2_copyFrom 24 = .ok (.aload_n 0, 1) := by decide +kernel
theorem dX2_copyFrom_25 : decode cX2_copyFrom 25 = .ok (.aload_n 1, 1) := by decide +kernel
theorem dX2_copyFrom_26 : decode cX2_copyFrom 26 = .ok (.getfield 21, 3) := by decide +kernel
theorem dX2_copyFrom_29 : decode cX2_copyFrom 29 = .ok (.putfield 21, 3) := by decide +kernel
theorem dX2_copyFrom_32 : decode cX2_copyFrom 32 = .ok (.aload_n 1, 1) := by decide +kernel
theorem dX2_copyFrom_33 : decode cX2_copyFrom 33 = .ok (.getfield 24, 3) := by decide +kernel
theorem dX2_copyFrom_36 : decode cX2_copyFrom 36 = .ok (.aload_n 0, 1) := by decide +kernel
theorem dX2_copyFrom_37 : decode cX2_copyFrom 37 = .ok (.getfield 24, 3) := by decide +kernel
theorem dX2_copyFrom_40 : decode cX2_copyFrom 40 = .ok (.bipush 7, 2) := by decide +kernel
theorem dX2_copyFrom_42 : decode cX2_copyFrom 42 = .ok (.invokestatic 58, 3) := by decide +kernel
theorem dX2_copyFrom_45 : decode cX2_copyFrom 45 = .ok (.aload_n 1, 1) := by decide +kernel
theorem dX2_copyFrom_46 : decode cX2_copyFrom 46 = .ok (.getfield 28, 3) := by decide +kernel
theorem dX2_copyFrom_49 : decode cX2_copyFrom 49 = .ok (.aload_n 0, 1) := by decide +kernel
theorem dX2_copyFrom_50 : decode cX2_copyFrom 50 = .ok (.getfield 28, 3) := by decide +kernel
theorem dX2_copyFrom_53 : decode cX2_copyFrom 53 = .ok (.bipush 7, 2) := by decide +kernel
theorem dX2_copyFrom_55 : decode cX2_copyFrom 55 = .ok (.invokestatic 58, 3) := by decide +kernel
theorem dX2_copyFrom_58 : decode cX2_copyFrom 58 = .ok (.aload_n 1, 1) := by decide +kernel
theorem dX2_copyFrom_59 : decode cX2_copyFrom 59 = .ok (.getfield 31, 3) := by decide +kernel
theorem dX2_copyFrom_62 : decode cX2_copyFrom 62 = .ok (.aload_n 0, 1) := by decide +kernel
theorem dX2_copyFrom_63 : decode cX2_copyFrom 63 = .ok (.getfield 31, 3) := by decide +kernel
theorem dX2_copyFrom_66 : decode cX2_copyFrom 66 = .ok (.bipush 7, 2) := by decide +kernel
theorem dX2_copyFrom_68 : decode cX2_copyFrom 68 = .ok (.invokestatic 58, 3) := by decide +kernel
theorem dX2_copyFrom_71 : decode cX2_copyFrom 71 = .ok (.aload_n 1, 1) := by decide +kernel
theorem dX2_copyFrom_72 : decode cX2_copyFrom 72 = .ok (.getfield 34, 3) := by decide +kernel
theorem dX2_copyFrom_75 : decode cX2_copyFrom 75 = .ok (.aload_n 0, 1) := by decide +kernel
theorem dX2_copyFrom_76 : decode cX2_copyFrom 76 = .ok (.getfield 34, 3) := by decide +kernel
theorem dX2_copyFrom_79 : decode cX2_copyFrom 79 = .ok (.bipush 7, 2) := by decide +kernel
theorem dX2_copyFrom_81 : decode cX2_copyFrom 81 = .ok (.invokestatic 58, 3) := by decide +kernel
theorem dX2_copyFrom_84 : decode cX2_copyFrom 84 = .ok (.aload_n 1, 1) := by decide +kernel
theorem dX2_copyFrom_85 : decode cX2_copyFrom 85 = .ok (.getfield 37, 3) := by decide +kernel
theorem dX2_copyFrom_88 : decode cX2_copyFrom 88 = .ok (.aload_n 0, 1) := by decide +kernel
theorem dX2_copyFrom_89 : decode cX2_copyFrom 89 = .ok (.getfield 37, 3) := by decide +kernel
theorem dX2_copyFrom_92 : decode cX2_copyFrom 92 = .ok (.bipush 84, 2) := by decide +kernel
theorem dX2_copyFrom_94 : decode cX2_copyFrom 94 = .ok (.invokestatic 58, 3) := by decide +kernel
theorem dX2_copyFrom_97 : decode cX2_copyFrom 97 = .ok (.aload_n 1, 1) := by decide +kernel
theorem dX2_copyFrom_98 : decode cX2_copyFrom 98 = .ok (.getfield 40, 3) := by decide +kernel
theorem dX2_copyFrom_101 : decode cX2_copyFrom 101 = .ok (.aload_n 0, 1) := by decide +kernel
theorem dX2_copyFrom_102 : decode cX2_copyFrom 102 = .ok (.getfield 40, 3) := by decide +kernel
theorem dX2_copyFrom_105 : decode cX2_copyFrom 105 = .ok (.bipush 84, 2) := by decide +kernel
theorem dX2_copyFrom_107 : decode cX2_copyFrom 107 = .ok (.invokestatic 58, 3) := by decide +kernel
theorem dX2_copyFrom_110 : decode cX2_copyFrom 110 = .ok (.aload_n 1, 1) := by decide +kernel
theorem dX2_copyFrom_111 : decode cX2_copyFrom 111 = .ok (.getfield 43, 3) := by decide +kernel
theorem dX2_copyFrom_114 : decode cX2_copyFrom 114 = .ok (.aload_n 0, 1) := by decide +kernel
theorem dX2_copyFrom_115 : decode cX2_copyFrom 115 = .ok (.getfield 43, 3) := by decide +kernel
theorem dX2_copyFrom_118 : decode cX2_copyFrom 118 = .ok (.bipush 84, 2) := by decide +kernel
theorem dX2_copyFrom_120 : decode cX2_copyFrom 120 = .ok (.invokestatic 58, 3) := by decide +kernel
theorem dX2_copyFrom_123 : decode cX2_copyFrom 123 = .ok (.aload_n 1, 1) := by decide +kernel
theorem dX2_copyFrom_124 : decode cX2_copyFrom 124 = .ok (.getfield 46, 3) := by decide +kernel
theorem dX2_copyFrom_127 : decode cX2_copyFrom 127 = .ok (.aload_n 0, 1) := by decide +kernel
theorem dX2_copyFrom_128 : decode cX2_copyFrom 128 = .ok (.getfield 46, 3) := by decide +kernel
theorem dX2_copyFrom_131 : decode cX2_copyFrom 131 = .ok (.bipush 84, 2) := by decide +kernel
theorem dX2_copyFrom_133 : decode cX2_copyFrom 133 = .ok (.invokestatic 58, 3) := by decide +kernel
theorem dX2_copyFrom_136 : decode cX2_copyFrom 136 = .ok (.aload_n 1, 1) := by decide +kernel
theorem dX2_copyFrom_137 : decode cX2_copyFrom 137 = .ok (.getfield 49, 3) := by decide +kernel
theorem dX2_copyFrom_140 : decode cX2_copyFrom 140 = .ok (.aload_n 0, 1) := by decide +kernel
theorem dX2_copyFrom_141 : decode cX2_copyFrom 141 = .ok (.getfield 49, 3) := by decide +kernel
theorem dX2_copyFrom_144 : decode cX2_copyFrom 144 = .ok (.bipush 84, 2) := by decide +kernel
theorem dX2_copyFrom_146 : decode cX2_copyFrom 146 = .ok (.invokestatic 58, 3) := by decide +kernel
theorem dX2_copyFrom_149 : decode cX2_copyFrom 149 = .ok (.aload_n 1, 1) := by decide +kernel
theorem dX2_copyFrom_150 : decode cX2_copyFrom 150 = .ok (.getfield 52, 3) := by decide +kernel
theorem dX2_copyFrom_153 : decode cX2_copyFrom 153 = .ok (.aload_n 0, 1) := by decide +kernel
theorem dX2_copyFrom_154 : decode cX2_copyFrom 154 = .ok (.getfield 52, 3) := by decide +kernel
theorem dX2_copyFrom_157 : decode cX2_copyFrom 157 = .ok (.bipush 84, 2) := by decide +kernel
theorem dX2_copyFrom_159 : decode cX2_copyFrom 159 = .ok (.invokestatic 58, 3) := by decide +kernel
theorem dX2_copyFrom_162 : decode cX2_copyFrom 162 = .ok (.aload_n 1, 1) := by decide +kernel
theorem dX2_copyFrom_163 : decode cX2_copyFrom 163 = .ok (.getfield 55, 3) := by decide +kernel
theorem dX2_copyFrom_166 : decode cX2_copyFrom 166 = .ok (.aload_n 0, 1) := by decide +kernel
theorem dX2_copyFrom_167 : decode cX2_copyFrom 167 = .ok (.getfield 55, 3) := by decide +kernel
theorem dX2_copyFrom_170 : decode cX2_copyFrom 170 = .ok (.bipush 12, 2) := by decide +kernel
theorem dX2_copyFrom_172 : decode cX2_copyFrom 172 = .ok (.invokestatic 58, 3) := by decide +kernel
theorem dX2_copyFrom_175 : decode cX2_copyFrom 175 = .ok (.return_, 1) := by decide +kernel
theorem dX2_copyRow_0 : decode cX2_copyRow 0 = .ok (.aload_n 0, 1) := by decide +kernel
theorem dX2_copyRow_1 : decode cX2_copyRow 1 = .ok (.iconst 0, 1) := by decide +kernel
theorem dX2_copyRow_2 : decode cX2_copyRow 2 = .ok (.aload_n 1, 1) := by decide +kernel
theorem dX2_copyRow_3 : decode cX2_copyRow 3 = .ok (.iconst 0, 1) := by decide +kernel
theorem dX2_copyRow_4 : decode cX2_copyRow 4 = .ok (.iload_n 2, 1) := by decide +kernel
theorem dX2_copyRow_5 : decode cX2_copyRow 5 = .ok (.invokestatic 62, 3) := by decide +kernel
theorem dX2_copyRow_8 : decode cX2_copyRow 8 = .ok (.return_, 1) := by decide +kernel
theorem dX2_has_0 : decode cX2_has 0 = .ok (.iload_n 1, 1) := by decide +kernel
theorem dX2_has_1 : decode cX2_has 1 = .ok (.ifCond .lt 15, 3) := by decide +kernel
theorem dX2_has_4 : decode cX2_has 4 = .ok (.iload_n 1, 1) := by decide +kernel
theorem dX2_has_5 : decode cX2_has 5 = .ok (.aload_n 0, 1) := by decide +kernel
theorem dX2_has_6 : decode cX2_has 6 = .ok (.getfield 9, 3) := by decide +kernel
theorem dX2_has_9 : decode cX2_has 9 = .ok (.if_icmp .ge 7, 3) := by decide +kernel
theorem dX2_has_12 : decode cX2_has 12 = .ok (.iconst 1, 1) := by decide +kernel
theorem dX2_has_13 : decode cX2_has 13 = .ok (.goto 4, 3) := by decide +kernel
theorem dX2_has_16 : decode cX2_has 16 = .ok (.iconst 0, 1) := by decide +kernel
theorem dX2_has_17 : decode cX2_has 17 = .ok (.ireturn, 1) := by decide +kernel
theorem dX2_areTwo_0 : decode cX2_areTwo 0 = .ok (.aload_n 0, 1) := by decide +kernel
theorem dX2_areTwo_1 : decode cX2_areTwo 1 = .ok (.iload_n 1, 1) := by decide +kernel
theorem dX2_areTwo_2 : decode cX2_areTwo 2 = .ok (.invokevirtual 68, 3) := by decide +kernel
theorem dX2_areTwo_5 : decode cX2_areTwo 5 = .ok (.ifCond .eq 20, 3) := by decide +kernel
theorem dX2_areTwo_8 : decode cX2_areTwo 8 = .ok (.aload_n 0, 1) := by decide +kernel
theorem dX2_areTwo_9 : decode cX2_areTwo 9 = .ok (.iload_n 2, 1) := by decide +kernel
theorem dX2_areTwo_10 : decode cX2_areTwo 10 = .ok (.invokevirtual 68, 3) := by decide +kernel
theorem dX2_areTwo_13 : decode cX2_areTwo 13 = .ok (.ifCond .eq 12, 3) := by decide +kernel
theorem dX2_areTwo_16 : decode cX2_areTwo 16 = .ok (.iload_n 1, 1) := by decide +kernel
theorem dX2_areTwo_17 : decode cX2_areTwo 17 = .ok (.iload_n 2, 1) := by decide +kernel
theorem dX2_areTwo_18 : decode cX2_areTwo 18 = .ok (.if_icmp .eq 7, 3) := by decide +kernel
theorem dX2_areTwo_21 : decode cX2_areTwo 21 = .ok (.iconst 1, 1) := by decide +kernel
theorem dX2_areTwo_22 : decode cX2_areTwo 22 = .ok (.goto 4, 3) := by decide +kernel
theorem dX2_areTwo_25 : decode cX2_areTwo 25 = .ok (.iconst 0, 1) := by decide +kernel
theorem dX2_areTwo_26 : decode cX2_areTwo 26 = .ok (.ireturn, 1) := by decide +kernel
theorem dX2_isAwake_0 : decode cX2_isAwake 0 = .ok (.aload_n 0, 1) := by decide +kernel
theorem dX2_isAwake_1 : decode cX2_isAwake 1 = .ok (.iload_n 1, 1) := by decide +kernel
theorem dX2_isAwake_2 : decode cX2_isAwake 2 = .ok (.invokevirtual 68, 3) := by decide +kernel
theorem dX2_isAwake_5 : decode cX2_isAwake 5 = .ok (.ifCond .eq 16, 3) := by decide +kernel
theorem dX2_isAwake_8 : decode cX2_isAwake 8 = .ok (.aload_n 0, 1) := by decide +kernel
theorem dX2_isAwake_9 : decode cX2_isAwake 9 = .ok (.getfield 24, 3) := by decide +kernel
theorem dX2_isAwake_12 : decode cX2_isAwake 12 = .ok (.iload_n 1, 1) := by decide +kernel
theorem dX2_isAwake_13 : decode cX2_isAwake 13 = .ok (.iaload, 1) := by decide +kernel
theorem dX2_isAwake_14 : decode cX2_isAwake 14 = .ok (.ifCond .ne 7, 3) := by decide +kernel
theorem dX2_isAwake_17 : decode cX2_isAwake 17 = .ok (.iconst 1, 1) := by decide +kernel
theorem dX2_isAwake_18 : decode cX2_isAwake 18 = .ok (.goto 4, 3) := by decide +kernel
theorem dX2_isAwake_21 : decode cX2_isAwake 21 = .ok (.iconst 0, 1) := by decide +kernel
theorem dX2_isAwake_22 : decode cX2_isAwake 22 = .ok (.ireturn, 1) := by decide +kernel
theorem dX2_isAsleep_0 : decode cX2_isAsleep 0 = .ok (.aload_n 0, 1) := by decide +kernel
theorem dX2_isAsleep_1 : decode cX2_isAsleep 1 = .ok (.iload_n 1, 1) := by decide +kernel
theorem dX2_isAsleep_2 : decode cX2_isAsleep 2 = .ok (.invokevirtual 68, 3) := by decide +kernel
theorem dX2_isAsleep_5 : decode cX2_isAsleep 5 = .ok (.ifCond .eq 17, 3) := by decide +kernel
theorem dX2_isAsleep_8 : decode cX2_isAsleep 8 = .ok (.aload_n 0, 1) := by decide +kernel
theorem dX2_isAsleep_9 : decode cX2_isAsleep 9 = .ok (.getfield 24, 3) := by decide +kernel
theorem dX2_isAsleep_12 : decode cX2_isAsleep 12 = .ok (.iload_n 1, 1) := by decide +kernel
theorem dX2_isAsleep_13 : decode cX2_isAsleep 13 = .ok (.iaload, 1) := by decide +kernel
theorem dX2_isAsleep_14 : decode cX2_isAsleep 14 = .ok (.iconst 1, 1) := by decide +kernel
theorem dX2_isAsleep_15 : decode cX2_isAsleep 15 = .ok (.if_icmp .ne 7, 3) := by decide +kernel
theorem dX2_isAsleep_18 : decode cX2_isAsleep 18 = .ok (.iconst 1, 1) := by decide +kernel
theorem dX2_isAsleep_19 : decode cX2_isAsleep 19 = .ok (.goto 4, 3) := by decide +kernel
theorem dX2_isAsleep_22 : decode cX2_isAsleep 22 = .ok (.iconst 0, 1) := by decide +kernel
theorem dX2_isAsleep_23 : decode cX2_isAsleep 23 = .ok (.ireturn, 1) := by decide +kernel
theorem dX2_ticksAsleep_0 : decode cX2_ticksAsleep 0 = .ok (.aload_n 0, 1) := by decide +kernel
theorem dX2_ticksAsleep_1 : decode cX2_ticksAsleep 1 = .ok (.getfield 15, 3) := by decide +kernel
theorem dX2_ticksAsleep_4 : decode cX2_ticksAsleep 4 = .ok (.aload_n 0, 1) := by decide +kernel
theorem dX2_ticksAsleep_5 : decode cX2_ticksAsleep 5 = .ok (.getfield 31, 3) := by decide +kernel
theorem dX2_ticksAsleep_8 : decode cX2_ticksAsleep 8 = .ok (.iload_n 1, 1) := by decide +kernel
theorem dX2_ticksAsleep_9 : decode cX2_ticksAsleep 9 = .ok (.iaload, 1) := by decide +kernel
theorem dX2_ticksAsleep_10 : decode cX2_ticksAsleep 10 = .ok (.isub, 1) := by decide +kernel
theorem dX2_ticksAsleep_11 : decode cX2_ticksAsleep 11 = .ok (.ireturn, 1) := by decide +kernel
theorem dX2_howMany_0 : decode cX2_howMany 0 = .ok (.iconst 0, 1) := by decide +kernel
theorem dX2_howMany_1 : decode cX2_howMany 1 = .ok (.istore_n 2, 1) := by decide +kernel
theorem dX2_howMany_2 : decode cX2_howMany 2 = .ok (.iconst 0, 1) := by decide +kernel
theorem dX2_howMany_3 : decode cX2_howMany 3 = .ok (.istore_n 3, 1) := by decide +kernel
theorem dX2_howMany_4 : decode cX2_howMany 4 = .ok (.iload_n 3, 1) := by decide +kernel
theorem dX2_howMany_5 : decode cX2_howMany 5 = .ok (.aload_n 0, 1) := by decide +kernel
theorem dX2_howMany_6 : decode cX2_howMany 6 = .ok (.getfield 9, 3) := by decide +kernel
theorem dX2_howMany_9 : decode cX2_howMany 9 = .ok (.if_icmp .ge 22, 3) := by decide +kernel
theorem dX2_howMany_12 : decode cX2_howMany 12 = .ok (.aload_n 0, 1) := by decide +kernel
theorem dX2_howMany_13 : decode cX2_howMany 13 = .ok (.getfield 24, 3) := by decide +kernel
theorem dX2_howMany_16 : decode cX2_howMany 16 = .ok (.iload_n 3, 1) := by decide +kernel
theorem dX2_howMany_17 : decode cX2_howMany 17 = .ok (.iaload, 1) := by decide +kernel
theorem dX2_howMany_18 : decode cX2_howMany 18 = .ok (.iload_n 1, 1) := by decide +kernel
theorem dX2_howMany_19 : decode cX2_howMany 19 = .ok (.if_icmp .ne 6, 3) := by decide +kernel
theorem dX2_howMany_22 : decode cX2_howMany 22 = .ok (.iinc 2 1, 3) := by decide +kernel
theorem dX2_howMany_25 : decode cX2_howMany 25 = .ok (.iinc 3 1, 3) := by decide +kernel
theorem dX2_howMany_28 : decode cX2_howMany 28 = .ok (.goto (-24), 3) := by decide +kernel
theorem dX2_howMany_31 : decode cX2_howMany 31 = .ok (.iload_n 2, 1) := by decide +kernel
theorem dX2_howMany_32 : decode cX2_howMany 32 = .ok (.ireturn, 1) := by decide +kernel
theorem dX2_allGhosts_0 : decode cX2_allGhosts 0 = .ok (.iconst 0, 1) := by decide +kernel
theorem dX2_allGhosts_1 : decode cX2_allGhosts 1 = .ok (.istore_n 1, 1) := by decide +kernel
theorem dX2_allGhosts_2 : decode cX2_allGhosts 2 = .ok (.iconst 0, 1) := by decide +kernel
theorem dX2_allGhosts_3 : decode cX2_allGhosts 3 = .ok (.istore_n 2, 1) := by decide +kernel
theorem dX2_allGhosts_4 : decode cX2_allGhosts 4 = .ok (.iload_n 2, 1) := by decide +kernel
theorem dX2_allGhosts_5 : decode cX2_allGhosts 5 = .ok (.aload_n 0, 1) := by decide +kernel
theorem dX2_allGhosts_6 : decode cX2_allGhosts 6 = .ok (.getfield 9, 3) := by decide +kernel
theorem dX2_allGhosts_9 : decode cX2_allGhosts 9 = .ok (.if_icmp .ge 18, 3) := by decide +kernel
theorem dX2_allGhosts_12 : decode cX2_allGhosts 12 = .ok (.iload_n 1, 1) := by decide +kernel
theorem dX2_allGhosts_13 : decode cX2_allGhosts 13 = .ok (.aload_n 0, 1) := by decide +kernel
theorem dX2_allGhosts_14 : decode cX2_allGhosts 14 = .ok (.getfield 34, 3) := by decide +kernel
theorem dX2_allGhosts_17 : decode cX2_allGhosts 17 = .ok (.iload_n 2, 1) := by decide +kernel
theorem dX2_allGhosts_18 : decode cX2_allGhosts 18 = .ok (.iaload, 1) := by decide +kernel
theorem dX2_allGhosts_19 : decode cX2_allGhosts 19 = .ok (.iadd, 1) := by decide +kernel
theorem dX2_allGhosts_20 : decode cX2_allGhosts 20 = .ok (.istore_n 1, 1) := by decide +kernel
theorem dX2_allGhosts_21 : decode cX2_allGhosts 21 = .ok (.iinc 2 1, 3) := by decide +kernel
theorem dX2_allGhosts_24 : decode cX2_allGhosts 24 = .ok (.goto (-20), 3) := by decide +kernel
theorem dX2_allGhosts_27 : decode cX2_allGhosts 27 = .ok (.iload_n 1, 1) := by decide +kernel
theorem dX2_allGhosts_28 : decode cX2_allGhosts 28 = .ok (.ireturn, 1) := by decide +kernel
theorem dX2_addVillager_0 : decode cX2_addVillager 0 = .ok (.aload_n 0, 1) := by decide +kernel
theorem dX2_addVillager_1 : decode cX2_addVillager 1 = .ok (.getfield 9, 3) := by decide +kernel
theorem dX2_addVillager_4 : decode cX2_addVillager 4 = .ok (.bipush 7, 2) := by decide +kernel
theorem dX2_addVillager_6 : decode cX2_addVillager 6 = .ok (.if_icmp .lt 6, 3) := by decide +kernel
theorem dX2_addVillager_9 : decode cX2_addVillager 9 = .ok (.ldc 72, 2) := by decide +kernel
theorem dX2_addVillager_11 : decode cX2_addVillager 11 = .ok (.ireturn, 1) := by decide +kernel
theorem dX2_addVillager_12 : decode cX2_addVillager 12 = .ok (.aload_n 0, 1) := by decide +kernel
theorem dX2_addVillager_13 : decode cX2_addVillager 13 = .ok (.dup, 1) := by decide +kernel
theorem dX2_addVillager_14 : decode cX2_addVillager 14 = .ok (.getfield 9, 3) := by decide +kernel
theorem dX2_addVillager_17 : decode cX2_addVillager 17 = .ok (.iconst 1, 1) := by decide +kernel
theorem dX2_addVillager_18 : decode cX2_addVillager 18 = .ok (.iadd, 1) := by decide +kernel
theorem dX2_addVillager_19 : decode cX2_addVillager 19 = .ok (.putfield 9, 3) := by decide +kernel
theorem dX2_addVillager_22 : decode cX2_addVillager 22 = .ok (.aload_n 0, 1) := by decide +kernel
theorem dX2_addVillager_23 : decode cX2_addVillager 23 = .ok (.getfield 9, 3) := by decide +kernel
theorem dX2_addVillager_26 : decode cX2_addVillager 26 = .ok (.iconst 1, 1) := by decide +kernel
theorem dX2_addVillager_27 : decode cX2_addVillager 27 = .ok (.isub, 1) := by decide +kernel
theorem dX2_addVillager_28 : decode cX2_addVillager 28 = .ok (.ireturn, 1) := by decide +kernel
theorem dX2_fallAsleep_0 : decode cX2_fallAsleep 0 = .ok (.aload_n 0, 1) := by decide +kernel
theorem dX2_fallAsleep_1 : decode cX2_fallAsleep 1 = .ok (.iload_n 1, 1) := by decide +kernel
theorem dX2_fallAsleep_2 : decode cX2_fallAsleep 2 = .ok (.invokevirtual 68, 3) := by decide +kernel
theorem dX2_fallAsleep_5 : decode cX2_fallAsleep 5 = .ok (.ifCond .ne 6, 3) := by decide +kernel
theorem dX2_fallAsleep_8 : decode cX2_fallAsleep 8 = .ok (.ldc 73, 2) := by decide +kernel
theorem dX2_fallAsleep_10 : decode cX2_fallAsleep 10 = .ok (.ireturn, 1) := by decide +kernel
theorem dX2_fallAsleep_11 : decode cX2_fallAsleep 11 = .ok (.aload_n 0, 1) := by decide +kernel
theorem dX2_fallAsleep_12 : decode cX2_fallAsleep 12 = .ok (.iload_n 1, 1) := by decide +kernel
theorem dX2_fallAsleep_13 : decode cX2_fallAsleep 13 = .ok (.invokevirtual 74, 3) := by decide +kernel
theorem dX2_fallAsleep_16 : decode cX2_fallAsleep 16 = .ok (.ifCond .ne 6, 3) := by decide +kernel
theorem dX2_fallAsleep_19 : decode cX2_fallAsleep 19 = .ok (.ldc 77, 2) := by decide +kernel
theorem dX2_fallAsleep_21 : decode cX2_fallAsleep 21 = .ok (.ireturn, 1) := by decide +kernel
theorem dX2_fallAsleep_22 : decode cX2_fallAsleep 22 = .ok (.aload_n 0, 1) := by decide +kernel
theorem dX2_fallAsleep_23 : decode cX2_fallAsleep 23 = .ok (.getfield 24, 3) := by decide +kernel
theorem dX2_fallAsleep_26 : decode cX2_fallAsleep 26 = .ok (.iload_n 1, 1) := by decide +kernel
theorem dX2_fallAsleep_27 : decode cX2_fallAsleep 27 = .ok (.iconst 1, 1) := by decide +kernel
theorem dX2_fallAsleep_28 : decode cX2_fallAsleep 28 = .ok (.iastore, 1) := by decide +kernel
theorem dX2_fallAsleep_29 : decode cX2_fallAsleep 29 = .ok (.aload_n 0, 1) := by decide +kernel
theorem dX2_fallAsleep_30 : decode cX2_fallAsleep 30 = .ok (.getfield 31, 3) := by decide +kernel
theorem dX2_fallAsleep_33 : decode cX2_fallAsleep 33 = .ok (.iload_n 1, 1) := by decide +kernel
theorem dX2_fallAsleep_34 : decode cX2_fallAsleep 34 = .ok (.aload_n 0, 1) := by decide +kernel
theorem dX2_fallAsleep_35 : decode cX2_fallAsleep 35 = .ok (.getfield 15, 3) := by decide +kernel
theorem dX2_fallAsleep_38 : decode cX2_fallAsleep 38 = .ok (.iastore, 1) := by decide +kernel
theorem dX2_fallAsleep_39 : decode cX2_fallAsleep 39 = .ok (.aload_n 0, 1) := by decide +kernel
theorem dX2_fallAsleep_40 : decode cX2_fallAsleep 40 = .ok (.iconst 0, 1) := by decide +kernel
theorem dX2_fallAsleep_41 : decode cX2_fallAsleep 41 = .ok (.invokevirtual 78, 3) := by decide +kernel
theorem dX2_fallAsleep_44 : decode cX2_fallAsleep 44 = .ok (.ireturn, 1) := by decide +kernel
theorem dX2_wakeUp_0 : decode cX2_wakeUp 0 = .ok (.aload_n 0, 1) := by decide +kernel
theorem dX2_wakeUp_1 : decode cX2_wakeUp 1 = .ok (.iload_n 1, 1) := by decide +kernel
theorem dX2_wakeUp_2 : decode cX2_wakeUp 2 = .ok (.invokevirtual 68, 3) := by decide +kernel
theorem dX2_wakeUp_5 : decode cX2_wakeUp 5 = .ok (.ifCond .ne 6, 3) := by decide +kernel
theorem dX2_wakeUp_8 : decode cX2_wakeUp 8 = .ok (.ldc 73, 2) := by decide +kernel
theorem dX2_wakeUp_10 : decode cX2_wakeUp 10 = .ok (.ireturn, 1) := by decide +kernel
theorem dX2_wakeUp_11 : decode cX2_wakeUp 11 = .ok (.aload_n 0, 1) := by decide +kernel
theorem dX2_wakeUp_12 : decode cX2_wakeUp 12 = .ok (.iload_n 1, 1) := by decide +kernel
theorem dX2_wakeUp_13 : decode cX2_wakeUp 13 = .ok (.invokevirtual 82, 3) := by decide +kernel
theorem dX2_wakeUp_16 : decode cX2_wakeUp 16 = .ok (.ifCond .ne 6, 3) := by decide +kernel
theorem dX2_wakeUp_19 : decode cX2_wakeUp 19 = .ok (.ldc 77, 2) := by decide +kernel
theorem dX2_wakeUp_21 : decode cX2_wakeUp 21 = .ok (.ireturn, 1) := by decide +kernel
theorem dX2_wakeUp_22 : decode cX2_wakeUp 22 = .ok (.aload_n 0, 1) := by decide +kernel
theorem dX2_wakeUp_23 : decode cX2_wakeUp 23 = .ok (.getfield 24, 3) := by decide +kernel
theorem dX2_wakeUp_26 : decode cX2_wakeUp 26 = .ok (.iload_n 1, 1) := by decide +kernel
theorem dX2_wakeUp_27 : decode cX2_wakeUp 27 = .ok (.iconst 0, 1) := by decide +kernel
theorem dX2_wakeUp_28 : decode cX2_wakeUp 28 = .ok (.iastore, 1) := by decide +kernel
theorem dX2_wakeUp_29 : decode cX2_wakeUp 29 = .ok (.aload_n 0, 1) := by decide +kernel
theorem dX2_wakeUp_30 : decode cX2_wakeUp 30 = .ok (.iload_n 1, 1) := by decide +kernel
theorem dX2_wakeUp_31 : decode cX2_wakeUp 31 = .ok (.invokevirtual 85, 3) := by decide +kernel
theorem dX2_wakeUp_34 : decode cX2_wakeUp 34 = .ok (.ireturn, 1) := by decide +kernel
theorem dX2_goAway_0 : decode cX2_goAway 0 = .ok (.aload_n 0, 1) := by decide +kernel
theorem dX2_goAway_1 : decode cX2_goAway 1 = .ok (.iload_n 1, 1) := by decide +kernel
theorem dX2_goAway_2 : decode cX2_goAway 2 = .ok (.invokevirtual 68, 3) := by decide +kernel
theorem dX2_goAway_5 : decode cX2_goAway 5 = .ok (.ifCond .ne 6, 3) := by decide +kernel
theorem dX2_goAway_8 : decode cX2_goAway 8 = .ok (.ldc 73, 2) := by decide +kernel
theorem dX2_goAway_10 : decode cX2_goAway 10 = .ok (.ireturn, 1) := by decide +kernel
theorem dX2_goAway_11 : decode cX2_goAway 11 = .ok (.aload_n 0, 1) := by decide +kernel
theorem dX2_goAway_12 : decode cX2_goAway 12 = .ok (.getfield 24, 3) := by decide +kernel
theorem dX2_goAway_15 : decode cX2_goAway 15 = .ok (.iload_n 1, 1) := by decide +kernel
theorem dX2_goAway_16 : decode cX2_goAway 16 = .ok (.iaload, 1) := by decide +kernel
theorem dX2_goAway_17 : decode cX2_goAway 17 = .ok (.iconst 2, 1) := by decide +kernel
theorem dX2_goAway_18 : decode cX2_goAway 18 = .ok (.if_icmp .ne 6, 3) := by decide +kernel
theorem dX2_goAway_21 : decode cX2_goAway 21 = .ok (.ldc 77, 2) := by decide +kernel
theorem dX2_goAway_23 : decode cX2_goAway 23 = .ok (.ireturn, 1) := by decide +kernel
theorem dX2_goAway_24 : decode cX2_goAway 24 = .ok (.aload_n 0, 1) := by decide +kernel
theorem dX2_goAway_25 : decode cX2_goAway 25 = .ok (.getfield 24, 3) := by decide +kernel
theorem dX2_goAway_28 : decode cX2_goAway 28 = .ok (.iload_n 1, 1) := by decide +kernel
theorem dX2_goAway_29 : decode cX2_goAway 29 = .ok (.iconst 2, 1) := by decide +kernel
theorem dX2_goAway_30 : decode cX2_goAway 30 = .ok (.iastore, 1) := by decide +kernel
theorem dX2_goAway_31 : decode cX2_goAway 31 = .ok (.iconst 0, 1) := by decide +kernel
theorem dX2_goAway_32 : decode cX2_goAway 32 = .ok (.istore_n 2, 1) := by decide +kernel
theorem dX2_goAway_33 : decode cX2_goAway 33 = .ok (.iload_n 2, 1) := by decide +kernel
theorem dX2_goAway_34 : decode cX2_goAway 34 = .ok (.bipush 12, 2) := by decide +kernel
theorem dX2_goAway_36 : decode cX2_goAway 36 = .ok (.if_icmp .ge 20, 3) := by decide +kernel
theorem dX2_goAway_39 : decode cX2_goAway 39 = .ok (.aload_n 0, 1) := by decide +kernel
theorem dX2_goAway_40 : decode cX2_goAway 40 = .ok (.getfield 37, 3) := by decide +kernel
theorem dX2_goAway_43 : decode cX2_goAway 43 = .ok (.iload_n 1, 1) := by decide +kernel
theorem dX2_goAway_44 : decode cX2_goAway 44 = .ok (.iload_n 2, 1) := by decide +kernel
theorem dX2_goAway_45 : decode cX2_goAway 45 = .ok (.invokestatic 88, 3) := by decide +kernel
theorem dX2_goAway_48 : decode cX2_goAway 48 = .ok (.iconst 0, 1) := by decide +kernel
theorem dX2_goAway_49 : decode cX2_goAway 49 = .ok (.iastore, 1) := by decide +kernel
theorem dX2_goAway_50 : decode cX2_goAway 50 = .ok (.iinc 2 1, 3) := by decide +kernel
theorem dX2_goAway_53 : decode cX2_goAway 53 = .ok (.goto (-20), 3) := by decide +kernel
theorem dX2_goAway_56 : decode cX2_goAway 56 = .ok (.aload_n 0, 1) := by decide +kernel
theorem dX2_goAway_57 : decode cX2_goAway 57 = .ok (.iconst 0, 1) := by decide +kernel
theorem dX2_goAway_58 : decode cX2_goAway 58 = .ok (.invokevirtual 78, 3) := by decide +kernel
theorem dX2_goAway_61 : decode cX2_goAway 61 = .ok (.aload_n 0, 1) := by decide +kernel
theorem dX2_goAway_62 : decode cX2_goAway 62 = .ok (.iconst 1, 1) := by decide +kernel
theorem dX2_goAway_63 : decode cX2_goAway 63 = .ok (.invokevirtual 78, 3) := by decide +kernel
theorem dX2_goAway_66 : decode cX2_goAway 66 = .ok (.iadd, 1) := by decide +kernel
theorem dX2_goAway_67 : decode cX2_goAway 67 = .ok (.ireturn, 1) := by decide +kernel
theorem dX2_changeWatch_0 : decode cX2_changeWatch 0 = .ok (.iload_n 1, 1) := by decide +kernel
theorem dX2_changeWatch_1 : decode cX2_changeWatch 1 = .ok (.iconst 1, 1) := by decide +kernel
theorem dX2_changeWatch_2 : decode cX2_changeWatch 2 = .ok (.if_icmp .lt 9, 3) := by decide +kernel
theorem dX2_changeWatch_5 : decode cX2_changeWatch 5 = .ok (.iload_n 1, 1) := by decide +kernel
theorem dX2_changeWatch_6 : decode cX2_changeWatch 6 = .ok (.bipush 60, 2) := by decide +kernel
theorem dX2_changeWatch_8 : decode cX2_changeWatch 8 = .ok (.if_icmp .le 6, 3) := by decide +kernel
theorem dX2_changeWatch_11 : decode cX2_changeWatch 11 = .ok (.ldc 73, 2) := by decide +kernel
theorem dX2_changeWatch_13 : decode cX2_changeWatch 13 = .ok (.ireturn, 1) := by decide +kernel
theorem dX2_changeWatch_14 : decode cX2_changeWatch 14 = .ok (.aload_n 0, 1) := by decide +kernel
theorem dX2_changeWatch_15 : decode cX2_changeWatch 15 = .ok (.getfield 18, 3) := by decide +kernel
theorem dX2_changeWatch_18 : decode cX2_changeWatch 18 = .ok (.istore_n 2, 1) := by decide +kernel
theorem dX2_changeWatch_19 : decode cX2_changeWatch 19 = .ok (.aload_n 0, 1) := by decide +kernel
theorem dX2_changeWatch_20 : decode cX2_changeWatch 20 = .ok (.iload_n 1, 1) := by decide +kernel
theorem dX2_changeWatch_21 : decode cX2_changeWatch 21 = .ok (.putfield 18, 3) := by decide +kernel
theorem dX2_changeWatch_24 : decode cX2_changeWatch 24 = .ok (.iload_n 2, 1) := by decide +kernel
theorem dX2_changeWatch_25 : decode cX2_changeWatch 25 = .ok (.ireturn, 1) := by decide +kernel
theorem dX2_isTomb_0 : decode cX2_isTomb 0 = .ok (.aload_n 0, 1) := by decide +kernel
theorem dX2_isTomb_1 : decode cX2_isTomb 1 = .ok (.getfield 37, 3) := by decide +kernel
theorem dX2_isTomb_4 : decode cX2_isTomb 4 = .ok (.iload_n 1, 1) := by decide +kernel
theorem dX2_isTomb_5 : decode cX2_isTomb 5 = .ok (.iaload, 1) := by decide +kernel
theorem dX2_isTomb_6 : decode cX2_isTomb 6 = .ok (.ifCond .eq 17, 3) := by decide +kernel
theorem dX2_isTomb_9 : decode cX2_isTomb 9 = .ok (.aload_n 0, 1) := by decide +kernel
theorem dX2_isTomb_10 : decode cX2_isTomb 10 = .ok (.getfield 40, 3) := by decide +kernel
theorem dX2_isTomb_13 : decode cX2_isTomb 13 = .ok (.iload_n 1, 1) := by decide +kernel
theorem dX2_isTomb_14 : decode cX2_isTomb 14 = .ok (.iaload, 1) := by decide +kernel
theorem dX2_isTomb_15 : decode cX2_isTomb 15 = .ok (.iconst 3, 1) := by decide +kernel
theorem dX2_isTomb_16 : decode cX2_isTomb 16 = .ok (.if_icmp .ne 7, 3) := by decide +kernel
theorem dX2_isTomb_19 : decode cX2_isTomb 19 = .ok (.iconst 1, 1) := by decide +kernel
theorem dX2_isTomb_20 : decode cX2_isTomb 20 = .ok (.goto 4, 3) := by decide +kernel
theorem dX2_isTomb_23 : decode cX2_isTomb 23 = .ok (.iconst 0, 1) := by decide +kernel
theorem dX2_isTomb_24 : decode cX2_isTomb 24 = .ok (.ireturn, 1) := by decide +kernel
theorem dX2_isRumor_0 : decode cX2_isRumor 0 = .ok (.aload_n 0, 1) := by decide +kernel
theorem dX2_isRumor_1 : decode cX2_isRumor 1 = .ok (.getfield 37, 3) := by decide +kernel
theorem dX2_isRumor_4 : decode cX2_isRumor 4 = .ok (.iload_n 1, 1) := by decide +kernel
theorem dX2_isRumor_5 : decode cX2_isRumor 5 = .ok (.iaload, 1) := by decide +kernel
theorem dX2_isRumor_6 : decode cX2_isRumor 6 = .ok (.ifCond .eq 17, 3) := by decide +kernel
theorem dX2_isRumor_9 : decode cX2_isRumor 9 = .ok (.aload_n 0, 1) := by decide +kernel
theorem dX2_isRumor_10 : decode cX2_isRumor 10 = .ok (.getfield 40, 3) := by decide +kernel
theorem dX2_isRumor_13 : decode cX2_isRumor 13 = .ok (.iload_n 1, 1) := by decide +kernel
theorem dX2_isRumor_14 : decode cX2_isRumor 14 = .ok (.iaload, 1) := by decide +kernel
theorem dX2_isRumor_15 : decode cX2_isRumor 15 = .ok (.iconst 3, 1) := by decide +kernel
theorem dX2_isRumor_16 : decode cX2_isRumor 16 = .ok (.if_icmp .eq 7, 3) := by decide +kernel
theorem dX2_isRumor_19 : decode cX2_isRumor 19 = .ok (.iconst 1, 1) := by decide +kernel
theorem dX2_isRumor_20 : decode cX2_isRumor 20 = .ok (.goto 4, 3) := by decide +kernel
theorem dX2_isRumor_23 : decode cX2_isRumor 23 = .ok (.iconst 0, 1) := by decide +kernel
theorem dX2_isRumor_24 : decode cX2_isRumor 24 = .ok (.ireturn, 1) := by decide +kernel
theorem dX2_isDead_0 : decode cX2_isDead 0 = .ok (.iload_n 1, 1) := by decide +kernel
theorem dX2_isDead_1 : decode cX2_isDead 1 = .ok (.iload_n 2, 1) := by decide +kernel
theorem dX2_isDead_2 : decode cX2_isDead 2 = .ok (.invokestatic 88, 3) := by decide +kernel
theorem dX2_isDead_5 : decode cX2_isDead 5 = .ok (.istore_n 3, 1) := by decide +kernel
theorem dX2_isDead_6 : decode cX2_isDead 6 = .ok (.aload_n 0, 1) := by decide +kernel
theorem dX2_isDead_7 : decode cX2_isDead 7 = .ok (.iload_n 3, 1) := by decide +kernel
theorem dX2_isDead_8 : decode cX2_isDead 8 = .ok (.invokevirtual 92, 3) := by decide +kernel
theorem dX2_isDead_11 : decode cX2_isDead 11 = .ok (.ifCond .eq 22, 3) := by decide +kernel
theorem dX2_isDead_14 : decode cX2_isDead 14 = .ok (.aload_n 0, 1) := by decide +kernel
theorem dX2_isDead_15 : decode cX2_isDead 15 = .ok (.getfield 37, 3) := by decide +kernel
theorem dX2_isDead_18 : decode cX2_isDead 18 = .ok (.iload_n 3, 1) := by decide +kernel
theorem dX2_isDead_19 : decode cX2_isDead 19 = .ok (.iaload, 1) := by decide +kernel
theorem dX2_isDead_20 : decode cX2_isDead 20 = .ok (.aload_n 0, 1) := by decide +kernel
theorem dX2_isDead_21 : decode cX2_isDead 21 = .ok (.getfield 55, 3) := by decide +kernel
theorem dX2_isDead_24 : decode cX2_isDead 24 = .ok (.iload_n 2, 1) := by decide +kernel
theorem dX2_isDead_25 : decode cX2_isDead 25 = .ok (.iaload, 1) := by decide +kernel
theorem dX2_isDead_26 : decode cX2_isDead 26 = .ok (.if_icmp .ge 7, 3) := by decide +kernel
theorem dX2_isDead_29 : decode cX2_isDead 29 = .ok (.iconst 1, 1) := by decide +kernel
theorem dX2_isDead_30 : decode cX2_isDead 30 = .ok (.goto 4, 3) := by decide +kernel
theorem dX2_isDead_33 : decode cX2_isDead 33 = .ok (.iconst 0, 1) := by decide +kernel
theorem dX2_isDead_34 : decode cX2_isDead 34 = .ok (.ireturn, 1) := by decide +kernel
theorem dX2_author_0 : decode cX2_author 0 = .ok (.aload_n 0, 1) := by decide +kernel
theorem dX2_author_1 : decode cX2_author 1 = .ok (.getfield 37, 3) := by decide +kernel
theorem dX2_author_4 : decode cX2_author 4 = .ok (.iload_n 1, 1) := by decide +kernel
theorem dX2_author_5 : decode cX2_author 5 = .ok (.iaload, 1) := by decide +kernel
theorem dX2_author_6 : decode cX2_author 6 = .ok (.bipush 8, 2) := by decide +kernel
theorem dX2_author_8 : decode cX2_author 8 = .ok (.irem, 1) := by decide +kernel
theorem dX2_author_9 : decode cX2_author 9 = .ok (.ireturn, 1) := by decide +kernel
theorem dX2_rumorTopics_0 : decode cX2_rumorTopics 0 = .ok (.iconst 0, 1) := by decide +kernel
theorem dX2_rumorTopics_1 : decode cX2_rumorTopics 1 = .ok (.istore_n 2, 1) := by decide +kernel
theorem dX2_rumorTopics_2 : decode cX2_rumorTopics 2 = .ok (.iconst 0, 1) := by decide +kernel
theorem dX2_rumorTopics_3 : decode cX2_rumorTopics 3 = .ok (.istore_n 3, 1) := by decide +kernel
theorem dX2_rumorTopics_4 : decode cX2_rumorTopics 4 = .ok (.iload_n 3, 1) := by decide +kernel
theorem dX2_rumorTopics_5 : decode cX2_rumorTopics 5 = .ok (.bipush 12, 2) := by decide +kernel
theorem dX2_rumorTopics_7 : decode cX2_rumorTopics 7 = .ok (.if_icmp .ge 27, 3) := by decide +kernel
theorem dX2_rumorTopics_10 : decode cX2_rumorTopics 10 = .ok (.aload_n 0, 1) := by decide +kernel
theorem dX2_rumorTopics_11 : decode cX2_rumorTopics 11 = .ok (.iload_n 1, 1) := by decide +kernel
theorem dX2_rumorTopics_12 : decode cX2_rumorTopics 12 = .ok (.iload_n 3, 1) := by decide +kernel
theorem dX2_rumorTopics_13 : decode cX2_rumorTopics 13 = .ok (.invokestatic 88, 3) := by decide +kernel
theorem dX2_rumorTopics_16 : decode cX2_rumorTopics 16 = .ok (.invokevirtual 92, 3) := by decide +kernel
theorem dX2_rumorTopics_19 : decode cX2_rumorTopics 19 = .ok (.ifCond .eq 9, 3) := by decide +kernel
theorem dX2_rumorTopics_22 : decode cX2_rumorTopics 22 = .ok (.iload_n 2, 1) := by decide +kernel
theorem dX2_rumorTopics_23 : decode cX2_rumorTopics 23 = .ok (.iconst 1, 1) := by decide +kernel
theorem dX2_rumorTopics_24 : decode cX2_rumorTopics 24 = .ok (.iload_n 3, 1) := by decide +kernel
theorem dX2_rumorTopics_25 : decode cX2_rumorTopics 25 = .ok (.ishl, 1) := by decide +kernel
theorem dX2_rumorTopics_26 : decode cX2_rumorTopics 26 = .ok (.ior, 1) := by decide +kernel
theorem dX2_rumorTopics_27 : decode cX2_rumorTopics 27 = .ok (.istore_n 2, 1) := by decide +kernel
theorem dX2_rumorTopics_28 : decode cX2_rumorTopics 28 = .ok (.iinc 3 1, 3) := by decide +kernel
theorem dX2_rumorTopics_31 : decode cX2_rumorTopics 31 = .ok (.goto (-27), 3) := by decide +kernel
theorem dX2_rumorTopics_34 : decode cX2_rumorTopics 34 = .ok (.iload_n 2, 1) := by decide +kernel
theorem dX2_rumorTopics_35 : decode cX2_rumorTopics 35 = .ok (.ireturn, 1) := by decide +kernel
theorem dX2_tombTopics_0 : decode cX2_tombTopics 0 = .ok (.iconst 0, 1) := by decide +kernel
theorem dX2_tombTopics_1 : decode cX2_tombTopics 1 = .ok (.istore_n 2, 1) := by decide +kernel
theorem dX2_tombTopics_2 : decode cX2_tombTopics 2 = .ok (.iconst 0, 1) := by decide +kernel
theorem dX2_tombTopics_3 : decode cX2_tombTopics 3 = .ok (.istore_n 3, 1) := by decide +kernel
theorem dX2_tombTopics_4 : decode cX2_tombTopics 4 = .ok (.iload_n 3, 1) := by decide +kernel
theorem dX2_tombTopics_5 : decode cX2_tombTopics 5 = .ok (.bipush 12, 2) := by decide +kernel
theorem dX2_tombTopics_7 : decode cX2_tombTopics 7 = .ok (.if_icmp .ge 27, 3) := by decide +kernel
theorem dX2_tombTopics_10 : decode cX2_tombTopics 10 = .ok (.aload_n 0, 1) := by decide +kernel
theorem dX2_tombTopics_11 : decode cX2_tombTopics 11 = .ok (.iload_n 1, 1) := by decide +kernel
theorem dX2_tombTopics_12 : decode cX2_tombTopics 12 = .ok (.iload_n 3, 1) := by decide +kernel
theorem dX2_tombTopics_13 : decode cX2_tombTopics 13 = .ok (.invokestatic 88, 3) := by decide +kernel
theorem dX2_tombTopics_16 : decode cX2_tombTopics 16 = .ok (.invokevirtual 95, 3) := by decide +kernel
theorem dX2_tombTopics_19 : decode cX2_tombTopics 19 = .ok (.ifCond .eq 9, 3) := by decide +kernel
theorem dX2_tombTopics_22 : decode cX2_tombTopics 22 = .ok (.iload_n 2, 1) := by decide +kernel
theorem dX2_tombTopics_23 : decode cX2_tombTopics 23 = .ok (.iconst 1, 1) := by decide +kernel
theorem dX2_tombTopics_24 : decode cX2_tombTopics 24 = .ok (.iload_n 3, 1) := by decide +kernel
theorem dX2_tombTopics_25 : decode cX2_tombTopics 25 = .ok (.ishl, 1) := by decide +kernel
theorem dX2_tombTopics_26 : decode cX2_tombTopics 26 = .ok (.ior, 1) := by decide +kernel
theorem dX2_tombTopics_27 : decode cX2_tombTopics 27 = .ok (.istore_n 2, 1) := by decide +kernel
theorem dX2_tombTopics_28 : decode cX2_tombTopics 28 = .ok (.iinc 3 1, 3) := by decide +kernel
theorem dX2_tombTopics_31 : decode cX2_tombTopics 31 = .ok (.goto (-27), 3) := by decide +kernel
theorem dX2_tombTopics_34 : decode cX2_tombTopics 34 = .ok (.iload_n 2, 1) := by decide +kernel
theorem dX2_tombTopics_35 : decode cX2_tombTopics 35 = .ok (.ireturn, 1) := by decide +kernel
theorem dX2_deadTopics_0 : decode cX2_deadTopics 0 = .ok (.iconst 0, 1) := by decide +kernel
theorem dX2_deadTopics_1 : decode cX2_deadTopics 1 = .ok (.istore_n 2, 1) := by decide +kernel
theorem dX2_deadTopics_2 : decode cX2_deadTopics 2 = .ok (.iconst 0, 1) := by decide +kernel
theorem dX2_deadTopics_3 : decode cX2_deadTopics 3 = .ok (.istore_n 3, 1) := by decide +kernel
theorem dX2_deadTopics_4 : decode cX2_deadTopics 4 = .ok (.iload_n 3, 1) := by decide +kernel
theorem dX2_deadTopics_5 : decode cX2_deadTopics 5 = .ok (.bipush 12, 2) := by decide +kernel
theorem dX2_deadTopics_7 : decode cX2_deadTopics 7 = .ok (.if_icmp .ge 24, 3) := by decide +kernel
theorem dX2_deadTopics_10 : decode cX2_deadTopics 10 = .ok (.aload_n 0, 1) := by decide +kernel
theorem dX2_deadTopics_11 : decode cX2_deadTopics 11 = .ok (.iload_n 1, 1) := by decide +kernel
theorem dX2_deadTopics_12 : decode cX2_deadTopics 12 = .ok (.iload_n 3, 1) := by decide +kernel
theorem dX2_deadTopics_13 : decode cX2_deadTopics 13 = .ok (.invokevirtual 98, 3) := by decide +kernel
theorem dX2_deadTopics_16 : decode cX2_deadTopics 16 = .ok (.ifCond .eq 9, 3) := by decide +kernel
theorem dX2_deadTopics_19 : decode cX2_deadTopics 19 = .ok (.iload_n 2, 1) := by decide +kernel
theorem dX2_deadTopics_20 : decode cX2_deadTopics 20 = .ok (.iconst 1, 1) := by decide +kernel
theorem dX2_deadTopics_21 : decode cX2_deadTopics 21 = .ok (.iload_n 3, 1) := by decide +kernel
theorem dX2_deadTopics_22 : decode cX2_deadTopics 22 = .ok (.ishl, 1) := by decide +kernel
theorem dX2_deadTopics_23 : decode cX2_deadTopics 23 = .ok (.ior, 1) := by decide +kernel
theorem dX2_deadTopics_24 : decode cX2_deadTopics 24 = .ok (.istore_n 2, 1) := by decide +kernel
theorem dX2_deadTopics_25 : decode cX2_deadTopics 25 = .ok (.iinc 3 1, 3) := by decide +kernel
theorem dX2_deadTopics_28 : decode cX2_deadTopics 28 = .ok (.goto (-24), 3) := by decide +kernel
theorem dX2_deadTopics_31 : decode cX2_deadTopics 31 = .ok (.iload_n 2, 1) := by decide +kernel
theorem dX2_deadTopics_32 : decode cX2_deadTopics 32 = .ok (.ireturn, 1) := by decide +kernel
theorem dX2_unlikeTopics_0 : decode cX2_unlikeTopics 0 = .ok (.iconst 0, 1) := by decide +kernel
theorem dX2_unlikeTopics_1 : decode cX2_unlikeTopics 1 = .ok (.istore_n 3, 1) := by decide +kernel
theorem dX2_unlikeTopics_2 : decode cX2_unlikeTopics 2 = .ok (.iconst 0, 1) := by decide +kernel
theorem dX2_unlikeTopics_3 : decode cX2_unlikeTopics 3 = .ok (.istore 4, 2) := by decide +kernel
theorem dX2_unlikeTopics_5 : decode cX2_unlikeTopics 5 = .ok (.iload 4, 2) := by decide +kernel
theorem dX2_unlikeTopics_7 : decode cX2_unlikeTopics 7 = .ok (.bipush 12, 2) := by decide +kernel
theorem dX2_unlikeTopics_9 : decode cX2_unlikeTopics 9 = .ok (.if_icmp .ge 41, 3) := by decide +kernel
theorem dX2_unlikeTopics_12 : decode cX2_unlikeTopics 12 = .ok (.aload_n 0, 1) := by decide +kernel
theorem dX2_unlikeTopics_13 : decode cX2_unlikeTopics 13 = .ok (.getfield 37, 3) := by decide +kernel
theorem dX2_unlikeTopics_16 : decode cX2_unlikeTopics 16 = .ok (.iload_n 1, 1) := by decide +kernel
theorem dX2_unlikeTopics_17 : decode cX2_unlikeTopics 17 = .ok (.iload 4, 2) := by decide +kernel
theorem dX2_unlikeTopics_19 : decode cX2_unlikeTopics 19 = .ok (.invokestatic 88, 3) := by decide +kernel
theorem dX2_unlikeTopics_22 : decode cX2_unlikeTopics 22 = .ok (.iaload, 1) := by decide +kernel
theorem dX2_unlikeTopics_23 : decode cX2_unlikeTopics 23 = .ok (.aload_n 0, 1) := by decide +kernel
theorem dX2_unlikeTopics_24 : decode cX2_unlikeTopics 24 = .ok (.getfield 37, 3) := by decide +kernel
theorem dX2_unlikeTopics_27 : decode cX2_unlikeTopics 27 = .ok (.iload_n 2, 1) := by decide +kernel
theorem dX2_unlikeTopics_28 : decode cX2_unlikeTopics 28 = .ok (.iload 4, 2) := by decide +kernel
theorem dX2_unlikeTopics_30 : decode cX2_unlikeTopics 30 = .ok (.invokestatic 88, 3) := by decide +kernel
theorem dX2_unlikeTopics_33 : decode cX2_unlikeTopics 33 = .ok (.iaload, 1) := by decide +kernel
theorem dX2_unlikeTopics_34 : decode cX2_unlikeTopics 34 = .ok (.if_icmp .eq 10, 3) := by decide +kernel
theorem dX2_unlikeTopics_37 : decode cX2_unlikeTopics 37 = .ok (.iload_n 3, 1) := by decide +kernel
theorem dX2_unlikeTopics_38 : decode cX2_unlikeTopics 38 = .ok (.iconst 1, 1) := by decide +kernel
theorem dX2_unlikeTopics_39 : decode cX2_unlikeTopics 39 = .ok (.iload 4, 2) := by decide +kernel
theorem dX2_unlikeTopics_41 : decode cX2_unlikeTopics 41 = .ok (.ishl, 1) := by decide +kernel
theorem dX2_unlikeTopics_42 : decode cX2_unlikeTopics 42 = .ok (.ior, 1) := by decide +kernel
theorem dX2_unlikeTopics_43 : decode cX2_unlikeTopics 43 = .ok (.istore_n 3, 1) := by decide +kernel
theorem dX2_unlikeTopics_44 : decode cX2_unlikeTopics 44 = .ok (.iinc 4 1, 3) := by decide +kernel
theorem dX2_unlikeTopics_47 : decode cX2_unlikeTopics 47 = .ok (.goto (-42), 3) := by decide +kernel
theorem dX2_unlikeTopics_50 : decode cX2_unlikeTopics 50 = .ok (.iload_n 3, 1) := by decide +kernel
theorem dX2_unlikeTopics_51 : decode cX2_unlikeTopics 51 = .ok (.ireturn, 1) := by decide +kernel
theorem dX2_allRumors_0 : decode cX2_allRumors 0 = .ok (.iconst 0, 1) := by decide +kernel
theorem dX2_allRumors_1 : decode cX2_allRumors 1 = .ok (.istore_n 1, 1) := by decide +kernel
theorem dX2_allRumors_2 : decode cX2_allRumors 2 = .ok (.iconst 0, 1) := by decide +kernel
theorem dX2_allRumors_3 : decode cX2_allRumors 3 = .ok (.istore_n 2, 1) := by decide +kernel
theorem dX2_allRumors_4 : decode cX2_allRumors 4 = .ok (.iload_n 2, 1) := by decide +kernel
theorem dX2_allRumors_5 : decode cX2_allRumors 5 = .ok (.aload_n 0, 1) := by decide +kernel
theorem dX2_allRumors_6 : decode cX2_allRumors 6 = .ok (.getfield 9, 3) := by decide +kernel
theorem dX2_allRumors_9 : decode cX2_allRumors 9 = .ok (.if_icmp .ge 20, 3) := by decide +kernel
theorem dX2_allRumors_12 : decode cX2_allRumors 12 = .ok (.iload_n 1, 1) := by decide +kernel
theorem dX2_allRumors_13 : decode cX2_allRumors 13 = .ok (.aload_n 0, 1) := by decide +kernel
theorem dX2_allRumors_14 : decode cX2_allRumors 14 = .ok (.iload_n 2, 1) := by decide +kernel
theorem dX2_allRumors_15 : decode cX2_allRumors 15 = .ok (.invokevirtual 102, 3) := by decide +kernel
theorem dX2_allRumors_18 : decode cX2_allRumors 18 = .ok (.invokestatic 105, 3) := by decide +kernel
theorem dX2_allRumors_21 : decode cX2_allRumors 21 = .ok (.iadd, 1) := by decide +kernel
theorem dX2_allRumors_22 : decode cX2_allRumors 22 = .ok (.istore_n 1, 1) := by decide +kernel
theorem dX2_allRumors_23 : decode cX2_allRumors 23 = .ok (.iinc 2 1, 3) := by decide +kernel
theorem dX2_allRumors_26 : decode cX2_allRumors 26 = .ok (.goto (-22), 3) := by decide +kernel
theorem dX2_allRumors_29 : decode cX2_allRumors 29 = .ok (.iload_n 1, 1) := by decide +kernel
theorem dX2_allRumors_30 : decode cX2_allRumors 30 = .ok (.ireturn, 1) := by decide +kernel
theorem dX2_allTombs_0 : decode cX2_allTombs 0 = .ok (.iconst 0, 1) := by decide +kernel
theorem dX2_allTombs_1 : decode cX2_allTombs 1 = .ok (.istore_n 1, 1) := by decide +kernel
theorem dX2_allTombs_2 : decode cX2_allTombs 2 = .ok (.iconst 0, 1) := by decide +kernel
theorem dX2_allTombs_3 : decode cX2_allTombs 3 = .ok (.istore_n 2, 1) := by decide +kernel
theorem dX2_allTombs_4 : decode cX2_allTombs 4 = .ok (.iload_n 2, 1) := by decide +kernel
theorem dX2_allTombs_5 : decode cX2_allTombs 5 = .ok (.aload_n 0, 1) := by decide +kernel
theorem dX2_allTombs_6 : decode cX2_allTombs 6 = .ok (.getfield 9, 3) := by decide +kernel
theorem dX2_allTombs_9 : decode cX2_allTombs 9 = .ok (.if_icmp .ge 20, 3) := by decide +kernel
theorem dX2_allTombs_12 : decode cX2_allTombs 12 = .ok (.iload_n 1, 1) := by decide +kernel
theorem dX2_allTombs_13 : decode cX2_allTombs 13 = .ok (.aload_n 0, 1) := by decide +kernel
theorem dX2_allTombs_14 : decode cX2_allTombs 14 = .ok (.iload_n 2, 1) := by decide +kernel
theorem dX2_allTombs_15 : decode cX2_allTombs 15 = .ok (.invokevirtual 110, 3) := by decide +kernel
theorem dX2_allTombs_18 : decode cX2_allTombs 18 = .ok (.invokestatic 105, 3) := by decide +kernel
theorem dX2_allTombs_21 : decode cX2_allTombs 21 = .ok (.iadd, 1) := by decide +kernel
theorem dX2_allTombs_22 : decode cX2_allTombs 22 = .ok (.istore_n 1, 1) := by decide +kernel
theorem dX2_allTombs_23 : decode cX2_allTombs 23 = .ok (.iinc 2 1, 3) := by decide +kernel
theorem dX2_allTombs_26 : decode cX2_allTombs 26 = .ok (.goto (-22), 3) := by decide +kernel
theorem dX2_allTombs_29 : decode cX2_allTombs 29 = .ok (.iload_n 1, 1) := by decide +kernel
theorem dX2_allTombs_30 : decode cX2_allTombs 30 = .ok (.ireturn, 1) := by decide +kernel
theorem dX2_allDead_0 : decode cX2_allDead 0 = .ok (.iconst 0, 1) := by decide +kernel
theorem dX2_allDead_1 : decode cX2_allDead 1 = .ok (.istore_n 1, 1) := by decide +kernel
theorem dX2_allDead_2 : decode cX2_allDead 2 = .ok (.iconst 0, 1) := by decide +kernel
theorem dX2_allDead_3 : decode cX2_allDead 3 = .ok (.istore_n 2, 1) := by decide +kernel
theorem dX2_allDead_4 : decode cX2_allDead 4 = .ok (.iload_n 2, 1) := by decide +kernel
theorem dX2_allDead_5 : decode cX2_allDead 5 = .ok (.aload_n 0, 1) := by decide +kernel
theorem dX2_allDead_6 : decode cX2_allDead 6 = .ok (.getfield 9, 3) := by decide +kernel
theorem dX2_allDead_9 : decode cX2_allDead 9 = .ok (.if_icmp .ge 20, 3) := by decide +kernel
theorem dX2_allDead_12 : decode cX2_allDead 12 = .ok (.iload_n 1, 1) := by decide +kernel
theorem dX2_allDead_13 : decode cX2_allDead 13 = .ok (.aload_n 0, 1) := by decide +kernel
theorem dX2_allDead_14 : decode cX2_allDead 14 = .ok (.iload_n 2, 1) := by decide +kernel
theorem dX2_allDead_15 : decode cX2_allDead 15 = .ok (.invokevirtual 113, 3) := by decide +kernel
theorem dX2_allDead_18 : decode cX2_allDead 18 = .ok (.invokestatic 105, 3) := by decide +kernel
theorem dX2_allDead_21 : decode cX2_allDead 21 = .ok (.iadd, 1) := by decide +kernel
theorem dX2_allDead_22 : decode cX2_allDead 22 = .ok (.istore_n 1, 1) := by decide +kernel
theorem dX2_allDead_23 : decode cX2_allDead 23 = .ok (.iinc 2 1, 3) := by decide +kernel
theorem dX2_allDead_26 : decode cX2_allDead 26 = .ok (.goto (-22), 3) := by decide +kernel
theorem dX2_allDead_29 : decode cX2_allDead 29 = .ok (.iload_n 1, 1) := by decide +kernel
theorem dX2_allDead_30 : decode cX2_allDead 30 = .ok (.ireturn, 1) := by decide +kernel
theorem dX2_makeRumor_0 : decode cX2_makeRumor 0 = .ok (.aload_n 0, 1) := by decide +kernel
theorem dX2_makeRumor_1 : decode cX2_makeRumor 1 = .ok (.iload_n 1, 1) := by decide +kernel
theorem dX2_makeRumor_2 : decode cX2_makeRumor 2 = .ok (.invokevirtual 68, 3) := by decide +kernel
theorem dX2_makeRumor_5 : decode cX2_makeRumor 5 = .ok (.ifCond .eq 31, 3) := by decide +kernel
theorem dX2_makeRumor_8 : decode cX2_makeRumor 8 = .ok (.iload_n 2, 1) := by decide +kernel
theorem dX2_makeRumor_9 : decode cX2_makeRumor 9 = .ok (.invokestatic 116, 3) := by decide +kernel
theorem dX2_makeRumor_12 : decode cX2_makeRumor 12 = .ok (.ifCond .eq 24, 3) := by decide +kernel
theorem dX2_makeRumor_15 : decode cX2_makeRumor 15 = .ok (.iload_n 3, 1) := by decide +kernel
theorem dX2_makeRumor_16 : decode cX2_makeRumor 16 = .ok (.ifCond .lt 20, 3) := by decide +kernel
theorem dX2_makeRumor_19 : decode cX2_makeRumor 19 = .ok (.iload_n 3, 1) := by decide +kernel
theorem dX2_makeRumor_20 : decode cX2_makeRumor 20 = .ok (.bipush 99, 2) := by decide +kernel
theorem dX2_makeRumor_22 : decode cX2_makeRumor 22 = .ok (.if_icmp .gt 14, 3) := by decide +kernel
theorem dX2_makeRumor_25 : decode cX2_makeRumor 25 = .ok (.iload 4, 2) := by decide +kernel
theorem dX2_makeRumor_27 : decode cX2_makeRumor 27 = .ok (.ifCond .lt 9, 3) := by decide +kernel
theorem dX2_makeRumor_30 : decode cX2_makeRumor 30 = .ok (.iload 4, 2) := by decide +kernel
theorem dX2_makeRumor_32 : decode cX2_makeRumor 32 = .ok (.iconst 2, 1) := by decide +kernel
theorem dX2_makeRumor_33 : decode cX2_makeRumor 33 = .ok (.if_icmp .le 6, 3) := by decide +kernel
theorem dX2_makeRumor_36 : decode cX2_makeRumor 36 = .ok (.ldc 73, 2) := by decide +kernel
theorem dX2_makeRumor_38 : decode cX2_makeRumor 38 = .ok (.ireturn, 1) := by decide +kernel
theorem dX2_makeRumor_39 : decode cX2_makeRumor 39 = .ok (.aload_n 0, 1) := by decide +kernel
theorem dX2_makeRumor_40 : decode cX2_makeRumor 40 = .ok (.iload_n 1, 1) := by decide +kernel
theorem dX2_makeRumor_41 : decode cX2_makeRumor 41 = .ok (.invokevirtual 74, 3) := by decide +kernel
theorem dX2_makeRumor_44 : decode cX2_makeRumor 44 = .ok (.ifCond .ne 6, 3) := by decide +kernel
theorem dX2_makeRumor_47 : decode cX2_makeRumor 47 = .ok (.ldc 77, 2) := by decide +kernel
theorem dX2_makeRumor_49 : decode cX2_makeRumor 49 = .ok (.ireturn, 1) := by decide +kernel
theorem dX2_makeRumor_50 : decode cX2_makeRumor 50 = .ok (.iload_n 1, 1) := by decide +kernel
theorem dX2_makeRumor_51 : decode cX2_makeRumor 51 = .ok (.iload_n 2, 1) := by decide +kernel
theorem dX2_makeRumor_52 : decode cX2_makeRumor 52 = .ok (.invokestatic 88, 3) := by decide +kernel
theorem dX2_makeRumor_55 : decode cX2_makeRumor 55 = .ok (.istore 5, 2) := by decide +kernel
theorem dX2_makeRumor_57 : decode cX2_makeRumor 57 = .ok (.aload_n 0, 1) := by decide +kernel
theorem dX2_makeRumor_58 : decode cX2_makeRumor 58 = .ok (.iload_n 1, 1) := by decide +kernel
theorem dX2_makeRumor_59 : decode cX2_makeRumor 59 = .ok (.iload 5, 2) := by decide +kernel
theorem dX2_makeRumor_61 : decode cX2_makeRumor 61 = .ok (.iload 4, 2) := by decide +kernel
theorem dX2_makeRumor_63 : decode cX2_makeRumor 63 = .ok (.invokevirtual 119, 3) := by decide +kernel
theorem dX2_makeRumor_66 : decode cX2_makeRumor 66 = .ok (.aload_n 0, 1) := by decide +kernel
theorem dX2_makeRumor_67 : decode cX2_makeRumor 67 = .ok (.getfield 43, 3) := by decide +kernel
theorem dX2_makeRumor_70 : decode cX2_makeRumor 70 = .ok (.iload 5, 2) := by decide +kernel
theorem dX2_makeRumor_72 : decode cX2_makeRumor 72 = .ok (.iload_n 3, 1) := by decide +kernel
theorem dX2_makeRumor_73 : decode cX2_makeRumor 73 = .ok (.iastore, 1) := by decide +kernel
theorem dX2_makeRumor_74 : decode cX2_makeRumor 74 = .ok (.aload_n 0, 1) := by decide +kernel
theorem dX2_makeRumor_75 : decode cX2_makeRumor 75 = .ok (.getfield 28, 3) := by decide +kernel
theorem dX2_makeRumor_78 : decode cX2_makeRumor 78 = .ok (.iload_n 1, 1) := by decide +kernel
theorem dX2_makeRumor_79 : decode cX2_makeRumor 79 = .ok (.iaload, 1) := by decide +kernel
theorem dX2_makeRumor_80 : decode cX2_makeRumor 80 = .ok (.ireturn, 1) := by decide +kernel
theorem dX2_makeTomb_0 : decode cX2_makeTomb 0 = .ok (.aload_n 0, 1) := by decide +kernel
theorem dX2_makeTomb_1 : decode cX2_makeTomb 1 = .ok (.iload_n 1, 1) := by decide +kernel
theorem dX2_makeTomb_2 : decode cX2_makeTomb 2 = .ok (.invokevirtual 68, 3) := by decide +kernel
theorem dX2_makeTomb_5 : decode cX2_makeTomb 5 = .ok (.ifCond .eq 10, 3) := by decide +kernel
theorem dX2_makeTomb_8 : decode cX2_makeTomb 8 = .ok (.iload_n 2, 1) := by decide +kernel
theorem dX2_makeTomb_9 : decode cX2_makeTomb 9 = .ok (.invokestatic 116, 3) := by decide +kernel
theorem dX2_makeTomb_12 : decode cX2_makeTomb 12 = .ok (.ifCond .ne 6, 3) := by decide +kernel
theorem dX2_makeTomb_15 : decode cX2_makeTomb 15 = .ok (.ldc 73, 2) := by decide +kernel
theorem dX2_makeTomb_17 : decode cX2_makeTomb 17 = .ok (.ireturn, 1) := by decide +kernel
theorem dX2_makeTomb_18 : decode cX2_makeTomb 18 = .ok (.iload_n 1, 1) := by decide +kernel
theorem dX2_makeTomb_19 : decode cX2_makeTomb 19 = .ok (.iload_n 2, 1) := by decide +kernel
theorem dX2_makeTomb_20 : decode cX2_makeTomb 20 = .ok (.invokestatic 88, 3) := by decide +kernel
theorem dX2_makeTomb_23 : decode cX2_makeTomb 23 = .ok (.istore_n 3, 1) := by decide +kernel
theorem dX2_makeTomb_24 : decode cX2_makeTomb 24 = .ok (.aload_n 0, 1) := by decide +kernel
theorem dX2_makeTomb_25 : decode cX2_makeTomb 25 = .ok (.iload_n 1, 1) := by decide +kernel
theorem dX2_makeTomb_26 : decode cX2_makeTomb 26 = .ok (.invokevirtual 74, 3) := by decide +kernel
theorem dX2_makeTomb_29 : decode cX2_makeTomb 29 = .ok (.ifCond .eq 11, 3) := by decide +kernel
theorem dX2_makeTomb_32 : decode cX2_makeTomb 32 = .ok (.aload_n 0, 1) := by decide +kernel
theorem dX2_makeTomb_33 : decode cX2_makeTomb 33 = .ok (.iload_n 3, 1) := by decide +kernel
theorem dX2_makeTomb_34 : decode cX2_makeTomb 34 = .ok (.invokevirtual 92, 3) := by decide +kernel
theorem dX2_makeTomb_37 : decode cX2_makeTomb 37 = .ok (.ifCond .ne 6, 3) := by decide +kernel
theorem dX2_makeTomb_40 : decode cX2_makeTomb 40 = .ok (.ldc 77, 2) := by decide +kernel
theorem dX2_makeTomb_42 : decode cX2_makeTomb 42 = .ok (.ireturn, 1) := by decide +kernel
theorem dX2_makeTomb_43 : decode cX2_makeTomb 43 = .ok (.aload_n 0, 1) := by decide +kernel
theorem dX2_makeTomb_44 : decode cX2_makeTomb 44 = .ok (.iload_n 1, 1) := by decide +kernel
theorem dX2_makeTomb_45 : decode cX2_makeTomb 45 = .ok (.iload_n 3, 1) := by decide +kernel
theorem dX2_makeTomb_46 : decode cX2_makeTomb 46 = .ok (.iconst 3, 1) := by decide +kernel
theorem dX2_makeTomb_47 : decode cX2_makeTomb 47 = .ok (.invokevirtual 119, 3) := by decide +kernel
theorem dX2_makeTomb_50 : decode cX2_makeTomb 50 = .ok (.aload_n 0, 1) := by decide +kernel
theorem dX2_makeTomb_51 : decode cX2_makeTomb 51 = .ok (.getfield 46, 3) := by decide +kernel
theorem dX2_makeTomb_54 : decode cX2_makeTomb 54 = .ok (.iload_n 3, 1) := by decide +kernel
theorem dX2_makeTomb_55 : decode cX2_makeTomb 55 = .ok (.aload_n 0, 1) := by decide +kernel
theorem dX2_makeTomb_56 : decode cX2_makeTomb 56 = .ok (.getfield 15, 3) := by decide +kernel
theorem dX2_makeTomb_59 : decode cX2_makeTomb 59 = .ok (.iastore, 1) := by decide +kernel
theorem dX2_makeTomb_60 : decode cX2_makeTomb 60 = .ok (.aload_n 0, 1) := by decide +kernel
theorem dX2_makeTomb_61 : decode cX2_makeTomb 61 = .ok (.getfield 49, 3) := by decide +kernel
theorem dX2_makeTomb_64 : decode cX2_makeTomb 64 = .ok (.iload_n 3, 1) := by decide +kernel
theorem dX2_makeTomb_65 : decode cX2_makeTomb 65 = .ok (.iconst 1, 1) := by decide +kernel
theorem dX2_makeTomb_66 : decode cX2_makeTomb 66 = .ok (.iload_n 1, 1) := by decide +kernel
theorem dX2_makeTomb_67 : decode cX2_makeTomb 67 = .ok (.ishl, 1) := by decide +kernel
theorem dX2_makeTomb_68 : decode cX2_makeTomb 68 = .ok (.iastore, 1) := by decide +kernel
theorem dX2_makeTomb_69 : decode cX2_makeTomb 69 = .ok (.aload_n 0, 1) := by decide +kernel
theorem dX2_makeTomb_70 : decode cX2_makeTomb 70 = .ok (.getfield 55, 3) := by decide +kernel
theorem dX2_makeTomb_73 : decode cX2_makeTomb 73 = .ok (.iload_n 2, 1) := by decide +kernel
theorem dX2_makeTomb_74 : decode cX2_makeTomb 74 = .ok (.aload_n 0, 1) := by decide +kernel
theorem dX2_makeTomb_75 : decode cX2_makeTomb 75 = .ok (.getfield 55, 3) := by decide +kernel
theorem dX2_makeTomb_78 : decode cX2_makeTomb 78 = .ok (.iload_n 2, 1) := by decide +kernel
theorem dX2_makeTomb_79 : decode cX2_makeTomb 79 = .ok (.iaload, 1) := by decide +kernel
theorem dX2_makeTomb_80 : decode cX2_makeTomb 80 = .ok (.aload_n 0, 1) := by decide +kernel
theorem dX2_makeTomb_81 : decode cX2_makeTomb 81 = .ok (.getfield 37, 3) := by decide +kernel
theorem dX2_makeTomb_84 : decode cX2_makeTomb 84 = .ok (.iload_n 3, 1) := by decide +kernel
theorem dX2_makeTomb_85 : decode cX2_makeTomb 85 = .ok (.iaload, 1) := by decide +kernel
theorem dX2_makeTomb_86 : decode cX2_makeTomb 86 = .ok (.invokestatic 123, 3) := by decide +kernel
theorem dX2_makeTomb_89 : decode cX2_makeTomb 89 = .ok (.iastore, 1) := by decide +kernel
theorem dX2_makeTomb_90 : decode cX2_makeTomb 90 = .ok (.aload_n 0, 1) := by decide +kernel
theorem dX2_makeTomb_91 : decode cX2_makeTomb 91 = .ok (.dup, 1) := by decide +kernel
theorem dX2_makeTomb_92 : decode cX2_makeTomb 92 = .ok (.getfield 21, 3) := by decide +kernel
theorem dX2_makeTomb_95 : decode cX2_makeTomb 95 = .ok (.iconst 1, 1) := by decide +kernel
theorem dX2_makeTomb_96 : decode cX2_makeTomb 96 = .ok (.iadd, 1) := by decide +kernel
theorem dX2_makeTomb_97 : decode cX2_makeTomb 97 = .ok (.putfield 21, 3) := by decide +kernel
theorem dX2_makeTomb_100 : decode cX2_makeTomb 100 = .ok (.aload_n 0, 1) := by decide +kernel
theorem dX2_makeTomb_101 : decode cX2_makeTomb 101 = .ok (.getfield 28, 3) := by decide +kernel
theorem dX2_makeTomb_104 : decode cX2_makeTomb 104 = .ok (.iload_n 1, 1) := by decide +kernel
theorem dX2_makeTomb_105 : decode cX2_makeTomb 105 = .ok (.iaload, 1) := by decide +kernel
theorem dX2_makeTomb_106 : decode cX2_makeTomb 106 = .ok (.ireturn, 1) := by decide +kernel
theorem dX2_write_0 : decode cX2_write 0 = .ok (.aload_n 0, 1) := by decide +kernel
theorem dX2_write_1 : decode cX2_write 1 = .ok (.getfield 28, 3) := by decide +kernel
theorem dX2_write_4 : decode cX2_write 4 = .ok (.iload_n 1, 1) := by decide +kernel
theorem dX2_write_5 : decode cX2_write 5 = .ok (.dup2, 1) := by decide +kernel
theorem dX2_write_6 : decode cX2_write 6 = .ok (.iaload, 1) := by decide +kernel
theorem dX2_write_7 : decode cX2_write 7 = .ok (.iconst 1, 1) := by decide +kernel
theorem dX2_write_8 : decode cX2_write 8 = .ok (.iadd, 1) := by decide +kernel
theorem dX2_write_9 : decode cX2_write 9 = .ok (.iastore, 1) := by decide +kernel
theorem dX2_write_10 : decode cX2_write 10 = .ok (.aload_n 0, 1) := by decide +kernel
theorem dX2_write_11 : decode cX2_write 11 = .ok (.getfield 37, 3) := by decide +kernel
theorem dX2_write_14 : decode cX2_write 14 = .ok (.iload_n 2, 1) := by decide +kernel
theorem dX2_write_15 : decode cX2_write 15 = .ok (.aload_n 0, 1) := by decide +kernel
theorem dX2_write_16 : decode cX2_write 16 = .ok (.getfield 28, 3) := by decide +kernel
theorem dX2_write_19 : decode cX2_write 19 = .ok (.iload_n 1, 1) := by decide +kernel
theorem dX2_write_20 : decode cX2_write 20 = .ok (.iaload, 1) := by decide +kernel
theorem dX2_write_21 : decode cX2_write 21 = .ok (.bipush 8, 2) := by decide +kernel
theorem dX2_write_23 : decode cX2_write 23 = .ok (.imul, 1) := by decide +kernel
theorem dX2_write_24 : decode cX2_write 24 = .ok (.iload_n 1, 1) := by decide +kernel
theorem dX2_write_25 : decode cX2_write 25 = .ok (.iadd, 1) := by decide +kernel
theorem dX2_write_26 : decode cX2_write 26 = .ok (.iastore, 1) := by decide +kernel
theorem dX2_write_27 : decode cX2_write 27 = .ok (.aload_n 0, 1) := by decide +kernel
theorem dX2_write_28 : decode cX2_write 28 = .ok (.getfield 40, 3) := by decide +kernel
theorem dX2_write_31 : decode cX2_write 31 = .ok (.iload_n 2, 1) := by decide +kernel
theorem dX2_write_32 : decode cX2_write 32 = .ok (.iload_n 3, 1) := by decide +kernel
theorem dX2_write_33 : decode cX2_write 33 = .ok (.iastore, 1) := by decide +kernel
theorem dX2_write_34 : decode cX2_write 34 = .ok (.return_, 1) := by decide +kernel
theorem dX2_bringTogether_0 : decode cX2_bringTogether 0 = .ok (.aload_n 0, 1) := by decide +kernel
theorem dX2_bringTogether_1 : decode cX2_bringTogether 1 = .ok (.iload_n 1, 1) := by decide +kernel
theorem dX2_bringTogether_2 : decode cX2_bringTogether 2 = .ok (.iload_n 2, 1) := by decide +kernel
theorem dX2_bringTogether_3 : decode cX2_bringTogether 3 = .ok (.invokevirtual 128, 3) := by decide +kernel
theorem dX2_bringTogether_6 : decode cX2_bringTogether 6 = .ok (.ifCond .ne 6, 3) := by decide +kernel
theorem dX2_bringTogether_9 : decode cX2_bringTogether 9 = .ok (.ldc 73, 2) := by decide +kernel
theorem dX2_bringTogether_11 : decode cX2_bringTogether 11 = .ok (.ireturn, 1) := by decide +kernel
theorem dX2_bringTogether_12 : decode cX2_bringTogether 12 = .ok (.aload_n 0, 1) := by decide +kernel
theorem dX2_bringTogether_13 : decode cX2_bringTogether 13 = .ok (.iload_n 1, 1) := by decide +kernel
theorem dX2_bringTogether_14 : decode cX2_bringTogether 14 = .ok (.invokevirtual 74, 3) := by decide +kernel
theorem dX2_bringTogether_17 : decode cX2_bringTogether 17 = .ok (.ifCond .eq 11, 3) := by decide +kernel
theorem dX2_bringTogether_20 : decode cX2_bringTogether 20 = .ok (.aload_n 0, 1) := by decide +kernel
theorem dX2_bringTogether_21 : decode cX2_bringTogether 21 = .ok (.iload_n 2, 1) := by decide +kernel
theorem dX2_bringTogether_22 : decode cX2_bringTogether 22 = .ok (.invokevirtual 74, 3) := by decide +kernel
theorem dX2_bringTogether_25 : decode cX2_bringTogether 25 = .ok (.ifCond .ne 6, 3) := by decide +kernel
theorem dX2_bringTogether_28 : decode cX2_bringTogether 28 = .ok (.ldc 77, 2) := by decide +kernel
theorem dX2_bringTogether_30 : decode cX2_bringTogether 30 = .ok (.ireturn, 1) := by decide +kernel
theorem dX2_bringTogether_31 : decode cX2_bringTogether 31 = .ok (.aload_n 0, 1) := by decide +kernel
theorem dX2_bringTogether_32 : decode cX2_bringTogether 32 = .ok (.iload_n 1, 1) := by decide +kernel
theorem dX2_bringTogether_33 : decode cX2_bringTogether 33 = .ok (.iload_n 2, 1) := by decide +kernel
theorem dX2_bringTogether_34 : decode cX2_bringTogether 34 = .ok (.invokevirtual 131, 3) := by decide +kernel
theorem dX2_bringTogether_37 : decode cX2_bringTogether 37 = .ok (.ireturn, 1) := by decide +kernel
theorem dX2_talk_0 : decode cX2_talk 0 = .ok (.aload_n 0, 1) := by decide +kernel
theorem dX2_talk_1 : decode cX2_talk 1 = .ok (.getfield 28, 3) := by decide +kernel
theorem dX2_talk_4 : decode cX2_talk 4 = .ok (.iload_n 1, 1) := by decide +kernel
theorem dX2_talk_5 : decode cX2_talk 5 = .ok (.iaload, 1) := by decide +kernel
theorem dX2_talk_6 : decode cX2_talk 6 = .ok (.aload_n 0, 1) := by decide +kernel
theorem dX2_talk_7 : decode cX2_talk 7 = .ok (.getfield 28, 3) := by decide +kernel
theorem dX2_talk_10 : decode cX2_talk 10 = .ok (.iload_n 2, 1) := by decide +kernel
theorem dX2_talk_11 : decode cX2_talk 11 = .ok (.iaload, 1) := by decide +kernel
theorem dX2_talk_12 : decode cX2_talk 12 = .ok (.invokestatic 123, 3) := by decide +kernel
theorem dX2_talk_15 : decode cX2_talk 15 = .ok (.istore_n 3, 1) := by decide +kernel
theorem dX2_talk_16 : decode cX2_talk 16 = .ok (.aload_n 0, 1) := by decide +kernel
theorem dX2_talk_17 : decode cX2_talk 17 = .ok (.getfield 28, 3) := by decide +kernel
theorem dX2_talk_20 : decode cX2_talk 20 = .ok (.iload_n 1, 1) := by decide +kernel
theorem dX2_talk_21 : decode cX2_talk 21 = .ok (.iload_n 3, 1) := by decide +kernel
theorem dX2_talk_22 : decode cX2_talk 22 = .ok (.iastore, 1) := by decide +kernel
theorem dX2_talk_23 : decode cX2_talk 23 = .ok (.aload_n 0, 1) := by decide +kernel
theorem dX2_talk_24 : decode cX2_talk 24 = .ok (.getfield 28, 3) := by decide +kernel
theorem dX2_talk_27 : decode cX2_talk 27 = .ok (.iload_n 2, 1) := by decide +kernel
theorem dX2_talk_28 : decode cX2_talk 28 = .ok (.iload_n 3, 1) := by decide +kernel
theorem dX2_talk_29 : decode cX2_talk 29 = .ok (.iastore, 1) := by decide +kernel
theorem dX2_talk_30 : decode cX2_talk 30 = .ok (.iconst 0, 1) := by decide +kernel
theorem dX2_talk_31 : decode cX2_talk 31 = .ok (.istore 4, 2) := by decide +kernel
theorem dX2_talk_33 : decode cX2_talk 33 = .ok (.iconst 0, 1) := by decide +kernel
theorem dX2_talk_34 : decode cX2_talk 34 = .ok (.istore 5, 2) := by decide +kernel
theorem dX2_talk_36 : decode cX2_talk 36 = .ok (.iload 5, 2) := by decide +kernel
theorem dX2_talk_38 : decode cX2_talk 38 = .ok (.bipush 12, 2) := by decide +kernel
theorem dX2_talk_40 : decode cX2_talk 40 = .ok (.if_icmp .ge 55, 3) := by decide +kernel
theorem dX2_talk_43 : decode cX2_talk 43 = .ok (.aload_n 0, 1) := by decide +kernel
theorem dX2_talk_44 : decode cX2_talk 44 = .ok (.iload_n 1, 1) := by decide +kernel
theorem dX2_talk_45 : decode cX2_talk 45 = .ok (.iload_n 2, 1) := by decide +kernel
theorem dX2_talk_46 : decode cX2_talk 46 = .ok (.iload 5, 2) := by decide +kernel
theorem dX2_talk_48 : decode cX2_talk 48 = .ok (.invokevirtual 134, 3) := by decide +kernel
theorem dX2_talk_51 : decode cX2_talk 51 = .ok (.istore 6, 2) := by decide +kernel
theorem dX2_talk_53 : decode cX2_talk 53 = .ok (.iload 6, 2) := by decide +kernel
theorem dX2_talk_55 : decode cX2_talk 55 = .ok (.iconst (-1), 1) := by decide +kernel
theorem dX2_talk_56 : decode cX2_talk 56 = .ok (.if_icmp .eq 25, 3) := by decide +kernel
theorem dX2_talk_59 : decode cX2_talk 59 = .ok (.aload_n 0, 1) := by decide +kernel
theorem dX2_talk_60 : decode cX2_talk 60 = .ok (.iload 5, 2) := by decide +kernel
theorem dX2_talk_62 : decode cX2_talk 62 = .ok (.iload 6, 2) := by decide +kernel
theorem dX2_talk_64 : decode cX2_talk 64 = .ok (.iload 6, 2) := by decide +kernel
theorem dX2_talk_66 : decode cX2_talk 66 = .ok (.iload_n 1, 1) := by decide +kernel
theorem dX2_talk_67 : decode cX2_talk 67 = .ok (.if_icmp .ne 7, 3) := by decide +kernel
theorem dX2_talk_70 : decode cX2_talk 70 = .ok (.iload_n 2, 1) := by decide +kernel
theorem dX2_talk_71 : decode cX2_talk 71 = .ok (.goto 4, 3) := by decide +kernel
theorem dX2_talk_74 : decode cX2_talk 74 = .ok (.iload_n 1, 1) := by decide +kernel
theorem dX2_talk_75 : decode cX2_talk 75 = .ok (.invokevirtual 138, 3) := by decide +kernel
theorem dX2_talk_78 : decode cX2_talk 78 = .ok (.iinc 4 1, 3) := by decide +kernel
theorem dX2_talk_81 : decode cX2_talk 81 = .ok (.aload_n 0, 1) := by decide +kernel
theorem dX2_talk_82 : decode cX2_talk 82 = .ok (.iload_n 1, 1) := by decide +kernel
theorem dX2_talk_83 : decode cX2_talk 83 = .ok (.iload_n 2, 1) := by decide +kernel
theorem dX2_talk_84 : decode cX2_talk 84 = .ok (.iload 5, 2) := by decide +kernel
theorem dX2_talk_86 : decode cX2_talk 86 = .ok (.invokevirtual 141, 3) := by decide +kernel
theorem dX2_talk_89 : decode cX2_talk 89 = .ok (.iinc 5 1, 3) := by decide +kernel
theorem dX2_talk_92 : decode cX2_talk 92 = .ok (.goto (-56), 3) := by decide +kernel
theorem dX2_talk_95 : decode cX2_talk 95 = .ok (.iload 4, 2) := by decide +kernel
theorem dX2_talk_97 : decode cX2_talk 97 = .ok (.ireturn, 1) := by decide +kernel
theorem dX2_giver_0 : decode cX2_giver 0 = .ok (.aload_n 0, 1) := by decide +kernel
theorem dX2_giver_1 : decode cX2_giver 1 = .ok (.getfield 37, 3) := by decide +kernel
theorem dX2_giver_4 : decode cX2_giver 4 = .ok (.iload_n 1, 1) := by decide +kernel
theorem dX2_giver_5 : decode cX2_giver 5 = .ok (.iload_n 3, 1) := by decide +kernel
theorem dX2_giver_6 : decode cX2_giver 6 = .ok (.invokestatic 88, 3) := by decide +kernel
theorem dX2_giver_9 : decode cX2_giver 9 = .ok (.iaload, 1) := by decide +kernel
theorem dX2_giver_10 : decode cX2_giver 10 = .ok (.istore 4, 2) := by decide +kernel
theorem dX2_giver_12 : decode cX2_giver 12 = .ok (.aload_n 0, 1) := by decide +kernel
theorem dX2_giver_13 : decode cX2_giver 13 = .ok (.getfield 37, 3) := by decide +kernel
theorem dX2_giver_16 : decode cX2_giver 16 = .ok (.iload_n 2, 1) := by decide +kernel
theorem dX2_giver_17 : decode cX2_giver 17 = .ok (.iload_n 3, 1) := by decide +kernel
theorem dX2_giver_18 : decode cX2_giver 18 = .ok (.invokestatic 88, 3) := by decide +kernel
theorem dX2_giver_21 : decode cX2_giver 21 = .ok (.iaload, 1) := by decide +kernel
theorem dX2_giver_22 : decode cX2_giver 22 = .ok (.istore 5, 2) := by decide +kernel
theorem dX2_giver_24 : decode cX2_giver 24 = .ok (.iload 4, 2) := by decide +kernel
theorem dX2_giver_26 : decode cX2_giver 26 = .ok (.iload 5, 2) := by decide +kernel
theorem dX2_giver_28 : decode cX2_giver 28 = .ok (.if_icmp .ne 5, 3) := by decide +kernel
theorem dX2_giver_31 : decode cX2_giver 31 = .ok (.iconst (-1), 1) := by decide +kernel
theorem dX2_giver_32 : decode cX2_giver 32 = .ok (.ireturn, 1) := by decide +kernel
theorem dX2_giver_33 : decode cX2_giver 33 = .ok (.iload 4, 2) := by decide +kernel
theorem dX2_giver_35 : decode cX2_giver 35 = .ok (.iload 5, 2) := by decide +kernel
theorem dX2_giver_37 : decode cX2_giver 37 = .ok (.if_icmp .le 7, 3) := by decide +kernel
theorem dX2_giver_40 : decode cX2_giver 40 = .ok (.iload_n 1, 1) := by decide +kernel
theorem dX2_giver_41 : decode cX2_giver 41 = .ok (.goto 4, 3) := by decide +kernel
theorem dX2_giver_44 : decode cX2_giver 44 = .ok (.iload_n 2, 1) := by decide +kernel
theorem dX2_giver_45 : decode cX2_giver 45 = .ok (.istore 6, 2) := by decide +kernel
theorem dX2_giver_47 : decode cX2_giver 47 = .ok (.iload 4, 2) := by decide +kernel
theorem dX2_giver_49 : decode cX2_giver 49 = .ok (.iload 5, 2) := by decide +kernel
theorem dX2_giver_51 : decode cX2_giver 51 = .ok (.if_icmp .le 7, 3) := by decide +kernel
theorem dX2_giver_54 : decode cX2_giver 54 = .ok (.iload_n 2, 1) := by decide +kernel
theorem dX2_giver_55 : decode cX2_giver 55 = .ok (.goto 4, 3) := by decide +kernel
theorem dX2_giver_58 : decode cX2_giver 58 = .ok (.iload_n 1, 1) := by decide +kernel
theorem dX2_giver_59 : decode cX2_giver 59 = .ok (.istore 7, 2) := by decide +kernel
theorem dX2_giver_61 : decode cX2_giver 61 = .ok (.iload 6, 2) := by decide +kernel
theorem dX2_giver_63 : decode cX2_giver 63 = .ok (.iload_n 3, 1) := by decide +kernel
theorem dX2_giver_64 : decode cX2_giver 64 = .ok (.invokestatic 88, 3) := by decide +kernel
theorem dX2_giver_67 : decode cX2_giver 67 = .ok (.istore 8, 2) := by decide +kernel
theorem dX2_giver_69 : decode cX2_giver 69 = .ok (.aload_n 0, 1) := by decide +kernel
theorem dX2_giver_70 : decode cX2_giver 70 = .ok (.getfield 40, 3) := by decide +kernel
theorem dX2_giver_73 : decode cX2_giver 73 = .ok (.iload 8, 2) := by decide +kernel
theorem dX2_giver_75 : decode cX2_giver 75 = .ok (.iaload, 1) := by decide +kernel
theorem dX2_giver_76 : decode cX2_giver 76 = .ok (.aload_n 0, 1) := by decide +kernel
theorem dX2_giver_77 : decode cX2_giver 77 = .ok (.iload 8, 2) := by decide +kernel
theorem dX2_giver_79 : decode cX2_giver 79 = .ok (.invokevirtual 144, 3) := by decide +kernel
theorem dX2_giver_82 : decode cX2_giver 82 = .ok (.iload 6, 2) := by decide +kernel
theorem dX2_giver_84 : decode cX2_giver 84 = .ok (.if_icmp .ne 7, 3) := by decide +kernel
theorem dX2_giver_87 : decode cX2_giver 87 = .ok (.iconst 1, 1) := by decide +kernel
theorem dX2_giver_88 : decode cX2_giver 88 = .ok (.goto 4, 3) := by decide +kernel
theorem dX2_giver_91 : decode cX2_giver 91 = .ok (.iconst 0, 1) := by decide +kernel
theorem dX2_giver_92 : decode cX2_giver 92 = .ok (.iload 7, 2) := by decide +kernel
theorem dX2_giver_94 : decode cX2_giver 94 = .ok (.iload 6, 2) := by decide +kernel
theorem dX2_giver_96 : decode cX2_giver 96 = .ok (.if_icmp .le 7, 3) := by decide +kernel
theorem dX2_giver_99 : decode cX2_giver 99 = .ok (.iconst 1, 1) := by decide +kernel
theorem dX2_giver_100 : decode cX2_giver 100 = .ok (.goto 4, 3) := by decide +kernel
theorem dX2_giver_103 : decode cX2_giver 103 = .ok (.iconst 0, 1) := by decide +kernel
theorem dX2_giver_104 : decode cX2_giver 104 = .ok (.invokestatic 147, 3) := by decide +kernel
theorem dX2_giver_107 : decode cX2_giver 107 = .ok (.ifCond .eq 8, 3) := by decide +kernel
theorem dX2_giver_110 : decode cX2_giver 110 = .ok (.iload 6, 2) := by decide +kernel
theorem dX2_giver_112 : decode cX2_giver 112 = .ok (.goto 4, 3) := by decide +kernel
theorem dX2_giver_115 : decode cX2_giver 115 = .ok (.iconst (-1), 1) := by decide +kernel
theorem dX2_giver_116 : decode cX2_giver 116 = .ok (.ireturn, 1) := by decide +kernel
theorem dX2_mayBeHanded_0 : decode cX2_mayBeHanded 0 = .ok (.iload_n 0, 1) := by decide +kernel
theorem dX2_mayBeHanded_1 : decode cX2_mayBeHanded 1 = .ok (.lookupswitch 43 #[(1, 27), (2, 29)], 27) := by decide +kernel
theorem dX2_mayBeHanded_28 : decode cX2_mayBeHanded 28 = .ok (.iload_n 1, 1) := by decide +kernel
theorem dX2_mayBeHanded_29 : decode cX2_mayBeHanded 29 = .ok (.ireturn, 1) := by decide +kernel
theorem dX2_mayBeHanded_30 : decode cX2_mayBeHanded 30 = .ok (.iload_n 1, 1) := by decide +kernel
theorem dX2_mayBeHanded_31 : decode cX2_mayBeHanded 31 = .ok (.ifCond .eq 11, 3) := by decide +kernel
theorem dX2_mayBeHanded_34 : decode cX2_mayBeHanded 34 = .ok (.iload_n 2, 1) := by decide +kernel
theorem dX2_mayBeHanded_35 : decode cX2_mayBeHanded 35 = .ok (.ifCond .eq 7, 3) := by decide +kernel
theorem dX2_mayBeHanded_38 : decode cX2_mayBeHanded 38 = .ok (.iconst 1, 1) := by decide +kernel
theorem dX2_mayBeHanded_39 : decode cX2_mayBeHanded 39 = .ok (.goto 4, 3) := by decide +kernel
theorem dX2_mayBeHanded_42 : decode cX2_mayBeHanded 42 = .ok (.iconst 0, 1) := by decide +kernel
theorem dX2_mayBeHanded_43 : decode cX2_mayBeHanded 43 = .ok (.ireturn, 1) := by decide +kernel
theorem dX2_mayBeHanded_44 : decode cX2_mayBeHanded 44 = .ok (.iconst 1, 1) := by decide +kernel
theorem dX2_mayBeHanded_45 : decode cX2_mayBeHanded 45 = .ok (.ireturn, 1) := by decide +kernel
theorem dX2_hand_0 : decode cX2_hand 0 = .ok (.iload_n 2, 1) := by decide +kernel
theorem dX2_hand_1 : decode cX2_hand 1 = .ok (.iload_n 1, 1) := by decide +kernel
theorem dX2_hand_2 : decode cX2_hand 2 = .ok (.invokestatic 88, 3) := by decide +kernel
theorem dX2_hand_5 : decode cX2_hand 5 = .ok (.istore 4, 2) := by decide +kernel
theorem dX2_hand_7 : decode cX2_hand 7 = .ok (.iload_n 3, 1) := by decide +kernel
theorem dX2_hand_8 : decode cX2_hand 8 = .ok (.iload_n 1, 1) := by decide +kernel
theorem dX2_hand_9 : decode cX2_hand 9 = .ok (.invokestatic 88, 3) := by decide +kernel
theorem dX2_hand_12 : decode cX2_hand 12 = .ok (.istore 5, 2) := by decide +kernel
theorem dX2_hand_14 : decode cX2_hand 14 = .ok (.aload_n 0, 1) := by decide +kernel
theorem dX2_hand_15 : decode cX2_hand 15 = .ok (.iload 4, 2) := by decide +kernel
theorem dX2_hand_17 : decode cX2_hand 17 = .ok (.invokevirtual 92, 3) := by decide +kernel
theorem dX2_hand_20 : decode cX2_hand 20 = .ok (.ifCond .eq 30, 3) := by decide +kernel
theorem dX2_hand_23 : decode cX2_hand 23 = .ok (.aload_n 0, 1) := by decide +kernel
theorem dX2_hand_24 : decode cX2_hand 24 = .ok (.getfield 37, 3) := by decide +kernel
theorem dX2_hand_27 : decode cX2_hand 27 = .ok (.iload 4, 2) := by decide +kernel
theorem dX2_hand_29 : decode cX2_hand 29 = .ok (.iaload, 1) := by decide +kernel
theorem dX2_hand_30 : decode cX2_hand 30 = .ok (.aload_n 0, 1) := by decide +kernel
theorem dX2_hand_31 : decode cX2_hand 31 = .ok (.getfield 52, 3) := by decide +kernel
theorem dX2_hand_34 : decode cX2_hand 34 = .ok (.iload 5, 2) := by decide +kernel
theorem dX2_hand_36 : decode cX2_hand 36 = .ok (.iaload, 1) := by decide +kernel
theorem dX2_hand_37 : decode cX2_hand 37 = .ok (.if_icmp .ge 13, 3) := by decide +kernel
theorem dX2_hand_40 : decode cX2_hand 40 = .ok (.aload_n 0, 1) := by decide +kernel
theorem dX2_hand_41 : decode cX2_hand 41 = .ok (.getfield 34, 3) := by decide +kernel
theorem dX2_hand_44 : decode cX2_hand 44 = .ok (.iload_n 3, 1) := by decide +kernel
theorem dX2_hand_45 : decode cX2_hand 45 = .ok (.dup2, 1) := by decide +kernel
theorem dX2_hand_46 : decode cX2_hand 46 = .ok (.iaload, 1) := by decide +kernel
theorem dX2_hand_47 : decode cX2_hand 47 = .ok (.iconst 1, 1) := by decide +kernel
theorem dX2_hand_48 : decode cX2_hand 48 = .ok (.iadd, 1) := by decide +kernel
theorem dX2_hand_49 : decode cX2_hand 49 = .ok (.iastore, 1) := by decide +kernel
theorem dX2_hand_50 : decode cX2_hand 50 = .ok (.aload_n 0, 1) := by decide +kernel
theorem dX2_hand_51 : decode cX2_hand 51 = .ok (.getfield 37, 3) := by decide +kernel
theorem dX2_hand_54 : decode cX2_hand 54 = .ok (.iload 5, 2) := by decide +kernel
theorem dX2_hand_56 : decode cX2_hand 56 = .ok (.aload_n 0, 1) := by decide +kernel
theorem dX2_hand_57 : decode cX2_hand 57 = .ok (.getfield 37, 3) := by decide +kernel
theorem dX2_hand_60 : decode cX2_hand 60 = .ok (.iload 4, 2) := by decide +kernel
theorem dX2_hand_62 : decode cX2_hand 62 = .ok (.iaload, 1) := by decide +kernel
theorem dX2_hand_63 : decode cX2_hand 63 = .ok (.iastore, 1) := by decide +kernel
theorem dX2_hand_64 : decode cX2_hand 64 = .ok (.aload_n 0, 1) := by decide +kernel
theorem dX2_hand_65 : decode cX2_hand 65 = .ok (.getfield 40, 3) := by decide +kernel
theorem dX2_hand_68 : decode cX2_hand 68 = .ok (.iload 5, 2) := by decide +kernel
theorem dX2_hand_70 : decode cX2_hand 70 = .ok (.aload_n 0, 1) := by decide +kernel
theorem dX2_hand_71 : decode cX2_hand 71 = .ok (.getfield 40, 3) := by decide +kernel
theorem dX2_hand_74 : decode cX2_hand 74 = .ok (.iload 4, 2) := by decide +kernel
theorem dX2_hand_76 : decode cX2_hand 76 = .ok (.iaload, 1) := by decide +kernel
theorem dX2_hand_77 : decode cX2_hand 77 = .ok (.iastore, 1) := by decide +kernel
theorem dX2_hand_78 : decode cX2_hand 78 = .ok (.aload_n 0, 1) := by decide +kernel
theorem dX2_hand_79 : decode cX2_hand 79 = .ok (.getfield 43, 3) := by decide +kernel
theorem dX2_hand_82 : decode cX2_hand 82 = .ok (.iload 5, 2) := by decide +kernel
theorem dX2_hand_84 : decode cX2_hand 84 = .ok (.aload_n 0, 1) := by decide +kernel
theorem dX2_hand_85 : decode cX2_hand 85 = .ok (.getfield 43, 3) := by decide +kernel
theorem dX2_hand_88 : decode cX2_hand 88 = .ok (.iload 4, 2) := by decide +kernel
theorem dX2_hand_90 : decode cX2_hand 90 = .ok (.iaload, 1) := by decide +kernel
theorem dX2_hand_91 : decode cX2_hand 91 = .ok (.iastore, 1) := by decide +kernel
theorem dX2_hand_92 : decode cX2_hand 92 = .ok (.aload_n 0, 1) := by decide +kernel
theorem dX2_hand_93 : decode cX2_hand 93 = .ok (.getfield 46, 3) := by decide +kernel
theorem dX2_hand_96 : decode cX2_hand 96 = .ok (.iload 5, 2) := by decide +kernel
theorem dX2_hand_98 : decode cX2_hand 98 = .ok (.aload_n 0, 1) := by decide +kernel
theorem dX2_hand_99 : decode cX2_hand 99 = .ok (.getfield 46, 3) := by decide +kernel
theorem dX2_hand_102 : decode cX2_hand 102 = .ok (.iload 4, 2) := by decide +kernel
theorem dX2_hand_104 : decode cX2_hand 104 = .ok (.iaload, 1) := by decide +kernel
theorem dX2_hand_105 : decode cX2_hand 105 = .ok (.iastore, 1) := by decide +kernel
theorem dX2_hand_106 : decode cX2_hand 106 = .ok (.aload_n 0, 1) := by decide +kernel
theorem dX2_hand_107 : decode cX2_hand 107 = .ok (.getfield 49, 3) := by decide +kernel
theorem dX2_hand_110 : decode cX2_hand 110 = .ok (.iload 5, 2) := by decide +kernel
theorem dX2_hand_112 : decode cX2_hand 112 = .ok (.aload_n 0, 1) := by decide +kernel
theorem dX2_hand_113 : decode cX2_hand 113 = .ok (.getfield 49, 3) := by decide +kernel
theorem dX2_hand_116 : decode cX2_hand 116 = .ok (.iload 4, 2) := by decide +kernel
theorem dX2_hand_118 : decode cX2_hand 118 = .ok (.iaload, 1) := by decide +kernel
theorem dX2_hand_119 : decode cX2_hand 119 = .ok (.iastore, 1) := by decide +kernel
theorem dX2_hand_120 : decode cX2_hand 120 = .ok (.return_, 1) := by decide +kernel
theorem dX2_shareSight_0 : decode cX2_shareSight 0 = .ok (.iload_n 1, 1) := by decide +kernel
theorem dX2_shareSight_1 : decode cX2_shareSight 1 = .ok (.iload_n 3, 1) := by decide +kernel
theorem dX2_shareSight_2 : decode cX2_shareSight 2 = .ok (.invokestatic 88, 3) := by decide +kernel
theorem dX2_shareSight_5 : decode cX2_shareSight 5 = .ok (.istore 4, 2) := by decide +kernel
theorem dX2_shareSight_7 : decode cX2_shareSight 7 = .ok (.iload_n 2, 1) := by decide +kernel
theorem dX2_shareSight_8 : decode cX2_shareSight 8 = .ok (.iload_n 3, 1) := by decide +kernel
theorem dX2_shareSight_9 : decode cX2_shareSight 9 = .ok (.invokestatic 88, 3) := by decide +kernel
theorem dX2_shareSight_12 : decode cX2_shareSight 12 = .ok (.istore 5, 2) := by decide +kernel
theorem dX2_shareSight_14 : decode cX2_shareSight 14 = .ok (.aload_n 0, 1) := by decide +kernel
theorem dX2_shareSight_15 : decode cX2_shareSight 15 = .ok (.iload 4, 2) := by decide +kernel
theorem dX2_shareSight_17 : decode cX2_shareSight 17 = .ok (.invokevirtual 95, 3) := by decide +kernel
theorem dX2_shareSight_20 : decode cX2_shareSight 20 = .ok (.ifCond .eq 63, 3) := by decide +kernel
theorem dX2_shareSight_23 : decode cX2_shareSight 23 = .ok (.aload_n 0, 1) := by decide +kernel
theorem dX2_shareSight_24 : decode cX2_shareSight 24 = .ok (.getfield 37, 3) := by decide +kernel
theorem dX2_shareSight_27 : decode cX2_shareSight 27 = .ok (.iload 4, 2) := by decide +kernel
theorem dX2_shareSight_29 : decode cX2_shareSight 29 = .ok (.iaload, 1) := by decide +kernel
theorem dX2_shareSight_30 : decode cX2_shareSight 30 = .ok (.aload_n 0, 1) := by decide +kernel
theorem dX2_shareSight_31 : decode cX2_shareSight 31 = .ok (.getfield 37, 3) := by decide +kernel
theorem dX2_shareSight_34 : decode cX2_shareSight 34 = .ok (.iload 5, 2) := by decide +kernel
theorem dX2_shareSight_36 : decode cX2_shareSight 36 = .ok (.iaload, 1) := by decide +kernel
theorem dX2_shareSight_37 : decode cX2_shareSight 37 = .ok (.if_icmp .ne 46, 3) := by decide +kernel
theorem dX2_shareSight_40 : decode cX2_shareSight 40 = .ok (.aload_n 0, 1) := by decide +kernel
theorem dX2_shareSight_41 : decode cX2_shareSight 41 = .ok (.getfield 49, 3) := by decide +kernel
theorem dX2_shareSight_44 : decode cX2_shareSight 44 = .ok (.iload 4, 2) := by decide +kernel
theorem dX2_shareSight_46 : decode cX2_shareSight 46 = .ok (.iaload, 1) := by decide +kernel
theorem dX2_shareSight_47 : decode cX2_shareSight 47 = .ok (.aload_n 0, 1) := by decide +kernel
theorem dX2_shareSight_48 : decode cX2_shareSight 48 = .ok (.getfield 49, 3) := by decide +kernel
theorem dX2_shareSight_51 : decode cX2_shareSight 51 = .ok (.iload 5, 2) := by decide +kernel
theorem dX2_shareSight_53 : decode cX2_shareSight 53 = .ok (.iaload, 1) := by decide +kernel
theorem dX2_shareSight_54 : decode cX2_shareSight 54 = .ok (.ior, 1) := by decide +kernel
theorem dX2_shareSight_55 : decode cX2_shareSight 55 = .ok (.iconst 1, 1) := by decide +kernel
theorem dX2_shareSight_56 : decode cX2_shareSight 56 = .ok (.iload_n 1, 1) := by decide +kernel
theorem dX2_shareSight_57 : decode cX2_shareSight 57 = .ok (.ishl, 1) := by decide +kernel
theorem dX2_shareSight_58 : decode cX2_shareSight 58 = .ok (.ior, 1) := by decide +kernel
theorem dX2_shareSight_59 : decode cX2_shareSight 59 = .ok (.iconst 1, 1) := by decide +kernel
theorem dX2_shareSight_60 : decode cX2_shareSight 60 = .ok (.iload_n 2, 1) := by decide +kernel
theorem dX2_shareSight_61 : decode cX2_shareSight 61 = .ok (.ishl, 1) := by decide +kernel
theorem dX2_shareSight_62 : decode cX2_shareSight 62 = .ok (.ior, 1) := by decide +kernel
theorem dX2_shareSight_63 : decode cX2_shareSight 63 = .ok (.istore 6, 2) := by decide +kernel
theorem dX2_shareSight_65 : decode cX2_shareSight 65 = .ok (.aload_n 0, 1) := by decide +kernel
theorem dX2_shareSight_66 : decode cX2_shareSight 66 = .ok (.getfield 49, 3) := by decide +kernel
theorem dX2_shareSight_69 : decode cX2_shareSight 69 = .ok (.iload 4, 2) := by decide +kernel
theorem dX2_shareSight_71 : decode cX2_shareSight 71 = .ok (.iload 6, 2) := by decide +kernel
theorem dX2_shareSight_73 : decode cX2_shareSight 73 = .ok (.iastore, 1) := by decide +kernel
theorem dX2_shareSight_74 : decode cX2_shareSight 74 = .ok (.aload_n 0, 1) := by decide +kernel
theorem dX2_shareSight_75 : decode cX2_shareSight 75 = .ok (.getfield 49, 3) := by decide +kernel
theorem dX2_shareSight_78 : decode cX2_shareSight 78 = .ok (.iload 5, 2) := by decide +kernel
theorem dX2_shareSight_80 : decode cX2_shareSight 80 = .ok (.iload 6, 2) := by decide +kernel
theorem dX2_shareSight_82 : decode cX2_shareSight 82 = .ok (.iastore, 1) := by decide +kernel
theorem dX2_shareSight_83 : decode cX2_shareSight 83 = .ok (.return_, 1) := by decide +kernel
theorem dX2_letGoBy_0 : decode cX2_letGoBy 0 = .ok (.iload_n 1, 1) := by decide +kernel
theorem dX2_letGoBy_1 : decode cX2_letGoBy 1 = .ok (.iconst 1, 1) := by decide +kernel
theorem dX2_letGoBy_2 : decode cX2_letGoBy 2 = .ok (.if_icmp .lt 9, 3) := by decide +kernel
theorem dX2_letGoBy_5 : decode cX2_letGoBy 5 = .ok (.iload_n 1, 1) := by decide +kernel
theorem dX2_letGoBy_6 : decode cX2_letGoBy 6 = .ok (.bipush 60, 2) := by decide +kernel
theorem dX2_letGoBy_8 : decode cX2_letGoBy 8 = .ok (.if_icmp .le 6, 3) := by decide +kernel
theorem dX2_letGoBy_11 : decode cX2_letGoBy 11 = .ok (.ldc 73, 2) := by decide +kernel
theorem dX2_letGoBy_13 : decode cX2_letGoBy 13 = .ok (.ireturn, 1) := by decide +kernel
theorem dX2_letGoBy_14 : decode cX2_letGoBy 14 = .ok (.aload_n 0, 1) := by decide +kernel
theorem dX2_letGoBy_15 : decode cX2_letGoBy 15 = .ok (.getfield 15, 3) := by decide +kernel
theorem dX2_letGoBy_18 : decode cX2_letGoBy 18 = .ok (.iload_n 1, 1) := by decide +kernel
theorem dX2_letGoBy_19 : decode cX2_letGoBy 19 = .ok (.iadd, 1) := by decide +kernel
theorem dX2_letGoBy_20 : decode cX2_letGoBy 20 = .ok (.ldc 154, 2) := by decide +kernel
theorem dX2_letGoBy_22 : decode cX2_letGoBy 22 = .ok (.if_icmp .le 6, 3) := by decide +kernel
theorem dX2_letGoBy_25 : decode cX2_letGoBy 25 = .ok (.ldc 72, 2) := by decide +kernel
theorem dX2_letGoBy_27 : decode cX2_letGoBy 27 = .ok (.ireturn, 1) := by decide +kernel
theorem dX2_letGoBy_28 : decode cX2_letGoBy 28 = .ok (.aload_n 0, 1) := by decide +kernel
theorem dX2_letGoBy_29 : decode cX2_letGoBy 29 = .ok (.iload_n 1, 1) := by decide +kernel
theorem dX2_letGoBy_30 : decode cX2_letGoBy 30 = .ok (.invokevirtual 155, 3) := by decide +kernel
theorem dX2_letGoBy_33 : decode cX2_letGoBy 33 = .ok (.ireturn, 1) := by decide +kernel
theorem dX2_pass_0 : decode cX2_pass 0 = .ok (.aload_n 0, 1) := by decide +kernel
theorem dX2_pass_1 : decode cX2_pass 1 = .ok (.dup, 1) := by decide +kernel
theorem dX2_pass_2 : decode cX2_pass 2 = .ok (.getfield 15, 3) := by decide +kernel
theorem dX2_pass_5 : decode cX2_pass 5 = .ok (.iload_n 1, 1) := by decide +kernel
theorem dX2_pass_6 : decode cX2_pass 6 = .ok (.iadd, 1) := by decide +kernel
theorem dX2_pass_7 : decode cX2_pass 7 = .ok (.putfield 15, 3) := by decide +kernel
theorem dX2_pass_10 : decode cX2_pass 10 = .ok (.iconst 0, 1) := by decide +kernel
theorem dX2_pass_11 : decode cX2_pass 11 = .ok (.istore_n 2, 1) := by decide +kernel
theorem dX2_pass_12 : decode cX2_pass 12 = .ok (.aload_n 0, 1) := by decide +kernel
theorem dX2_pass_13 : decode cX2_pass 13 = .ok (.invokevirtual 158, 3) := by decide +kernel
theorem dX2_pass_16 : decode cX2_pass 16 = .ok (.istore_n 3, 1) := by decide +kernel
theorem dX2_pass_17 : decode cX2_pass 17 = .ok (.iconst 0, 1) := by decide +kernel
theorem dX2_pass_18 : decode cX2_pass 18 = .ok (.istore 4, 2) := by decide +kernel
theorem dX2_pass_20 : decode cX2_pass 20 = .ok (.iload 4, 2) := by decide +kernel
theorem dX2_pass_22 : decode cX2_pass 22 = .ok (.aload_n 0, 1) := by decide +kernel
theorem dX2_pass_23 : decode cX2_pass 23 = .ok (.getfield 9, 3) := by decide +kernel
theorem dX2_pass_26 : decode cX2_pass 26 = .ok (.if_icmp .ge 88, 3) := by decide +kernel
theorem dX2_pass_29 : decode cX2_pass 29 = .ok (.iconst 0, 1) := by decide +kernel
theorem dX2_pass_30 : decode cX2_pass 30 = .ok (.istore 5, 2) := by decide +kernel
theorem dX2_pass_32 : decode cX2_pass 32 = .ok (.iload 5, 2) := by decide +kernel
theorem dX2_pass_34 : decode cX2_pass 34 = .ok (.bipush 12, 2) := by decide +kernel
theorem dX2_pass_36 : decode cX2_pass 36 = .ok (.if_icmp .ge 72, 3) := by decide +kernel
theorem dX2_pass_39 : decode cX2_pass 39 = .ok (.iload 4, 2) := by decide +kernel
theorem dX2_pass_41 : decode cX2_pass 41 = .ok (.iload 5, 2) := by decide +kernel
theorem dX2_pass_43 : decode cX2_pass 43 = .ok (.invokestatic 88, 3) := by decide +kernel
theorem dX2_pass_46 : decode cX2_pass 46 = .ok (.istore 6, 2) := by decide +kernel
theorem dX2_pass_48 : decode cX2_pass 48 = .ok (.aload_n 0, 1) := by decide +kernel
theorem dX2_pass_49 : decode cX2_pass 49 = .ok (.iload 6, 2) := by decide +kernel
theorem dX2_pass_51 : decode cX2_pass 51 = .ok (.invokevirtual 95, 3) := by decide +kernel
theorem dX2_pass_54 : decode cX2_pass 54 = .ok (.ifCond .eq 48, 3) := by decide +kernel
theorem dX2_pass_57 : decode cX2_pass 57 = .ok (.aload_n 0, 1) := by decide +kernel
theorem dX2_pass_58 : decode cX2_pass 58 = .ok (.iload 6, 2) := by decide +kernel
theorem dX2_pass_60 : decode cX2_pass 60 = .ok (.iload_n 3, 1) := by decide +kernel
theorem dX2_pass_61 : decode cX2_pass 61 = .ok (.invokevirtual 162, 3) := by decide +kernel
theorem dX2_pass_64 : decode cX2_pass 64 = .ok (.ifCond .eq 38, 3) := by decide +kernel
theorem dX2_pass_67 : decode cX2_pass 67 = .ok (.aload_n 0, 1) := by decide +kernel
theorem dX2_pass_68 : decode cX2_pass 68 = .ok (.getfield 52, 3) := by decide +kernel
theorem dX2_pass_71 : decode cX2_pass 71 = .ok (.iload 6, 2) := by decide +kernel
theorem dX2_pass_73 : decode cX2_pass 73 = .ok (.aload_n 0, 1) := by decide +kernel
theorem dX2_pass_74 : decode cX2_pass 74 = .ok (.getfield 52, 3) := by decide +kernel
theorem dX2_pass_77 : decode cX2_pass 77 = .ok (.iload 6, 2) := by decide +kernel
theorem dX2_pass_79 : decode cX2_pass 79 = .ok (.iaload, 1) := by decide +kernel
theorem dX2_pass_80 : decode cX2_pass 80 = .ok (.aload_n 0, 1) := by decide +kernel
theorem dX2_pass_81 : decode cX2_pass 81 = .ok (.getfield 37, 3) := by decide +kernel
theorem dX2_pass_84 : decode cX2_pass 84 = .ok (.iload 6, 2) := by decide +kernel
theorem dX2_pass_86 : decode cX2_pass 86 = .ok (.iaload, 1) := by decide +kernel
theorem dX2_pass_87 : decode cX2_pass 87 = .ok (.invokestatic 123, 3) := by decide +kernel
theorem dX2_pass_90 : decode cX2_pass 90 = .ok (.iastore, 1) := by decide +kernel
theorem dX2_pass_91 : decode cX2_pass 91 = .ok (.aload_n 0, 1) := by decide +kernel
theorem dX2_pass_92 : decode cX2_pass 92 = .ok (.getfield 37, 3) := by decide +kernel
theorem dX2_pass_95 : decode cX2_pass 95 = .ok (.iload 6, 2) := by decide +kernel
theorem dX2_pass_97 : decode cX2_pass 97 = .ok (.iconst 0, 1) := by decide +kernel
theorem dX2_pass_98 : decode cX2_pass 98 = .ok (.iastore, 1) := by decide +kernel
theorem dX2_pass_99 : decode cX2_pass 99 = .ok (.iinc 2 1, 3) := by decide +kernel
theorem dX2_pass_102 : decode cX2_pass 102 = .ok (.iinc 5 1, 3) := by decide +kernel
theorem dX2_pass_105 : decode cX2_pass 105 = .ok (.goto (-73), 3) := by decide +kernel
theorem dX2_pass_108 : decode cX2_pass 108 = .ok (.iinc 4 1, 3) := by decide +kernel
theorem dX2_pass_111 : decode cX2_pass 111 = .ok (.goto (-91), 3) := by decide +kernel
theorem dX2_pass_114 : decode cX2_pass 114 = .ok (.iload_n 2, 1) := by decide +kernel
theorem dX2_pass_115 : decode cX2_pass 115 = .ok (.ireturn, 1) := by decide +kernel
theorem dX2_isOver_0 : decode cX2_isOver 0 = .ok (.iload_n 2, 1) := by decide +kernel
theorem dX2_isOver_1 : decode cX2_isOver 1 = .ok (.aload_n 0, 1) := by decide +kernel
theorem dX2_isOver_2 : decode cX2_isOver 2 = .ok (.getfield 49, 3) := by decide +kernel
theorem dX2_isOver_5 : decode cX2_isOver 5 = .ok (.iload_n 1, 1) := by decide +kernel
theorem dX2_isOver_6 : decode cX2_isOver 6 = .ok (.iaload, 1) := by decide +kernel
theorem dX2_isOver_7 : decode cX2_isOver 7 = .ok (.iconst (-1), 1) := by decide +kernel
theorem dX2_isOver_8 : decode cX2_isOver 8 = .ok (.ixor, 1) := by decide +kernel
theorem dX2_isOver_9 : decode cX2_isOver 9 = .ok (.iand, 1) := by decide +kernel
theorem dX2_isOver_10 : decode cX2_isOver 10 = .ok (.ifCond .eq 21, 3) := by decide +kernel
theorem dX2_isOver_13 : decode cX2_isOver 13 = .ok (.aload_n 0, 1) := by decide +kernel
theorem dX2_isOver_14 : decode cX2_isOver 14 = .ok (.getfield 15, 3) := by decide +kernel
theorem dX2_isOver_17 : decode cX2_isOver 17 = .ok (.aload_n 0, 1) := by decide +kernel
theorem dX2_isOver_18 : decode cX2_isOver 18 = .ok (.getfield 46, 3) := by decide +kernel
theorem dX2_isOver_21 : decode cX2_isOver 21 = .ok (.iload_n 1, 1) := by decide +kernel
theorem dX2_isOver_22 : decode cX2_isOver 22 = .ok (.iaload, 1) := by decide +kernel
theorem dX2_isOver_23 : decode cX2_isOver 23 = .ok (.isub, 1) := by decide +kernel
theorem dX2_isOver_24 : decode cX2_isOver 24 = .ok (.aload_n 0, 1) := by decide +kernel
theorem dX2_isOver_25 : decode cX2_isOver 25 = .ok (.getfield 18, 3) := by decide +kernel
theorem dX2_isOver_28 : decode cX2_isOver 28 = .ok (.if_icmp .lt 7, 3) := by decide +kernel
theorem dX2_isOver_31 : decode cX2_isOver 31 = .ok (.iconst 1, 1) := by decide +kernel
theorem dX2_isOver_32 : decode cX2_isOver 32 = .ok (.goto 4, 3) := by decide +kernel
theorem dX2_isOver_35 : decode cX2_isOver 35 = .ok (.iconst 0, 1) := by decide +kernel
theorem dX2_isOver_36 : decode cX2_isOver 36 = .ok (.ireturn, 1) := by decide +kernel
theorem dX2_present_0 : decode cX2_present 0 = .ok (.iconst 0, 1) := by decide +kernel
theorem dX2_present_1 : decode cX2_present 1 = .ok (.istore_n 1, 1) := by decide +kernel
theorem dX2_present_2 : decode cX2_present 2 = .ok (.iconst 0, 1) := by decide +kernel
theorem dX2_present_3 : decode cX2_present 3 = .ok (.istore_n 2, 1) := by decide +kernel
theorem dX2_present_4 : decode cX2_present 4 = .ok (.iload_n 2, 1) := by decide +kernel
theorem dX2_present_5 : decode cX2_present 5 = .ok (.aload_n 0, 1) := by decide +kernel
theorem dX2_present_6 : decode cX2_present 6 = .ok (.getfield 9, 3) := by decide +kernel
theorem dX2_present_9 : decode cX2_present 9 = .ok (.if_icmp .ge 25, 3) := by decide +kernel
theorem dX2_present_12 : decode cX2_present 12 = .ok (.aload_n 0, 1) := by decide +kernel
theorem dX2_present_13 : decode cX2_present 13 = .ok (.getfield 24, 3) := by decide +kernel
theorem dX2_present_16 : decode cX2_present 16 = .ok (.iload_n 2, 1) := by decide +kernel
theorem dX2_present_17 : decode cX2_present 17 = .ok (.iaload, 1) := by decide +kernel
theorem dX2_present_18 : decode cX2_present 18 = .ok (.iconst 2, 1) := by decide +kernel
theorem dX2_present_19 : decode cX2_present 19 = .ok (.if_icmp .eq 9, 3) := by decide +kernel
theorem dX2_present_22 : decode cX2_present 22 = .ok (.iload_n 1, 1) := by decide +kernel
theorem dX2_present_23 : decode cX2_present 23 = .ok (.iconst 1, 1) := by decide +kernel
theorem dX2_present_24 : decode cX2_present 24 = .ok (.iload_n 2, 1) := by decide +kernel
theorem dX2_present_25 : decode cX2_present 25 = .ok (.ishl, 1) := by decide +kernel
theorem dX2_present_26 : decode cX2_present 26 = .ok (.ior, 1) := by decide +kernel
theorem dX2_present_27 : decode cX2_present 27 = .ok (.istore_n 1, 1) := by decide +kernel
theorem dX2_present_28 : decode cX2_present 28 = .ok (.iinc 2 1, 3) := by decide +kernel
theorem dX2_present_31 : decode cX2_present 31 = .ok (.goto (-27), 3) := by decide +kernel
theorem dX2_present_34 : decode cX2_present 34 = .ok (.iload_n 1, 1) := by decide +kernel
theorem dX2_present_35 : decode cX2_present 35 = .ok (.ireturn, 1) := by decide +kernel
theorem dX3_init_0 : decode cX3_init 0 = .ok (.aload_n 0, 1) := by decide +kernel
theorem dX3_init_1 : decode cX3_init 1 = .ok (.invokespecial 1, 3) := by decide +kernel
theorem dX3_init_4 : decode cX3_init 4 = .ok (.aload_n 0, 1) := by decide +kernel
theorem dX3_init_5 : decode cX3_init 5 = .ok (.new 7, 3) := by decide +kernel
theorem dX3_init_8 : decode cX3_init 8 = .ok (.dup, 1) := by decide +kernel
theorem dX3_init_9 : decode cX3_init 9 = .ok (.invokespecial 9, 3) := by decide +kernel
theorem dX3_init_12 : decode cX3_init 12 = .ok (.putfield 10, 3) := by decide +kernel
theorem dX3_init_15 : decode cX3_init 15 = .ok (.aload_n 0, 1) := by decide +kernel
theorem dX3_init_16 : decode cX3_init 16 = .ok (.new 7, 3) := by decide +kernel
theorem dX3_init_19 : decode cX3_init 19 = .ok (.dup, 1) := by decide +kernel
theorem dX3_init_20 : decode cX3_init 20 = .ok (.invokespecial 9, 3) := by decide +kernel
theorem dX3_init_23 : decode cX3_init 23 = .ok (.putfield 16, 3) := by decide +kernel
theorem dX3_init_26 : decode cX3_init 26 = .ok (.aload_n 0, 1) := by decide +kernel
theorem dX3_init_27 : decode cX3_init 27 = .ok (.new 19, 3) := by decide +kernel
theorem dX3_init_30 : decode cX3_init 30 = .ok (.dup, 1) := by decide +kernel
theorem dX3_init_31 : decode cX3_init 31 = .ok (.invokespecial 21, 3) := by decide +kernel
theorem dX3_init_34 : decode cX3_init 34 = .ok (.putfield 22, 3) := by decide +kernel
theorem dX3_init_37 : decode cX3_init 37 = .ok (.aload_n 0, 1) := by decide +kernel
theorem dX3_init_38 : decode cX3_init 38 = .ok (.new 26, 3) := by decide +kernel
theorem dX3_init_41 : decode cX3_init 41 = .ok (.dup, 1) := by decide +kernel
theorem dX3_init_42 : decode cX3_init 42 = .ok (.invokespecial 28, 3) := by decide +kernel
theorem dX3_init_45 : decode cX3_init 45 = .ok (.putfield 29, 3) := by decide +kernel
theorem dX3_init_48 : decode cX3_init 48 = .ok (.return_, 1) := by decide +kernel
theorem dX3_villager_0 : decode cX3_villager 0 = .ok (.aload_n 0, 1) := by decide +kernel
theorem dX3_villager_1 : decode cX3_villager 1 = .ok (.getfield 22, 3) := by decide +kernel
theorem dX3_villager_4 : decode cX3_villager 4 = .ok (.aload_n 0, 1) := by decide +kernel
theorem dX3_villager_5 : decode cX3_villager 5 = .ok (.getfield 10, 3) := by decide +kernel
theorem dX3_villager_8 : decode cX3_villager 8 = .ok (.invokevirtual 33, 3) := by decide +kernel
theorem dX3_villager_11 : decode cX3_villager 11 = .ok (.aload_n 0, 1) := by decide +kernel
theorem dX3_villager_12 : decode cX3_villager 12 = .ok (.aload_n 0, 1) := by decide +kernel
theorem dX3_villager_13 : decode cX3_villager 13 = .ok (.getfield 10, 3) := by decide +kernel
theorem dX3_villager_16 : decode cX3_villager 16 = .ok (.invokevirtual 37, 3) := by decide +kernel
theorem dX3_villager_19 : decode cX3_villager 19 = .ok (.invokevirtual 41, 3) := by decide +kernel
theorem dX3_villager_22 : decode cX3_villager 22 = .ok (.ireturn, 1) := by decide +kernel
theorem dX3_sleep_0 : decode cX3_sleep 0 = .ok (.aload_n 0, 1) := by decide +kernel
theorem dX3_sleep_1 : decode cX3_sleep 1 = .ok (.getfield 22, 3) := by decide +kernel
theorem dX3_sleep_4 : decode cX3_sleep 4 = .ok (.aload_n 0, 1) := by decide +kernel
theorem dX3_sleep_5 : decode cX3_sleep 5 = .ok (.getfield 10, 3) := by decide +kernel
theorem dX3_sleep_8 : decode cX3_sleep 8 = .ok (.invokevirtual 33, 3) := by decide +kernel
theorem dX3_sleep_11 : decode cX3_sleep 11 = .ok (.aload_n 0, 1) := by decide +kernel
theorem dX3_sleep_12 : decode cX3_sleep 12 = .ok (.aload_n 0, 1) := by decide +kernel
theorem dX3_sleep_13 : decode cX3_sleep 13 = .ok (.getfield 10, 3) := by decide +kernel
theorem dX3_sleep_16 : decode cX3_sleep 16 = .ok (.iload_n 1, 1) := by decide +kernel
theorem dX3_sleep_17 : decode cX3_sleep 17 = .ok (.invokevirtual 45, 3) := by decide +kernel
theorem dX3_sleep_20 : decode cX3_sleep 20 = .ok (.invokevirtual 41, 3) := by decide +kernel
theorem dX3_sleep_23 : decode cX3_sleep 23 = .ok (.ireturn, 1) := by decide +kernel
theorem dX3_wake_0 : decode cX3_wake 0 = .ok (.aload_n 0, 1) := by decide +kernel
theorem dX3_wake_1 : decode cX3_wake 1 = .ok (.getfield 22, 3) := by decide +kernel
theorem dX3_wake_4 : decode cX3_wake 4 = .ok (.aload_n 0, 1) := by decide +kernel
theorem dX3_wake_5 : decode cX3_wake 5 = .ok (.getfield 10, 3) := by decide +kernel
theorem dX3_wake_8 : decode cX3_wake 8 = .ok (.invokevirtual 33, 3) := by decide +kernel
theorem dX3_wake_11 : decode cX3_wake 11 = .ok (.aload_n 0, 1) := by decide +kernel
theorem dX3_wake_12 : decode cX3_wake 12 = .ok (.aload_n 0, 1) := by decide +kernel
theorem dX3_wake_13 : decode cX3_wake 13 = .ok (.getfield 10, 3) := by decide +kernel
theorem dX3_wake_16 : decode cX3_wake 16 = .ok (.iload_n 1, 1) := by decide +kernel
theorem dX3_wake_17 : decode cX3_wake 17 = .ok (.invokevirtual 48, 3) := by decide +kernel
theorem dX3_wake_20 : decode cX3_wake 20 = .ok (.invokevirtual 41, 3) := by decide +kernel
theorem dX3_wake_23 : decode cX3_wake 23 = .ok (.ireturn, 1) := by decide +kernel
theorem dX3_leave_0 : decode cX3_leave 0 = .ok (.aload_n 0, 1) := by decide +kernel
theorem dX3_leave_1 : decode cX3_leave 1 = .ok (.getfield 22, 3) := by decide +kernel
theorem dX3_leave_4 : decode cX3_leave 4 = .ok (.aload_n 0, 1) := by decide +kernel
theorem dX3_leave_5 : decode cX3_leave 5 = .ok (.getfield 10, 3) := by decide +kernel
theorem dX3_leave_8 : decode cX3_leave 8 = .ok (.invokevirtual 33, 3) := by decide +kernel
theorem dX3_leave_11 : decode cX3_leave 11 = .ok (.aload_n 0, 1) := by decide +kernel
theorem dX3_leave_12 : decode cX3_leave 12 = .ok (.aload_n 0, 1) := by decide +kernel
theorem dX3_leave_13 : decode cX3_leave 13 = .ok (.getfield 10, 3) := by decide +kernel
theorem dX3_leave_16 : decode cX3_leave 16 = .ok (.iload_n 1, 1) := by decide +kernel
theorem dX3_leave_17 : decode cX3_leave 17 = .ok (.invokevirtual 51, 3) := by decide +kernel
theorem dX3_leave_20 : decode cX3_leave 20 = .ok (.invokevirtual 41, 3) := by decide +kernel
theorem dX3_leave_23 : decode cX3_leave 23 = .ok (.ireturn, 1) := by decide +kernel
theorem dX3_watch_0 : decode cX3_watch 0 = .ok (.aload_n 0, 1) := by decide +kernel
theorem dX3_watch_1 : decode cX3_watch 1 = .ok (.getfield 22, 3) := by decide +kernel
theorem dX3_watch_4 : decode cX3_watch 4 = .ok (.aload_n 0, 1) := by decide +kernel
theorem dX3_watch_5 : decode cX3_watch 5 = .ok (.getfield 10, 3) := by decide +kernel
theorem dX3_watch_8 : decode cX3_watch 8 = .ok (.invokevirtual 33, 3) := by decide +kernel
theorem dX3_watch_11 : decode cX3_watch 11 = .ok (.aload_n 0, 1) := by decide +kernel
theorem dX3_watch_12 : decode cX3_watch 12 = .ok (.aload_n 0, 1) := by decide +kernel
theorem dX3_watch_13 : decode cX3_watch 13 = .ok (.getfield 10, 3) := by decide +kernel
theorem dX3_watch_16 : decode cX3_watch 16 = .ok (.iload_n 1, 1) := by decide +kernel
theorem dX3_watch_17 : decode cX3_watch 17 = .ok (.invokevirtual 54, 3) := by decide +kernel
theorem dX3_watch_20 : decode cX3_watch 20 = .ok (.invokevirtual 41, 3) := by decide +kernel
theorem dX3_watch_23 : decode cX3_watch 23 = .ok (.ireturn, 1) := by decide +kernel
theorem dX3_villagerOf_0 : decode cX3_villagerOf 0 = .ok (.aload_n 0, 1) := by decide +kernel
theorem dX3_villagerOf_1 : decode cX3_villagerOf 1 = .ok (.getfield 10, 3) := by decide +kernel
theorem dX3_villagerOf_4 : decode cX3_villagerOf 4 = .ok (.iload_n 1, 1) := by decide +kernel
theorem dX3_villagerOf_5 : decode cX3_villagerOf 5 = .ok (.invokevirtual 57, 3) := by decide +kernel
theorem dX3_villagerOf_8 : decode cX3_villagerOf 8 = .ok (.ifCond .ne 6, 3) := by decide +kernel
theorem dX3_villagerOf_11 : decode cX3_villagerOf 11 = .ok (.ldc 61, 2) := by decide +kernel
theorem dX3_villagerOf_13 : decode cX3_villagerOf 13 = .ok (.ireturn, 1) := by decide +kernel
theorem dX3_villagerOf_14 : decode cX3_villagerOf 14 = .ok (.iload_n 2, 1) := by decide +kernel
theorem dX3_villagerOf_15 : decode cX3_villagerOf 15 = .ok (.tableswitch 110 0 5 #[37, 47, 57, 66, 75, 85], 37) := by decide +kernel
theorem dX3_villagerOf_52 : decode cX3_villagerOf 52 = .ok (.aload_n 0, 1) := by decide +kernel
theorem dX3_villagerOf_53 : decode cX3_villagerOf 53 = .ok (.getfield 10, 3) := by decide +kernel
theorem dX3_villagerOf_56 : decode cX3_villagerOf 56 = .ok (.getfield 62, 3) := by decide +kernel
theorem dX3_villagerOf_59 : decode cX3_villagerOf 59 = .ok (.iload_n 1, 1) := by decide +kernel
theorem dX3_villagerOf_60 : decode cX3_villagerOf 60 = .ok (.iaload, 1) := by decide +kernel
theorem dX3_villagerOf_61 : decode cX3_villagerOf 61 = .ok (.ireturn, 1) := by decide +kernel
theorem dX3_villagerOf_62 : decode cX3_villagerOf 62 = .ok (.aload_n 0, 1) := by decide +kernel
theorem dX3_villagerOf_63 : decode cX3_villagerOf 63 = .ok (.getfield 10, 3) := by decide +kernel
theorem dX3_villagerOf_66 : decode cX3_villagerOf 66 = .ok (.getfield 66, 3) := by decide +kernel
theorem dX3_villagerOf_69 : decode cX3_villagerOf 69 = .ok (.iload_n 1, 1) := by decide +kernel
theorem dX3_villagerOf_70 : decode cX3_villagerOf 70 = .ok (.iaload, 1) := by decide +kernel
theorem dX3_villagerOf_71 : decode cX3_villagerOf 71 = .ok (.ireturn, 1) := by decide +kernel
theorem dX3_villagerOf_72 : decode cX3_villagerOf 72 = .ok (.aload_n 0, 1) := by decide +kernel
theorem dX3_villagerOf_73 : decode cX3_villagerOf 73 = .ok (.getfield 10, 3) := by decide +kernel
theorem dX3_villagerOf_76 : decode cX3_villagerOf 76 = .ok (.iload_n 1, 1) := by decide +kernel
theorem dX3_villagerOf_77 : decode cX3_villagerOf 77 = .ok (.invokevirtual 69, 3) := by decide +kernel
theorem dX3_villagerOf_80 : decode cX3_villagerOf 80 = .ok (.ireturn, 1) := by decide +kernel
theorem dX3_villagerOf_81 : decode cX3_villagerOf 81 = .ok (.aload_n 0, 1) := by decide +kernel
theorem dX3_villagerOf_82 : decode cX3_villagerOf 82 = .ok (.getfield 10, 3) := by decide +kernel
theorem dX3_villagerOf_85 : decode cX3_villagerOf 85 = .ok (.iload_n 1, 1) := by decide +kernel
theorem dX3_villagerOf_86 : decode cX3_villagerOf 86 = .ok (.invokevirtual 72, 3) := by decide +kernel
theorem dX3_villagerOf_89 : decode cX3_villagerOf 89 = .ok (.ireturn, 1) := by decide +kernel
theorem dX3_villagerOf_90 : decode cX3_villagerOf 90 = .ok (.aload_n 0, 1) := by decide +kernel
theorem dX3_villagerOf_91 : decode cX3_villagerOf 91 = .ok (.getfield 10, 3) := by decide +kernel
theorem dX3_villagerOf_94 : decode cX3_villagerOf 94 = .ok (.getfield 75, 3) := by decide +kernel
theorem dX3_villagerOf_97 : decode cX3_villagerOf 97 = .ok (.iload_n 1, 1) := by decide +kernel
theorem dX3_villagerOf_98 : decode cX3_villagerOf 98 = .ok (.iaload, 1) := by decide +kernel
theorem dX3_villagerOf_99 : decode cX3_villagerOf 99 = .ok (.ireturn, 1) := by decide +kernel
theorem dX3_villagerOf_100 : decode cX3_villagerOf 100 = .ok (.aload_n 0, 1) := by decide +kernel
theorem dX3_villagerOf_101 : decode cX3_villagerOf 101 = .ok (.getfield 10, 3) := by decide +kernel
theorem dX3_villagerOf_104 : decode cX3_villagerOf 104 = .ok (.iload_n 1, 1) := by decide +kernel
theorem dX3_villagerOf_105 : decode cX3_villagerOf 105 = .ok (.invokevirtual 78, 3) := by decide +kernel
theorem dX3_villagerOf_108 : decode cX3_villagerOf 108 = .ok (.ifCond .eq 14, 3) := by decide +kernel
theorem dX3_villagerOf_111 : decode cX3_villagerOf 111 = .ok (.aload_n 0, 1) := by decide +kernel
theorem dX3_villagerOf_112 : decode cX3_villagerOf 112 = .ok (.getfield 10, 3) := by decide +kernel
theorem dX3_villagerOf_115 : decode cX3_villagerOf 115 = .ok (.iload_n 1, 1) := by decide +kernel
theorem dX3_villagerOf_116 : decode cX3_villagerOf 116 = .ok (.invokevirtual 81, 3) := by decide +kernel
theorem dX3_villagerOf_119 : decode cX3_villagerOf 119 = .ok (.goto 5, 3) := by decide +kernel
theorem dX3_villagerOf_122 : decode cX3_villagerOf 122 = .ok (.ldc 84, 2) := by decide +kernel
theorem dX3_villagerOf_124 : decode cX3_villagerOf 124 = .ok (.ireturn, 1) := by decide +kernel
theorem dX3_villagerOf_125 : decode cX3_villagerOf 125 = .ok (.ldc 61, 2) := by decide +kernel
theorem dX3_villagerOf_127 : decode cX3_villagerOf 127 = .ok (.ireturn, 1) := by decide +kernel
theorem dX3_tell_0 : decode cX3_tell 0 = .ok (.aload_n 0, 1) := by decide +kernel
theorem dX3_tell_1 : decode cX3_tell 1 = .ok (.getfield 22, 3) := by decide +kernel
theorem dX3_tell_4 : decode cX3_tell 4 = .ok (.aload_n 0, 1) := by decide +kernel
theorem dX3_tell_5 : decode cX3_tell 5 = .ok (.getfield 10, 3) := by decide +kernel
theorem dX3_tell_8 : decode cX3_tell 8 = .ok (.invokevirtual 33, 3) := by decide +kernel
theorem dX3_tell_11 : decode cX3_tell 11 = .ok (.aload_n 0, 1) := by decide +kernel
theorem dX3_tell_12 : decode cX3_tell 12 = .ok (.aload_n 0, 1) := by decide +kernel
theorem dX3_tell_13 : decode cX3_tell 13 = .ok (.getfield 10, 3) := by decide +kernel
theorem dX3_tell_16 : decode cX3_tell 16 = .ok (.iload_n 1, 1) := by decide +kernel
theorem dX3_tell_17 : decode cX3_tell 17 = .ok (.iload_n 2, 1) := by decide +kernel
theorem dX3_tell_18 : decode cX3_tell 18 = .ok (.iload_n 3, 1) := by decide +kernel
theorem dX3_tell_19 : decode cX3_tell 19 = .ok (.iload 4, 2) := by decide +kernel
theorem dX3_tell_21 : decode cX3_tell 21 = .ok (.invokevirtual 85, 3) := by decide +kernel
theorem dX3_tell_24 : decode cX3_tell 24 = .ok (.invokevirtual 41, 3) := by decide +kernel
theorem dX3_tell_27 : decode cX3_tell 27 = .ok (.ireturn, 1) := by decide +kernel
theorem dX3_bury_0 : decode cX3_bury 0 = .ok (.aload_n 0, 1) := by decide +kernel
theorem dX3_bury_1 : decode cX3_bury 1 = .ok (.getfield 22, 3) := by decide +kernel
theorem dX3_bury_4 : decode cX3_bury 4 = .ok (.aload_n 0, 1) := by decide +kernel
theorem dX3_bury_5 : decode cX3_bury 5 = .ok (.getfield 10, 3) := by decide +kernel
theorem dX3_bury_8 : decode cX3_bury 8 = .ok (.invokevirtual 33, 3) := by decide +kernel
theorem dX3_bury_11 : decode cX3_bury 11 = .ok (.aload_n 0, 1) := by decide +kernel
theorem dX3_bury_12 : decode cX3_bury 12 = .ok (.aload_n 0, 1) := by decide +kernel
theorem dX3_bury_13 : decode cX3_bury 13 = .ok (.getfield 10, 3) := by decide +kernel
theorem dX3_bury_16 : decode cX3_bury 16 = .ok (.iload_n 1, 1) := by decide +kernel
theorem dX3_bury_17 : decode cX3_bury 17 = .ok (.iload_n 2, 1) := by decide +kernel
theorem dX3_bury_18 : decode cX3_bury 18 = .ok (.invokevirtual 89, 3) := by decide +kernel
theorem dX3_bury_21 : decode cX3_bury 21 = .ok (.invokevirtual 41, 3) := by decide +kernel
theorem dX3_bury_24 : decode cX3_bury 24 = .ok (.ireturn, 1) := by decide +kernel
theorem dX3_meet_0 : decode cX3_meet 0 = .ok (.aload_n 0, 1) := by decide +kernel
theorem dX3_meet_1 : decode cX3_meet 1 = .ok (.getfield 22, 3) := by decide +kernel
theorem dX3_meet_4 : decode cX3_meet 4 = .ok (.aload_n 0, 1) := by decide +kernel
theorem dX3_meet_5 : decode cX3_meet 5 = .ok (.getfield 10, 3) := by decide +kernel
theorem dX3_meet_8 : decode cX3_meet 8 = .ok (.invokevirtual 33, 3) := by decide +kernel
theorem dX3_meet_11 : decode cX3_meet 11 = .ok (.aload_n 0, 1) := by decide +kernel
theorem dX3_meet_12 : decode cX3_meet 12 = .ok (.aload_n 0, 1) := by decide +kernel
theorem dX3_meet_13 : decode cX3_meet 13 = .ok (.getfield 10, 3) := by decide +kernel
theorem dX3_meet_16 : decode cX3_meet 16 = .ok (.iload_n 1, 1) := by decide +kernel
theorem dX3_meet_17 : decode cX3_meet 17 = .ok (.iload_n 2, 1) := by decide +kernel
theorem dX3_meet_18 : decode cX3_meet 18 = .ok (.invokevirtual 93, 3) := by decide +kernel
theorem dX3_meet_21 : decode cX3_meet 21 = .ok (.invokevirtual 41, 3) := by decide +kernel
theorem dX3_meet_24 : decode cX3_meet 24 = .ok (.ireturn, 1) := by decide +kernel
theorem dX3_entryOf_0 : decode cX3_entryOf 0 = .ok (.aload_n 0, 1) := by decide +kernel
theorem dX3_entryOf_1 : decode cX3_entryOf 1 = .ok (.getfield 10, 3) := by decide +kernel
theorem dX3_entryOf_4 : decode cX3_entryOf 4 = .ok (.iload_n 1, 1) := by decide +kernel
theorem dX3_entryOf_5 : decode cX3_entryOf 5 = .ok (.invokevirtual 57, 3) := by decide +kernel
theorem dX3_entryOf_8 : decode cX3_entryOf 8 = .ok (.ifCond .eq 20, 3) := by decide +kernel
theorem dX3_entryOf_11 : decode cX3_entryOf 11 = .ok (.iload_n 2, 1) := by decide +kernel
theorem dX3_entryOf_12 : decode cX3_entryOf 12 = .ok (.invokestatic 96, 3) := by decide +kernel
theorem dX3_entryOf_15 : decode cX3_entryOf 15 = .ok (.ifCond .eq 13, 3) := by decide +kernel
theorem dX3_entryOf_18 : decode cX3_entryOf 18 = .ok (.iload_n 3, 1) := by decide +kernel
theorem dX3_entryOf_19 : decode cX3_entryOf 19 = .ok (.ifCond .lt 9, 3) := by decide +kernel
theorem dX3_entryOf_22 : decode cX3_entryOf 22 = .ok (.iload_n 3, 1) := by decide +kernel
theorem dX3_entryOf_23 : decode cX3_entryOf 23 = .ok (.bipush 7, 2) := by decide +kernel
theorem dX3_entryOf_25 : decode cX3_entryOf 25 = .ok (.if_icmp .le 6, 3) := by decide +kernel
theorem dX3_entryOf_28 : decode cX3_entryOf 28 = .ok (.ldc 61, 2) := by decide +kernel
theorem dX3_entryOf_30 : decode cX3_entryOf 30 = .ok (.ireturn, 1) := by decide +kernel
theorem dX3_entryOf_31 : decode cX3_entryOf 31 = .ok (.iload_n 1, 1) := by decide +kernel
theorem dX3_entryOf_32 : decode cX3_entryOf 32 = .ok (.iload_n 2, 1) := by decide +kernel
theorem dX3_entryOf_33 : decode cX3_entryOf 33 = .ok (.invokestatic 99, 3) := by decide +kernel
theorem dX3_entryOf_36 : decode cX3_entryOf 36 = .ok (.istore 4, 2) := by decide +kernel
theorem dX3_entryOf_38 : decode cX3_entryOf 38 = .ok (.aload_n 0, 1) := by decide +kernel
theorem dX3_entryOf_39 : decode cX3_entryOf 39 = .ok (.getfield 10, 3) := by decide +kernel
theorem dX3_entryOf_42 : decode cX3_entryOf 42 = .ok (.getfield 102, 3) := by decide +kernel
theorem dX3_entryOf_45 : decode cX3_entryOf 45 = .ok (.iload 4, 2) := by decide +kernel
theorem dX3_entryOf_47 : decode cX3_entryOf 47 = .ok (.iaload, 1) := by decide +kernel
theorem dX3_entryOf_48 : decode cX3_entryOf 48 = .ok (.ifCond .ne 6, 3) := by decide +kernel
theorem dX3_entryOf_51 : decode cX3_entryOf 51 = .ok (.ldc 84, 2) := by decide +kernel
theorem dX3_entryOf_53 : decode cX3_entryOf 53 = .ok (.ireturn, 1) := by decide +kernel
theorem dX3_entryOf_54 : decode cX3_entryOf 54 = .ok (.aload_n 0, 1) := by decide +kernel
theorem dX3_entryOf_55 : decode cX3_entryOf 55 = .ok (.getfield 10, 3) := by decide +kernel
theorem dX3_entryOf_58 : decode cX3_entryOf 58 = .ok (.iload 4, 2) := by decide +kernel
theorem dX3_entryOf_60 : decode cX3_entryOf 60 = .ok (.invokevirtual 105, 3) := by decide +kernel
theorem dX3_entryOf_63 : decode cX3_entryOf 63 = .ok (.istore 5, 2) := by decide +kernel
theorem dX3_entryOf_65 : decode cX3_entryOf 65 = .ok (.iload_n 3, 1) := by decide +kernel
theorem dX3_entryOf_66 : decode cX3_entryOf 66 = .ok (.tableswitch 161 0 6 #[42, 53, 67, 77, 98, 119, 140], 42) := by decide +kernel
theorem dX3_entryOf_108 : decode cX3_entryOf 108 = .ok (.iload 5, 2) := by decide +kernel
theorem dX3_entryOf_110 : decode cX3_entryOf 110 = .ok (.ifCond .eq 7, 3) := by decide +kernel
theorem dX3_entryOf_113 : decode cX3_entryOf 113 = .ok (.iconst 1, 1) := by decide +kernel
theorem dX3_entryOf_114 : decode cX3_entryOf 114 = .ok (.goto 4, 3) := by decide +kernel
theorem dX3_entryOf_117 : decode cX3_entryOf 117 = .ok (.iconst 0, 1) := by decide +kernel
theorem dX3_entryOf_118 : decode cX3_entryOf 118 = .ok (.ireturn, 1) := by decide +kernel
theorem dX3_entryOf_119 : decode cX3_entryOf 119 = .ok (.aload_n 0, 1) := by decide +kernel
theorem dX3_entryOf_120 : decode cX3_entryOf 120 = .ok (.getfield 10, 3) := by decide +kernel
theorem dX3_entryOf_123 : decode cX3_entryOf 123 = .ok (.getfield 102, 3) := by decide +kernel
theorem dX3_entryOf_126 : decode cX3_entryOf 126 = .ok (.iload 4, 2) := by decide +kernel
theorem dX3_entryOf_128 : decode cX3_entryOf 128 = .ok (.iaload, 1) := by decide +kernel
theorem dX3_entryOf_129 : decode cX3_entryOf 129 = .ok (.bipush 8, 2) := by decide +kernel
theorem dX3_entryOf_131 : decode cX3_entryOf 131 = .ok (.idiv, 1) := by decide +kernel
theorem dX3_entryOf_132 : decode cX3_entryOf 132 = .ok (.ireturn, 1) := by decide +kernel
theorem dX3_entryOf_133 : decode cX3_entryOf 133 = .ok (.aload_n 0, 1) := by decide +kernel
theorem dX3_entryOf_134 : decode cX3_entryOf 134 = .ok (.getfield 10, 3) := by decide +kernel
theorem dX3_entryOf_137 : decode cX3_entryOf 137 = .ok (.iload 4, 2) := by decide +kernel
theorem dX3_entryOf_139 : decode cX3_entryOf 139 = .ok (.invokevirtual 108, 3) := by decide +kernel
theorem dX3_entryOf_142 : decode cX3_entryOf 142 = .ok (.ireturn, 1) := by decide +kernel
theorem dX3_entryOf_143 : decode cX3_entryOf 143 = .ok (.iload 5, 2) := by decide +kernel
theorem dX3_entryOf_145 : decode cX3_entryOf 145 = .ok (.ifCond .eq 8, 3) := by decide +kernel
theorem dX3_entryOf_148 : decode cX3_entryOf 148 = .ok (.ldc 84, 2) := by decide +kernel
theorem dX3_entryOf_150 : decode cX3_entryOf 150 = .ok (.goto 13, 3) := by decide +kernel
theorem dX3_entryOf_153 : decode cX3_entryOf 153 = .ok (.aload_n 0, 1) := by decide +kernel
theorem dX3_entryOf_154 : decode cX3_entryOf 154 = .ok (.getfield 10, 3) := by decide +kernel
theorem dX3_entryOf_157 : decode cX3_entryOf 157 = .ok (.getfield 111, 3) := by decide +kernel
theorem dX3_entryOf_160 : decode cX3_entryOf 160 = .ok (.iload 4, 2) := by decide +kernel
theorem dX3_entryOf_162 : decode cX3_entryOf 162 = .ok (.iaload, 1) := by decide +kernel
theorem dX3_entryOf_163 : decode cX3_entryOf 163 = .ok (.ireturn, 1) := by decide +kernel
theorem dX3_entryOf_164 : decode cX3_entryOf 164 = .ok (.iload 5, 2) := by decide +kernel
theorem dX3_entryOf_166 : decode cX3_entryOf 166 = .ok (.ifCond .eq 8, 3) := by decide +kernel
theorem dX3_entryOf_169 : decode cX3_entryOf 169 = .ok (.ldc 84, 2) := by decide +kernel
theorem dX3_entryOf_171 : decode cX3_entryOf 171 = .ok (.goto 13, 3) := by decide +kernel
theorem dX3_entryOf_174 : decode cX3_entryOf 174 = .ok (.aload_n 0, 1) := by decide +kernel
theorem dX3_entryOf_175 : decode cX3_entryOf 175 = .ok (.getfield 10, 3) := by decide +kernel
theorem dX3_entryOf_178 : decode cX3_entryOf 178 = .ok (.getfield 114, 3) := by decide +kernel
theorem dX3_entryOf_181 : decode cX3_entryOf 181 = .ok (.iload 4, 2) := by decide +kernel
theorem dX3_entryOf_183 : decode cX3_entryOf 183 = .ok (.iaload, 1) := by decide +kernel
theorem dX3_entryOf_184 : decode cX3_entryOf 184 = .ok (.ireturn, 1) := by decide +kernel
theorem dX3_entryOf_185 : decode cX3_entryOf 185 = .ok (.iload 5, 2) := by decide +kernel
theorem dX3_entryOf_187 : decode cX3_entryOf 187 = .ok (.ifCond .eq 16, 3) := by decide +kernel
theorem dX3_entryOf_190 : decode cX3_entryOf 190 = .ok (.aload_n 0, 1) := by decide +kernel
theorem dX3_entryOf_191 : decode cX3_entryOf 191 = .ok (.getfield 10, 3) := by decide +kernel
theorem dX3_entryOf_194 : decode cX3_entryOf 194 = .ok (.getfield 117, 3) := by decide +kernel
theorem dX3_entryOf_197 : decode cX3_entryOf 197 = .ok (.iload 4, 2) := by decide +kernel
theorem dX3_entryOf_199 : decode cX3_entryOf 199 = .ok (.iaload, 1) := by decide +kernel
theorem dX3_entryOf_200 : decode cX3_entryOf 200 = .ok (.goto 5, 3) := by decide +kernel
theorem dX3_entryOf_203 : decode cX3_entryOf 203 = .ok (.ldc 84, 2) := by decide +kernel
theorem dX3_entryOf_205 : decode cX3_entryOf 205 = .ok (.ireturn, 1) := by decide +kernel
theorem dX3_entryOf_206 : decode cX3_entryOf 206 = .ok (.iload 5, 2) := by decide +kernel
theorem dX3_entryOf_208 : decode cX3_entryOf 208 = .ok (.ifCond .eq 16, 3) := by decide +kernel
theorem dX3_entryOf_211 : decode cX3_entryOf 211 = .ok (.aload_n 0, 1) := by decide +kernel
theorem dX3_entryOf_212 : decode cX3_entryOf 212 = .ok (.getfield 10, 3) := by decide +kernel
theorem dX3_entryOf_215 : decode cX3_entryOf 215 = .ok (.getfield 120, 3) := by decide +kernel
theorem dX3_entryOf_218 : decode cX3_entryOf 218 = .ok (.iload 4, 2) := by decide +kernel
theorem dX3_entryOf_220 : decode cX3_entryOf 220 = .ok (.iaload, 1) := by decide +kernel
theorem dX3_entryOf_221 : decode cX3_entryOf 221 = .ok (.goto 5, 3) := by decide +kernel
theorem dX3_entryOf_224 : decode cX3_entryOf 224 = .ok (.ldc 84, 2) := by decide +kernel
theorem dX3_entryOf_226 : decode cX3_entryOf 226 = .ok (.ireturn, 1) := by decide +kernel
theorem dX3_entryOf_227 : decode cX3_entryOf 227 = .ok (.iload 5, 2) := by decide +kernel
theorem dX3_entryOf_229 : decode cX3_entryOf 229 = .ok (.ifCond .eq 8, 3) := by decide +kernel
theorem dX3_entryOf_232 : decode cX3_entryOf 232 = .ok (.ldc 84, 2) := by decide +kernel
theorem dX3_entryOf_234 : decode cX3_entryOf 234 = .ok (.goto 20, 3) := by decide +kernel
theorem dX3_entryOf_237 : decode cX3_entryOf 237 = .ok (.aload_n 0, 1) := by decide +kernel
theorem dX3_entryOf_238 : decode cX3_entryOf 238 = .ok (.getfield 10, 3) := by decide +kernel
theorem dX3_entryOf_241 : decode cX3_entryOf 241 = .ok (.iload_n 1, 1) := by decide +kernel
theorem dX3_entryOf_242 : decode cX3_entryOf 242 = .ok (.iload_n 2, 1) := by decide +kernel
theorem dX3_entryOf_243 : decode cX3_entryOf 243 = .ok (.invokevirtual 123, 3) := by decide +kernel
theorem dX3_entryOf_246 : decode cX3_entryOf 246 = .ok (.ifCond .eq 7, 3) := by decide +kernel
theorem dX3_entryOf_249 : decode cX3_entryOf 249 = .ok (.iconst 1, 1) := by decide +kernel
theorem dX3_entryOf_250 : decode cX3_entryOf 250 = .ok (.goto 4, 3) := by decide +kernel
theorem dX3_entryOf_253 : decode cX3_entryOf 253 = .ok (.iconst 0, 1) := by decide +kernel
theorem dX3_entryOf_254 : decode cX3_entryOf 254 = .ok (.ireturn, 1) := by decide +kernel
theorem dX3_tick_0 : decode cX3_tick 0 = .ok (.aload_n 0, 1) := by decide +kernel
theorem dX3_tick_1 : decode cX3_tick 1 = .ok (.getfield 22, 3) := by decide +kernel
theorem dX3_tick_4 : decode cX3_tick 4 = .ok (.aload_n 0, 1) := by decide +kernel
theorem dX3_tick_5 : decode cX3_tick 5 = .ok (.getfield 10, 3) := by decide +kernel
theorem dX3_tick_8 : decode cX3_tick 8 = .ok (.invokevirtual 33, 3) := by decide +kernel
theorem dX3_tick_11 : decode cX3_tick 11 = .ok (.aload_n 0, 1) := by decide +kernel
theorem dX3_tick_12 : decode cX3_tick 12 = .ok (.aload_n 0, 1) := by decide +kernel
theorem dX3_tick_13 : decode cX3_tick 13 = .ok (.getfield 10, 3) := by decide +kernel
theorem dX3_tick_16 : decode cX3_tick 16 = .ok (.iload_n 1, 1) := by decide +kernel
theorem dX3_tick_17 : decode cX3_tick 17 = .ok (.invokevirtual 127, 3) := by decide +kernel
theorem dX3_tick_20 : decode cX3_tick 20 = .ok (.invokevirtual 41, 3) := by decide +kernel
theorem dX3_tick_23 : decode cX3_tick 23 = .ok (.ireturn, 1) := by decide +kernel
theorem dX3_unlike_0 : decode cX3_unlike 0 = .ok (.aload_n 0, 1) := by decide +kernel
theorem dX3_unlike_1 : decode cX3_unlike 1 = .ok (.getfield 10, 3) := by decide +kernel
theorem dX3_unlike_4 : decode cX3_unlike 4 = .ok (.iload_n 1, 1) := by decide +kernel
theorem dX3_unlike_5 : decode cX3_unlike 5 = .ok (.invokevirtual 57, 3) := by decide +kernel
theorem dX3_unlike_8 : decode cX3_unlike 8 = .ok (.ifCond .eq 14, 3) := by decide +kernel
theorem dX3_unlike_11 : decode cX3_unlike 11 = .ok (.aload_n 0, 1) := by decide +kernel
theorem dX3_unlike_12 : decode cX3_unlike 12 = .ok (.getfield 10, 3) := by decide +kernel
theorem dX3_unlike_15 : decode cX3_unlike 15 = .ok (.iload_n 2, 1) := by decide +kernel
theorem dX3_unlike_16 : decode cX3_unlike 16 = .ok (.invokevirtual 57, 3) := by decide +kernel
theorem dX3_unlike_19 : decode cX3_unlike 19 = .ok (.ifCond .ne 6, 3) := by decide +kernel
theorem dX3_unlike_22 : decode cX3_unlike 22 = .ok (.ldc 61, 2) := by decide +kernel
theorem dX3_unlike_24 : decode cX3_unlike 24 = .ok (.ireturn, 1) := by decide +kernel
theorem dX3_unlike_25 : decode cX3_unlike 25 = .ok (.aload_n 0, 1) := by decide +kernel
theorem dX3_unlike_26 : decode cX3_unlike 26 = .ok (.getfield 10, 3) := by decide +kernel
theorem dX3_unlike_29 : decode cX3_unlike 29 = .ok (.iload_n 1, 1) := by decide +kernel
theorem dX3_unlike_30 : decode cX3_unlike 30 = .ok (.iload_n 2, 1) := by decide +kernel
theorem dX3_unlike_31 : decode cX3_unlike 31 = .ok (.invokevirtual 133, 3) := by decide +kernel
theorem dX3_unlike_34 : decode cX3_unlike 34 = .ok (.ireturn, 1) := by decide +kernel
theorem dX3_dead_0 : decode cX3_dead 0 = .ok (.aload_n 0, 1) := by decide +kernel
theorem dX3_dead_1 : decode cX3_dead 1 = .ok (.getfield 10, 3) := by decide +kernel
theorem dX3_dead_4 : decode cX3_dead 4 = .ok (.iload_n 1, 1) := by decide +kernel
theorem dX3_dead_5 : decode cX3_dead 5 = .ok (.invokevirtual 57, 3) := by decide +kernel
theorem dX3_dead_8 : decode cX3_dead 8 = .ok (.ifCond .eq 14, 3) := by decide +kernel
theorem dX3_dead_11 : decode cX3_dead 11 = .ok (.aload_n 0, 1) := by decide +kernel
theorem dX3_dead_12 : decode cX3_dead 12 = .ok (.getfield 10, 3) := by decide +kernel
theorem dX3_dead_15 : decode cX3_dead 15 = .ok (.iload_n 1, 1) := by decide +kernel
theorem dX3_dead_16 : decode cX3_dead 16 = .ok (.invokevirtual 136, 3) := by decide +kernel
theorem dX3_dead_19 : decode cX3_dead 19 = .ok (.goto 5, 3) := by decide +kernel
theorem dX3_dead_22 : decode cX3_dead 22 = .ok (.ldc 61, 2) := by decide +kernel
theorem dX3_dead_24 : decode cX3_dead 24 = .ok (.ireturn, 1) := by decide +kernel
theorem dX3_count_0 : decode cX3_count 0 = .ok (.iload_n 1, 1) := by decide +kernel
theorem dX3_count_1 : decode cX3_count 1 = .ok (.tableswitch 161 0 11 #[63, 71, 80, 89, 97, 105, 113, 121, 129, 137, 145, 153], 63) := by decide +kernel
theorem dX3_count_64 : decode cX3_count 64 = .ok (.aload_n 0, 1) := by decide +kernel
theorem dX3_count_65 : decode cX3_count 65 = .ok (.getfield 10, 3) := by decide +kernel
theorem dX3_count_68 : decode cX3_count 68 = .ok (.getfield 168, 3) := by decide +kernel
theorem dX3_count_71 : decode cX3_count 71 = .ok (.ireturn, 1) := by decide +kernel
theorem dX3_count_72 : decode cX3_count 72 = .ok (.aload_n 0, 1) := by decide +kernel
theorem dX3_count_73 : decode cX3_count 73 = .ok (.getfield 10, 3) := by decide +kernel
theorem dX3_count_76 : decode cX3_count 76 = .ok (.iconst 0, 1) := by decide +kernel
theorem dX3_count_77 : decode cX3_count 77 = .ok (.invokevirtual 172, 3) := by decide +kernel
theorem dX3_count_80 : decode cX3_count 80 = .ok (.ireturn, 1) := by decide +kernel
theorem dX3_count_81 : decode cX3_count 81 = .ok (.aload_n 0, 1) := by decide +kernel
theorem dX3_count_82 : decode cX3_count 82 = .ok (.getfield 10, 3) := by decide +kernel
theorem dX3_count_85 : decode cX3_count 85 = .ok (.iconst 1, 1) := by decide +kernel
theorem dX3_count_86 : decode cX3_count 86 = .ok (.invokevirtual 172, 3) := by decide +kernel
theorem dX3_count_89 : decode cX3_count 89 = .ok (.ireturn, 1) := by decide +kernel
theorem dX3_count_90 : decode cX3_count 90 = .ok (.aload_n 0, 1) := by decide +kernel
theorem dX3_count_91 : decode cX3_count 91 = .ok (.getfield 10, 3) := by decide +kernel
theorem dX3_count_94 : decode cX3_count 94 = .ok (.getfield 175, 3) := by decide +kernel
theorem dX3_count_97 : decode cX3_count 97 = .ok (.ireturn, 1) := by decide +kernel
theorem dX3_count_98 : decode cX3_count 98 = .ok (.aload_n 0, 1) := by decide +kernel
theorem dX3_count_99 : decode cX3_count 99 = .ok (.getfield 10, 3) := by decide +kernel
theorem dX3_count_102 : decode cX3_count 102 = .ok (.getfield 178, 3) := by decide +kernel
theorem dX3_count_105 : decode cX3_count 105 = .ok (.ireturn, 1) := by decide +kernel
theorem dX3_count_106 : decode cX3_count 106 = .ok (.aload_n 0, 1) := by decide +kernel
theorem dX3_count_107 : decode cX3_count 107 = .ok (.getfield 10, 3) := by decide +kernel
theorem dX3_count_110 : decode cX3_count 110 = .ok (.invokevirtual 181, 3) := by decide +kernel
theorem dX3_count_113 : decode cX3_count 113 = .ok (.ireturn, 1) := by decide +kernel
theorem dX3_count_114 : decode cX3_count 114 = .ok (.aload_n 0, 1) := by decide +kernel
theorem dX3_count_115 : decode cX3_count 115 = .ok (.getfield 10, 3) := by decide +kernel
theorem dX3_count_118 : decode cX3_count 118 = .ok (.invokevirtual 184, 3) := by decide +kernel
theorem dX3_count_121 : decode cX3_count 121 = .ok (.ireturn, 1) := by decide +kernel
theorem dX3_count_122 : decode cX3_count 122 = .ok (.aload_n 0, 1) := by decide +kernel
theorem dX3_count_123 : decode cX3_count 123 = .ok (.getfield 10, 3) := by decide +kernel
theorem dX3_count_126 : decode cX3_count 126 = .ok (.invokevirtual 187, 3) := by decide +kernel
theorem dX3_count_129 : decode cX3_count 129 = .ok (.ireturn, 1) := by decide +kernel
theorem dX3_count_130 : decode cX3_count 130 = .ok (.aload_n 0, 1) := by decide +kernel
theorem dX3_count_131 : decode cX3_count 131 = .ok (.getfield 10, 3) := by decide +kernel
theorem dX3_count_134 : decode cX3_count 134 = .ok (.invokevirtual 152, 3) := by decide +kernel
theorem dX3_count_137 : decode cX3_count 137 = .ok (.ireturn, 1) := by decide +kernel
theorem dX3_count_138 : decode cX3_count 138 = .ok (.aload_n 0, 1) := by decide +kernel
theorem dX3_count_139 : decode cX3_count 139 = .ok (.getfield 10, 3) := by decide +kernel
theorem dX3_count_142 : decode cX3_count 142 = .ok (.getfield 190, 3) := by decide +kernel
theorem dX3_count_145 : decode cX3_count 145 = .ok (.ireturn, 1) := by decide +kernel
theorem dX3_count_146 : decode cX3_count 146 = .ok (.aload_n 0, 1) := by decide +kernel
theorem dX3_count_147 : decode cX3_count 147 = .ok (.getfield 22, 3) := by decide +kernel
theorem dX3_count_150 : decode cX3_count 150 = .ok (.getfield 193, 3) := by decide +kernel
theorem dX3_count_153 : decode cX3_count 153 = .ok (.ireturn, 1) := by decide +kernel
theorem dX3_count_154 : decode cX3_count 154 = .ok (.aload_n 0, 1) := by decide +kernel
theorem dX3_count_155 : decode cX3_count 155 = .ok (.getfield 29, 3) := by decide +kernel
theorem dX3_count_158 : decode cX3_count 158 = .ok (.getfield 196, 3) := by decide +kernel
theorem dX3_count_161 : decode cX3_count 161 = .ok (.ireturn, 1) := by decide +kernel
theorem dX3_count_162 : decode cX3_count 162 = .ok (.ldc 61, 2) := by decide +kernel
theorem dX3_count_164 : decode cX3_count 164 = .ok (.ireturn, 1) := by decide +kernel
theorem dX3_undo_0 : decode cX3_undo 0 = .ok (.aload_n 0, 1) := by decide +kernel
theorem dX3_undo_1 : decode cX3_undo 1 = .ok (.getfield 22, 3) := by decide +kernel
theorem dX3_undo_4 : decode cX3_undo 4 = .ok (.getfield 193, 3) := by decide +kernel
theorem dX3_undo_7 : decode cX3_undo 7 = .ok (.ifCond .ne 6, 3) := by decide +kernel
theorem dX3_undo_10 : decode cX3_undo 10 = .ok (.ldc 142, 2) := by decide +kernel
theorem dX3_undo_12 : decode cX3_undo 12 = .ok (.ireturn, 1) := by decide +kernel
theorem dX3_undo_13 : decode cX3_undo 13 = .ok (.aload_n 0, 1) := by decide +kernel
theorem dX3_undo_14 : decode cX3_undo 14 = .ok (.getfield 22, 3) := by decide +kernel
theorem dX3_undo_17 : decode cX3_undo 17 = .ok (.aload_n 0, 1) := by decide +kernel
theorem dX3_undo_18 : decode cX3_undo 18 = .ok (.getfield 10, 3) := by decide +kernel
theorem dX3_undo_21 : decode cX3_undo 21 = .ok (.invokevirtual 199, 3) := by decide +kernel
theorem dX3_undo_24 : decode cX3_undo 24 = .ok (.aload_n 0, 1) := by decide +kernel
theorem dX3_undo_25 : decode cX3_undo 25 = .ok (.getfield 22, 3) := by decide +kernel
theorem dX3_undo_28 : decode cX3_undo 28 = .ok (.getfield 193, 3) := by decide +kernel
theorem dX3_undo_31 : decode cX3_undo 31 = .ok (.ireturn, 1) := by decide +kernel
theorem dX3_recorded_0 : decode cX3_recorded 0 = .ok (.iload_n 1, 1) := by decide +kernel
theorem dX3_recorded_1 : decode cX3_recorded 1 = .ok (.ifCond .lt 10, 3) := by decide +kernel
theorem dX3_recorded_4 : decode cX3_recorded 4 = .ok (.aload_n 0, 1) := by decide +kernel
theorem dX3_recorded_5 : decode cX3_recorded 5 = .ok (.getfield 22, 3) := by decide +kernel
theorem dX3_recorded_8 : decode cX3_recorded 8 = .ok (.invokevirtual 219, 3) := by decide +kernel
theorem dX3_recorded_11 : decode cX3_recorded 11 = .ok (.iload_n 1, 1) := by decide +kernel
theorem dX3_recorded_12 : decode cX3_recorded 12 = .ok (.ireturn, 1) := by decide +kernel
theorem dX3_isTopic_0 : decode cX3_isTopic 0 = .ok (.iload_n 0, 1) := by decide +kernel
theorem dX3_isTopic_1 : decode cX3_isTopic 1 = .ok (.ifCond .lt 13, 3) := by decide +kernel
theorem dX3_isTopic_4 : decode cX3_isTopic 4 = .ok (.iload_n 0, 1) := by decide +kernel
theorem dX3_isTopic_5 : decode cX3_isTopic 5 = .ok (.bipush 12, 2) := by decide +kernel
theorem dX3_isTopic_7 : decode cX3_isTopic 7 = .ok (.if_icmp .ge 7, 3) := by decide +kernel
theorem dX3_isTopic_10 : decode cX3_isTopic 10 = .ok (.iconst 1, 1) := by decide +kernel
theorem dX3_isTopic_11 : decode cX3_isTopic 11 = .ok (.goto 4, 3) := by decide +kernel
theorem dX3_isTopic_14 : decode cX3_isTopic 14 = .ok (.iconst 0, 1) := by decide +kernel
theorem dX3_isTopic_15 : decode cX3_isTopic 15 = .ok (.ireturn, 1) := by decide +kernel
theorem dX3_place_0 : decode cX3_place 0 = .ok (.iload_n 0, 1) := by decide +kernel
theorem dX3_place_1 : decode cX3_place 1 = .ok (.bipush 12, 2) := by decide +kernel
theorem dX3_place_3 : decode cX3_place 3 = .ok (.imul, 1) := by decide +kernel
theorem dX3_place_4 : decode cX3_place 4 = .ok (.iload_n 1, 1) := by decide +kernel
theorem dX3_place_5 : decode cX3_place 5 = .ok (.iadd, 1) := by decide +kernel
theorem dX3_place_6 : decode cX3_place 6 = .ok (.ireturn, 1) := by decide +kernel
theorem dJ6_bitCount_0f7a4_0 : decode cJ6_bitCount_0f7a4 0 = .ok (.iload_n 0, 1) := by decide +kernel
theorem dJ6_bitCount_0f7a4_1 : decode cJ6_bitCount_0f7a4 1 = .ok (.iload_n 0, 1) := by decide +kernel
theorem dJ6_bitCount_0f7a4_2 : decode cJ6_bitCount_0f7a4 2 = .ok (.iconst 1, 1) := by decide +kernel
theorem dJ6_bitCount_0f7a4_3 : decode cJ6_bitCount_0f7a4 3 = .ok (.iushr, 1) := by decide +kernel
theorem dJ6_bitCount_0f7a4_4 : decode cJ6_bitCount_0f7a4 4 = .ok (.ldc_w 265, 3) := by decide +kernel
theorem dJ6_bitCount_0f7a4_7 : decode cJ6_bitCount_0f7a4 7 = .ok (.iand, 1) := by decide +kernel
theorem dJ6_bitCount_0f7a4_8 : decode cJ6_bitCount_0f7a4 8 = .ok (.isub, 1) := by decide +kernel
theorem dJ6_bitCount_0f7a4_9 : decode cJ6_bitCount_0f7a4 9 = .ok (.istore_n 0, 1) := by decide +kernel
theorem dJ6_bitCount_0f7a4_10 : decode cJ6_bitCount_0f7a4 10 = .ok (.iload_n 0, 1) := by decide +kernel
theorem dJ6_bitCount_0f7a4_11 : decode cJ6_bitCount_0f7a4 11 = .ok (.ldc_w 266, 3) := by decide +kernel
theorem dJ6_bitCount_0f7a4_14 : decode cJ6_bitCount_0f7a4 14 = .ok (.iand, 1) := by decide +kernel
theorem dJ6_bitCount_0f7a4_15 : decode cJ6_bitCount_0f7a4 15 = .ok (.iload_n 0, 1) := by decide +kernel
theorem dJ6_bitCount_0f7a4_16 : decode cJ6_bitCount_0f7a4 16 = .ok (.iconst 2, 1) := by decide +kernel
theorem dJ6_bitCount_0f7a4_17 : decode cJ6_bitCount_0f7a4 17 = .ok (.iushr, 1) := by decide +kernel
theorem dJ6_bitCount_0f7a4_18 : decode cJ6_bitCount_0f7a4 18 = .ok (.ldc_w 266, 3) := by decide +kernel
theorem dJ6_bitCount_0f7a4_21 : decode cJ6_bitCount_0f7a4 21 = .ok (.iand, 1) := by decide +kernel
theorem dJ6_bitCount_0f7a4_22 : decode cJ6_bitCount_0f7a4 22 = .ok (.iadd, 1) := by decide +kernel
theorem dJ6_bitCount_0f7a4_23 : decode cJ6_bitCount_0f7a4 23 = .ok (.istore_n 0, 1) := by decide +kernel
theorem dJ6_bitCount_0f7a4_24 : decode cJ6_bitCount_0f7a4 24 = .ok (.iload_n 0, 1) := by decide +kernel
theorem dJ6_bitCount_0f7a4_25 : decode cJ6_bitCount_0f7a4 25 = .ok (.iload_n 0, 1) := by decide +kernel
theorem dJ6_bitCount_0f7a4_26 : decode cJ6_bitCount_0f7a4 26 = .ok (.iconst 4, 1) := by decide +kernel
theorem dJ6_bitCount_0f7a4_27 : decode cJ6_bitCount_0f7a4 27 = .ok (.iushr, 1) := by decide +kernel
theorem dJ6_bitCount_0f7a4_28 : decode cJ6_bitCount_0f7a4 28 = .ok (.iadd, 1) := by decide +kernel
theorem dJ6_bitCount_0f7a4_29 : decode cJ6_bitCount_0f7a4 29 = .ok (.ldc_w 267, 3) := by decide +kernel
theorem dJ6_bitCount_0f7a4_32 : decode cJ6_bitCount_0f7a4 32 = .ok (.iand, 1) := by decide +kernel
theorem dJ6_bitCount_0f7a4_33 : decode cJ6_bitCount_0f7a4 33 = .ok (.istore_n 0, 1) := by decide +kernel
theorem dJ6_bitCount_0f7a4_34 : decode cJ6_bitCount_0f7a4 34 = .ok (.iload_n 0, 1) := by decide +kernel
theorem dJ6_bitCount_0f7a4_35 : decode cJ6_bitCount_0f7a4 35 = .ok (.iload_n 0, 1) := by decide +kernel
theorem dJ6_bitCount_0f7a4_36 : decode cJ6_bitCount_0f7a4 36 = .ok (.bipush 8, 2) := by decide +kernel
theorem dJ6_bitCount_0f7a4_38 : decode cJ6_bitCount_0f7a4 38 = .ok (.iushr, 1) := by decide +kernel
theorem dJ6_bitCount_0f7a4_39 : decode cJ6_bitCount_0f7a4 39 = .ok (.iadd, 1) := by decide +kernel
theorem dJ6_bitCount_0f7a4_40 : decode cJ6_bitCount_0f7a4 40 = .ok (.istore_n 0, 1) := by decide +kernel
theorem dJ6_bitCount_0f7a4_41 : decode cJ6_bitCount_0f7a4 41 = .ok (.iload_n 0, 1) := by decide +kernel
theorem dJ6_bitCount_0f7a4_42 : decode cJ6_bitCount_0f7a4 42 = .ok (.iload_n 0, 1) := by decide +kernel
theorem dJ6_bitCount_0f7a4_43 : decode cJ6_bitCount_0f7a4 43 = .ok (.bipush 16, 2) := by decide +kernel
theorem dJ6_bitCount_0f7a4_45 : decode cJ6_bitCount_0f7a4 45 = .ok (.iushr, 1) := by decide +kernel
theorem dJ6_bitCount_0f7a4_46 : decode cJ6_bitCount_0f7a4 46 = .ok (.iadd, 1) := by decide +kernel
theorem dJ6_bitCount_0f7a4_47 : decode cJ6_bitCount_0f7a4 47 = .ok (.istore_n 0, 1) := by decide +kernel
theorem dJ6_bitCount_0f7a4_48 : decode cJ6_bitCount_0f7a4 48 = .ok (.iload_n 0, 1) := by decide +kernel
theorem dJ6_bitCount_0f7a4_49 : decode cJ6_bitCount_0f7a4 49 = .ok (.bipush 63, 2) := by decide +kernel
theorem dJ6_bitCount_0f7a4_51 : decode cJ6_bitCount_0f7a4 51 = .ok (.iand, 1) := by decide +kernel
theorem dJ6_bitCount_0f7a4_52 : decode cJ6_bitCount_0f7a4 52 = .ok (.ireturn, 1) := by decide +kernel
