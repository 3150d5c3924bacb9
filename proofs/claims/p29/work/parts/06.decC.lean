theorem dX0_init_0 : decode cX0_init 0 = .ok (.aload_n 0, 1) := by decide +kernel
theorem dX0_init_1 : decode cX0_init 1 = .ok (.invokespecial 3, 3) := by decide +kernel
theorem dX0_init_4 : decode cX0_init 4 = .ok (.aload_n 0, 1) := by decide +kernel
theorem dX0_init_5 : decode cX0_init 5 = .ok (.bipush 7, 2) := by decide +kernel
theorem dX0_init_7 : decode cX0_init 7 = .ok (.anewarray 11, 3) := by decide +kernel
theorem dX0_init_10 : decode cX0_init 10 = .ok (.putfield 13, 3) := by decide +kernel
theorem dX0_init_13 : decode cX0_init 13 = .ok (.aload_n 0, 1) := by decide +kernel
theorem dX0_init_14 : decode cX0_init 14 = .ok (.iconst 0, 1) := by decide +kernel
theorem dX0_init_15 : decode cX0_init 15 = .ok (.putfield 17, 3) := by decide +kernel
theorem dX0_init_18 : decode cX0_init 18 = .ok (.aload_n 0, 1) := by decide +kernel
theorem dX0_init_19 : decode cX0_init 19 = .ok (.iconst 0, 1) := by decide +kernel
theorem dX0_init_20 : decode cX0_init 20 = .ok (.putfield 21, 3) := by decide +kernel
theorem dX0_init_23 : decode cX0_init 23 = .ok (.return_, 1) := by decide +kernel
theorem dX0_draft_0 : decode cX0_draft 0 = .ok (.aload_n 0, 1) := by decide +kernel
theorem dX0_draft_1 : decode cX0_draft 1 = .ok (.getfield 13, 3) := by decide +kernel
theorem dX0_draft_4 : decode cX0_draft 4 = .ok (.aload_n 0, 1) := by decide +kernel
theorem dX0_draft_5 : decode cX0_draft 5 = .ok (.getfield 17, 3) := by decide +kernel
theorem dX0_draft_8 : decode cX0_draft 8 = .ok (.invokestatic 24, 3) := by decide +kernel
theorem dX0_draft_11 : decode cX0_draft 11 = .ok (.aload_n 1, 1) := by decide +kernel
theorem dX0_draft_12 : decode cX0_draft 12 = .ok (.invokevirtual 28, 3) := by decide +kernel
theorem dX0_draft_15 : decode cX0_draft 15 = .ok (.return_, 1) := by decide +kernel
theorem dX0_keepDraft_0 : decode cX0_keepDraft 0 = .ok (.aload_n 0, 1) := by decide +kernel
theorem dX0_keepDraft_1 : decode cX0_keepDraft 1 = .ok (.aload_n 0, 1) := by decide +kernel
theorem dX0_keepDraft_2 : decode cX0_keepDraft 2 = .ok (.getfield 17, 3) := by decide +kernel
theorem dX0_keepDraft_5 : decode cX0_keepDraft 5 = .ok (.iconst 1, 1) := by decide +kernel
theorem dX0_keepDraft_6 : decode cX0_keepDraft 6 = .ok (.iadd, 1) := by decide +kernel
theorem dX0_keepDraft_7 : decode cX0_keepDraft 7 = .ok (.bipush 7, 2) := by decide +kernel
theorem dX0_keepDraft_9 : decode cX0_keepDraft 9 = .ok (.irem, 1) := by decide +kernel
theorem dX0_keepDraft_10 : decode cX0_keepDraft 10 = .ok (.putfield 17, 3) := by decide +kernel
theorem dX0_keepDraft_13 : decode cX0_keepDraft 13 = .ok (.aload_n 0, 1) := by decide +kernel
theorem dX0_keepDraft_14 : decode cX0_keepDraft 14 = .ok (.getfield 21, 3) := by decide +kernel
theorem dX0_keepDraft_17 : decode cX0_keepDraft 17 = .ok (.bipush 6, 2) := by decide +kernel
theorem dX0_keepDraft_19 : decode cX0_keepDraft 19 = .ok (.if_icmp .ge 13, 3) := by decide +kernel
theorem dX0_keepDraft_22 : decode cX0_keepDraft 22 = .ok (.aload_n 0, 1) := by decide +kernel
theorem dX0_keepDraft_23 : decode cX0_keepDraft 23 = .ok (.dup, 1) := by decide +kernel
theorem dX0_keepDraft_24 : decode cX0_keepDraft 24 = .ok (.getfield 21, 3) := by decide +kernel
theorem dX0_keepDraft_27 : decode cX0_keepDraft 27 = .ok (.iconst 1, 1) := by decide +kernel
theorem dX0_keepDraft_28 : decode cX0_keepDraft 28 = .ok (.iadd, 1) := by decide +kernel
theorem dX0_keepDraft_29 : decode cX0_keepDraft 29 = .ok (.putfield 21, 3) := by decide +kernel
theorem dX0_keepDraft_32 : decode cX0_keepDraft 32 = .ok (.return_, 1) := by decide +kernel
theorem dX0_takeBack_0 : decode cX0_takeBack 0 = .ok (.aload_n 0, 1) := by decide +kernel
theorem dX0_takeBack_1 : decode cX0_takeBack 1 = .ok (.getfield 21, 3) := by decide +kernel
theorem dX0_takeBack_4 : decode cX0_takeBack 4 = .ok (.ifCond .ne 4, 3) := by decide +kernel
theorem dX0_takeBack_7 : decode cX0_takeBack 7 = .ok (.return_, 1) := by decide +kernel
theorem dX0_takeBack_8 : decode cX0_takeBack 8 = .ok (.aload_n 0, 1) := by decide +kernel
theorem dX0_takeBack_9 : decode cX0_takeBack 9 = .ok (.aload_n 0, 1) := by decide +kernel
theorem dX0_takeBack_10 : decode cX0_takeBack 10 = .ok (.getfield 17, 3) := by decide +kernel
theorem dX0_takeBack_13 : decode cX0_takeBack 13 = .ok (.bipush 7, 2) := by decide +kernel
theorem dX0_takeBack_15 : decode cX0_takeBack 15 = .ok (.iadd, 1) := by decide +kernel
theorem dX0_takeBack_16 : decode cX0_takeBack 16 = .ok (.iconst 1, 1) := by decide +kernel
theorem dX0_takeBack_17 : decode cX0_takeBack 17 = .ok (.isub, 1) := by decide +kernel
theorem dX0_takeBack_18 : decode cX0_takeBack 18 = .ok (.bipush 7, 2) := by decide +kernel
theorem dX0_takeBack_20 : decode cX0_takeBack 20 = .ok (.irem, 1) := by decide +kernel
theorem dX0_takeBack_21 : decode cX0_takeBack 21 = .ok (.putfield 17, 3) := by decide +kernel
theorem dX0_takeBack_24 : decode cX0_takeBack 24 = .ok (.aload_n 0, 1) := by decide +kernel
theorem dX0_takeBack_25 : decode cX0_takeBack 25 = .ok (.dup, 1) := by decide +kernel
theorem dX0_takeBack_26 : decode cX0_takeBack 26 = .ok (.getfield 21, 3) := by decide +kernel
theorem dX0_takeBack_29 : decode cX0_takeBack 29 = .ok (.iconst 1, 1) := by decide +kernel
theorem dX0_takeBack_30 : decode cX0_takeBack 30 = .ok (.isub, 1) := by decide +kernel
theorem dX0_takeBack_31 : decode cX0_takeBack 31 = .ok (.putfield 21, 3) := by decide +kernel
theorem dX0_takeBack_34 : decode cX0_takeBack 34 = .ok (.aload_n 1, 1) := by decide +kernel
theorem dX0_takeBack_35 : decode cX0_takeBack 35 = .ok (.aload_n 0, 1) := by decide +kernel
theorem dX0_takeBack_36 : decode cX0_takeBack 36 = .ok (.getfield 13, 3) := by decide +kernel
theorem dX0_takeBack_39 : decode cX0_takeBack 39 = .ok (.aload_n 0, 1) := by decide +kernel
theorem dX0_takeBack_40 : decode cX0_takeBack 40 = .ok (.getfield 17, 3) := by decide +kernel
theorem dX0_takeBack_43 : decode cX0_takeBack 43 = .ok (.invokestatic 24, 3) := by decide +kernel
theorem dX0_takeBack_46 : decode cX0_takeBack 46 = .ok (.invokevirtual 28, 3) := by decide +kernel
theorem dX0_takeBack_49 : decode cX0_takeBack 49 = .ok (.return_, 1) := by decide +kernel
theorem dX1_init_0 : decode cX1_init 0 = .ok (.aload_n 0, 1) := by decide +kernel
theorem dX1_init_1 : decode cX1_init 1 = .ok (.invokespecial 3, 3) := by decide +kernel
theorem dX1_init_4 : decode cX1_init 4 = .ok (.aload_n 0, 1) := by decide +kernel
theorem dX1_init_5 : decode cX1_init 5 = .ok (.bipush 27, 2) := by decide +kernel
theorem dX1_init_7 : decode cX1_init 7 = .ok (.newarray .int, 2) := by decide +kernel
theorem dX1_init_9 : decode cX1_init 9 = .ok (.putfield 9, 3) := by decide +kernel
theorem dX1_init_12 : decode cX1_init 12 = .ok (.aload_n 0, 1) := by decide +kernel
theorem dX1_init_13 : decode cX1_init 13 = .ok (.bipush 81, 2) := by decide +kernel
theorem dX1_init_15 : decode cX1_init 15 = .ok (.newarray .int, 2) := by decide +kernel
theorem dX1_init_17 : decode cX1_init 17 = .ok (.putfield 15, 3) := by decide +kernel
theorem dX1_init_20 : decode cX1_init 20 = .ok (.aload_n 0, 1) := by decide +kernel
theorem dX1_init_21 : decode cX1_init 21 = .ok (.iconst 0, 1) := by decide +kernel
theorem dX1_init_22 : decode cX1_init 22 = .ok (.putfield 18, 3) := by decide +kernel
theorem dX1_init_25 : decode cX1_init 25 = .ok (.aload_n 0, 1) := by decide +kernel
theorem dX1_init_26 : decode cX1_init 26 = .ok (.iconst 0, 1) := by decide +kernel
theorem dX1_init_27 : decode cX1_init 27 = .ok (.putfield 22, 3) := by decide +kernel
theorem dX1_init_30 : decode cX1_init 30 = .ok (.return_, 1) := by decide +kernel
theorem dX2_init_0 : decode cX2_init 0 = .ok (.aload_n 0, 1) := by decide +kernel
theorem dX2_init_1 : decode cX2_init 1 = .ok (.invokespecial 3, 3) := by decide +kernel
theorem dX2_init_4 : decode cX2_init 4 = .ok (.aload_n 0, 1) := by decide +kernel
theorem dX2_init_5 : decode cX2_init 5 = .ok (.bipush 80, 2) := by decide +kernel
theorem dX2_init_7 : decode cX2_init 7 = .ok (.newarray .int, 2) := by decide +kernel
theorem dX2_init_9 : decode cX2_init 9 = .ok (.putfield 9, 3) := by decide +kernel
theorem dX2_init_12 : decode cX2_init 12 = .ok (.aload_n 0, 1) := by decide +kernel
theorem dX2_init_13 : decode cX2_init 13 = .ok (.iconst 0, 1) := by decide +kernel
theorem dX2_init_14 : decode cX2_init 14 = .ok (.putfield 15, 3) := by decide +kernel
theorem dX2_init_17 : decode cX2_init 17 = .ok (.return_, 1) := by decide +kernel
theorem dX3_init_0 : decode cX3_init 0 = .ok (.aload_n 0, 1) := by decide +kernel
theorem dX3_init_1 : decode cX3_init 1 = .ok (.invokespecial 3, 3) := by decide +kernel
theorem dX3_init_4 : decode cX3_init 4 = .ok (.aload_n 0, 1) := by decide +kernel
theorem dX3_init_5 : decode cX3_init 5 = .ok (.bipush 16, 2) := by decide +kernel
theorem dX3_init_7 : decode cX3_init 7 = .ok (.newarray .int, 2) := by decide +kernel
theorem dX3_init_9 : decode cX3_init 9 = .ok (.putfield 9, 3) := by decide +kernel
theorem dX3_init_12 : decode cX3_init 12 = .ok (.aload_n 0, 1) := by decide +kernel
theorem dX3_init_13 : decode cX3_init 13 = .ok (.bipush 16, 2) := by decide +kernel
theorem dX3_init_15 : decode cX3_init 15 = .ok (.newarray .int, 2) := by decide +kernel
theorem dX3_init_17 : decode cX3_init 17 = .ok (.putfield 15, 3) := by decide +kernel
theorem dX3_init_20 : decode cX3_init 20 = .ok (.aload_n 0, 1) := by decide +kernel
theorem dX3_init_21 : decode cX3_init 21 = .ok (.bipush 16, 2) := by decide +kernel
theorem dX3_init_23 : decode cX3_init 23 = .ok (.newarray .int, 2) := by decide +kernel
theorem dX3_init_25 : decode cX3_init 25 = .ok (.putfield 18, 3) := by decide +kernel
theorem dX3_init_28 : decode cX3_init 28 = .ok (.aload_n 0, 1) := by decide +kernel
theorem dX3_init_29 : decode cX3_init 29 = .ok (.iconst 0, 1) := by decide +kernel
theorem dX3_init_30 : decode cX3_init 30 = .ok (.putfield 21, 3) := by decide +kernel
theorem dX3_init_33 : decode cX3_init 33 = .ok (.return_, 1) := by decide +kernel
theorem dX3_copyFrom_0 : decode cX3_copyFrom 0 = .ok (.aload_n 0, 1) := by decide +kernel
theorem dX3_copyFrom_1 : decode cX3_copyFrom 1 = .ok (.aload_n 1, 1) := by decide +kernel
theorem dX3_copyFrom_2 : decode cX3_copyFrom 2 = .ok (.getfield 21, 3) := by decide +kernel
theorem dX3_copyFrom_5 : decode cX3_copyFrom 5 = .ok (.putfield 21, 3) := by decide +kernel
theorem dX3_copyFrom_8 : decode cX3_copyFrom 8 = .ok (.aload_n 1, 1) := by decide +kernel
theorem dX3_copyFrom_9 : decode cX3_copyFrom 9 = .ok (.getfield 9, 3) := by decide +kernel
theorem dX3_copyFrom_12 : decode cX3_copyFrom 12 = .ok (.iconst 0, 1) := by decide +kernel
theorem dX3_copyFrom_13 : decode cX3_copyFrom 13 = .ok (.aload_n 0, 1) := by decide +kernel
theorem dX3_copyFrom_14 : decode cX3_copyFrom 14 = .ok (.getfield 9, 3) := by decide +kernel
theorem dX3_copyFrom_17 : decode cX3_copyFrom 17 = .ok (.iconst 0, 1) := by decide +kernel
theorem dX3_copyFrom_18 : decode cX3_copyFrom 18 = .ok (.aload_n 0, 1) := by decide +kernel
theorem dX3_copyFrom_19 : decode cX3_copyFrom 19 = .ok (.getfield 21, 3) := by decide +kernel
theorem dX3_copyFrom_22 : decode cX3_copyFrom 22 = .ok (.invokestatic 25, 3) := by decide +kernel
theorem dX3_copyFrom_25 : decode cX3_copyFrom 25 = .ok (.aload_n 1, 1) := by decide +kernel
theorem dX3_copyFrom_26 : decode cX3_copyFrom 26 = .ok (.getfield 15, 3) := by decide +kernel
theorem dX3_copyFrom_29 : decode cX3_copyFrom 29 = .ok (.iconst 0, 1) := by decide +kernel
theorem dX3_copyFrom_30 : decode cX3_copyFrom 30 = .ok (.aload_n 0, 1) := by decide +kernel
theorem dX3_copyFrom_31 : decode cX3_copyFrom 31 = .ok (.getfield 15, 3) := by decide +kernel
theorem dX3_copyFrom_34 : decode cX3_copyFrom 34 = .ok (.iconst 0, 1) := by decide +kernel
theorem dX3_copyFrom_35 : decode cX3_copyFrom 35 = .ok (.aload_n 0, 1) := by decide +kernel
theorem dX3_copyFrom_36 : decode cX3_copyFrom 36 = .ok (.getfield 21, 3) := by decide +kernel
theorem dX3_copyFrom_39 : decode cX3_copyFrom 39 = .ok (.invokestatic 25, 3) := by decide +kernel
theorem dX3_copyFrom_42 : decode cX3_copyFrom 42 = .ok (.aload_n 1, 1) := by decide +kernel
theorem dX3_copyFrom_43 : decode cX3_copyFrom 43 = .ok (.getfield 18, 3) := by decide +kernel
theorem dX3_copyFrom_46 : decode cX3_copyFrom 46 = .ok (.iconst 0, 1) := by decide +kernel
theorem dX3_copyFrom_47 : decode cX3_copyFrom 47 = .ok (.aload_n 0, 1) := by decide +kernel
theorem dX3_copyFrom_48 : decode cX3_copyFrom 48 = .ok (.getfield 18, 3) := by decide +kernel
theorem dX3_copyFrom_51 : decode cX3_copyFrom 51 = .ok (.iconst 0, 1) := by decide +kernel
theorem dX3_copyFrom_52 : decode cX3_copyFrom 52 = .ok (.aload_n 0, 1) := by decide +kernel
theorem dX3_copyFrom_53 : decode cX3_copyFrom 53 = .ok (.getfield 21, 3) := by decide +kernel
theorem dX3_copyFrom_56 : decode cX3_copyFrom 56 = .ok (.invokestatic 25, 3) := by decide +kernel
theorem dX3_copyFrom_59 : decode cX3_copyFrom 59 = .ok (.return_, 1) := by decide +kernel
theorem dX3_insert_0 : decode cX3_insert 0 = .ok (.aload_n 0, 1) := by decide +kernel
theorem dX3_insert_1 : decode cX3_insert 1 = .ok (.getfield 21, 3) := by decide +kernel
theorem dX3_insert_4 : decode cX3_insert 4 = .ok (.bipush 16, 2) := by decide +kernel
theorem dX3_insert_6 : decode cX3_insert 6 = .ok (.if_icmp .lt 4, 3) := by decide +kernel
theorem dX3_insert_9 : decode cX3_insert 9 = .ok (.return_, 1) := by decide +kernel
theorem dX3_insert_10 : decode cX3_insert 10 = .ok (.aload_n 0, 1) := by decide +kernel
theorem dX3_insert_11 : decode cX3_insert 11 = .ok (.getfield 21, 3) := by decide +kernel
theorem dX3_insert_14 : decode cX3_insert 14 = .ok (.istore 4, 2) := by decide +kernel
theorem dX3_insert_16 : decode cX3_insert 16 = .ok (.iload 4, 2) := by decide +kernel
theorem dX3_insert_18 : decode cX3_insert 18 = .ok (.ifCond .le 32, 3) := by decide +kernel
theorem dX3_insert_21 : decode cX3_insert 21 = .ok (.aload_n 0, 1) := by decide +kernel
theorem dX3_insert_22 : decode cX3_insert 22 = .ok (.iload 4, 2) := by decide +kernel
theorem dX3_insert_24 : decode cX3_insert 24 = .ok (.iconst 1, 1) := by decide +kernel
theorem dX3_insert_25 : decode cX3_insert 25 = .ok (.isub, 1) := by decide +kernel
theorem dX3_insert_26 : decode cX3_insert 26 = .ok (.iload_n 1, 1) := by decide +kernel
theorem dX3_insert_27 : decode cX3_insert 27 = .ok (.iload_n 2, 1) := by decide +kernel
theorem dX3_insert_28 : decode cX3_insert 28 = .ok (.invokevirtual 31, 3) := by decide +kernel
theorem dX3_insert_31 : decode cX3_insert 31 = .ok (.ifCond .eq 19, 3) := by decide +kernel
theorem dX3_insert_34 : decode cX3_insert 34 = .ok (.aload_n 0, 1) := by decide +kernel
theorem dX3_insert_35 : decode cX3_insert 35 = .ok (.iload 4, 2) := by decide +kernel
theorem dX3_insert_37 : decode cX3_insert 37 = .ok (.iconst 1, 1) := by decide +kernel
theorem dX3_insert_38 : decode cX3_insert 38 = .ok (.isub, 1) := by decide +kernel
theorem dX3_insert_39 : decode cX3_insert 39 = .ok (.iload 4, 2) := by decide +kernel
theorem dX3_insert_41 : decode cX3_insert 41 = .ok (.invokevirtual 35, 3) := by decide +kernel
theorem dX3_insert_44 : decode cX3_insert 44 = .ok (.iinc 4 (-1), 3) := by decide +kernel
theorem dX3_insert_47 : decode cX3_insert 47 = .ok (.goto (-31), 3) := by decide +kernel
theorem dX3_insert_50 : decode cX3_insert 50 = .ok (.aload_n 0, 1) := by decide +kernel
theorem dX3_insert_51 : decode cX3_insert 51 = .ok (.getfield 9, 3) := by decide +kernel
theorem dX3_insert_54 : decode cX3_insert 54 = .ok (.iload 4, 2) := by decide +kernel
theorem dX3_insert_56 : decode cX3_insert 56 = .ok (.iload_n 1, 1) := by decide +kernel
theorem dX3_insert_57 : decode cX3_insert 57 = .ok (.iastore, 1) := by decide +kernel
theorem dX3_insert_58 : decode cX3_insert 58 = .ok (.aload_n 0, 1) := by decide +kernel
theorem dX3_insert_59 : decode cX3_insert 59 = .ok (.getfield 15, 3) := by decide +kernel
theorem dX3_insert_62 : decode cX3_insert 62 = .ok (.iload 4, 2) := by decide +kernel
theorem dX3_insert_64 : decode cX3_insert 64 = .ok (.iload_n 2, 1) := by decide +kernel
theorem dX3_insert_65 : decode cX3_insert 65 = .ok (.iastore, 1) := by decide +kernel
theorem dX3_insert_66 : decode cX3_insert 66 = .ok (.aload_n 0, 1) := by decide +kernel
theorem dX3_insert_67 : decode cX3_insert 67 = .ok (.getfield 18, 3) := by decide +kernel
theorem dX3_insert_70 : decode cX3_insert 70 = .ok (.iload 4, 2) := by decide +kernel
theorem dX3_insert_72 : decode cX3_insert 72 = .ok (.iload_n 3, 1) := by decide +kernel
theorem dX3_insert_73 : decode cX3_insert 73 = .ok (.iastore, 1) := by decide +kernel
theorem dX3_insert_74 : decode cX3_insert 74 = .ok (.aload_n 0, 1) := by decide +kernel
theorem dX3_insert_75 : decode cX3_insert 75 = .ok (.dup, 1) := by decide +kernel
theorem dX3_insert_76 : decode cX3_insert 76 = .ok (.getfield 21, 3) := by decide +kernel
theorem dX3_insert_79 : decode cX3_insert 79 = .ok (.iconst 1, 1) := by decide +kernel
theorem dX3_insert_80 : decode cX3_insert 80 = .ok (.iadd, 1) := by decide +kernel
theorem dX3_insert_81 : decode cX3_insert 81 = .ok (.putfield 21, 3) := by decide +kernel
theorem dX3_insert_84 : decode cX3_insert 84 = .ok (.return_, 1) := by decide +kernel
theorem dX3_isLater_0 : decode cX3_isLater 0 = .ok (.aload_n 0, 1) := by decide +kernel
theorem dX3_isLater_1 : decode cX3_isLater 1 = .ok (.getfield 9, 3) := by decide +kernel
theorem dX3_isLater_4 : decode cX3_isLater 4 = .ok (.iload_n 1, 1) := by decide +kernel
theorem dX3_isLater_5 : decode cX3_isLater 5 = .ok (.iaload, 1) := by decide +kernel
theorem dX3_isLater_6 : decode cX3_isLater 6 = .ok (.iload_n 2, 1) := by decide +kernel
theorem dX3_isLater_7 : decode cX3_isLater 7 = .ok (.if_icmp .eq 19, 3) := by decide +kernel
theorem dX3_isLater_10 : decode cX3_isLater 10 = .ok (.aload_n 0, 1) := by decide +kernel
theorem dX3_isLater_11 : decode cX3_isLater 11 = .ok (.getfield 9, 3) := by decide +kernel
theorem dX3_isLater_14 : decode cX3_isLater 14 = .ok (.iload_n 1, 1) := by decide +kernel
theorem dX3_isLater_15 : decode cX3_isLater 15 = .ok (.iaload, 1) := by decide +kernel
theorem dX3_isLater_16 : decode cX3_isLater 16 = .ok (.iload_n 2, 1) := by decide +kernel
theorem dX3_isLater_17 : decode cX3_isLater 17 = .ok (.if_icmp .le 7, 3) := by decide +kernel
theorem dX3_isLater_20 : decode cX3_isLater 20 = .ok (.iconst 1, 1) := by decide +kernel
theorem dX3_isLater_21 : decode cX3_isLater 21 = .ok (.goto 4, 3) := by decide +kernel
theorem dX3_isLater_24 : decode cX3_isLater 24 = .ok (.iconst 0, 1) := by decide +kernel
theorem dX3_isLater_25 : decode cX3_isLater 25 = .ok (.ireturn, 1) := by decide +kernel
theorem dX3_isLater_26 : decode cX3_isLater 26 = .ok (.aload_n 0, 1) := by decide +kernel
theorem dX3_isLater_27 : decode cX3_isLater 27 = .ok (.getfield 15, 3) := by decide +kernel
theorem dX3_isLater_30 : decode cX3_isLater 30 = .ok (.iload_n 1, 1) := by decide +kernel
theorem dX3_isLater_31 : decode cX3_isLater 31 = .ok (.iaload, 1) := by decide +kernel
theorem dX3_isLater_32 : decode cX3_isLater 32 = .ok (.iload_n 3, 1) := by decide +kernel
theorem dX3_isLater_33 : decode cX3_isLater 33 = .ok (.if_icmp .le 7, 3) := by decide +kernel
theorem dX3_isLater_36 : decode cX3_isLater 36 = .ok (.iconst 1, 1) := by decide +kernel
theorem dX3_isLater_37 : decode cX3_isLater 37 = .ok (.goto 4, 3) := by decide +kernel
theorem dX3_isLater_40 : decode cX3_isLater 40 = .ok (.iconst 0, 1) := by decide +kernel
theorem dX3_isLater_41 : decode cX3_isLater 41 = .ok (.ireturn, 1) := by decide +kernel
theorem dX3_removeFirst_0 : decode cX3_removeFirst 0 = .ok (.aload_n 0, 1) := by decide +kernel
theorem dX3_removeFirst_1 : decode cX3_removeFirst 1 = .ok (.getfield 21, 3) := by decide +kernel
theorem dX3_removeFirst_4 : decode cX3_removeFirst 4 = .ok (.ifCond .ne 4, 3) := by decide +kernel
theorem dX3_removeFirst_7 : decode cX3_removeFirst 7 = .ok (.return_, 1) := by decide +kernel
theorem dX3_removeFirst_8 : decode cX3_removeFirst 8 = .ok (.iconst 1, 1) := by decide +kernel
theorem dX3_removeFirst_9 : decode cX3_removeFirst 9 = .ok (.istore_n 1, 1) := by decide +kernel
theorem dX3_removeFirst_10 : decode cX3_removeFirst 10 = .ok (.iload_n 1, 1) := by decide +kernel
theorem dX3_removeFirst_11 : decode cX3_removeFirst 11 = .ok (.aload_n 0, 1) := by decide +kernel
theorem dX3_removeFirst_12 : decode cX3_removeFirst 12 = .ok (.getfield 21, 3) := by decide +kernel
theorem dX3_removeFirst_15 : decode cX3_removeFirst 15 = .ok (.if_icmp .ge 17, 3) := by decide +kernel
theorem dX3_removeFirst_18 : decode cX3_removeFirst 18 = .ok (.aload_n 0, 1) := by decide +kernel
theorem dX3_removeFirst_19 : decode cX3_removeFirst 19 = .ok (.iload_n 1, 1) := by decide +kernel
theorem dX3_removeFirst_20 : decode cX3_removeFirst 20 = .ok (.iload_n 1, 1) := by decide +kernel
theorem dX3_removeFirst_21 : decode cX3_removeFirst 21 = .ok (.iconst 1, 1) := by decide +kernel
theorem dX3_removeFirst_22 : decode cX3_removeFirst 22 = .ok (.isub, 1) := by decide +kernel
theorem dX3_removeFirst_23 : decode cX3_removeFirst 23 = .ok (.invokevirtual 35, 3) := by decide +kernel
theorem dX3_removeFirst_26 : decode cX3_removeFirst 26 = .ok (.iinc 1 1, 3) := by decide +kernel
theorem dX3_removeFirst_29 : decode cX3_removeFirst 29 = .ok (.goto (-19), 3) := by decide +kernel
theorem dX3_removeFirst_32 : decode cX3_removeFirst 32 = .ok (.aload_n 0, 1) := by decide +kernel
theorem dX3_removeFirst_33 : decode cX3_removeFirst 33 = .ok (.dup, 1) := by decide +kernel
theorem dX3_removeFirst_34 : decode cX3_removeFirst 34 = .ok (.getfield 21, 3) := by decide +kernel
theorem dX3_removeFirst_37 : decode cX3_removeFirst 37 = .ok (.iconst 1, 1) := by decide +kernel
theorem dX3_removeFirst_38 : decode cX3_removeFirst 38 = .ok (.isub, 1) := by decide +kernel
theorem dX3_removeFirst_39 : decode cX3_removeFirst 39 = .ok (.putfield 21, 3) := by decide +kernel
theorem dX3_removeFirst_42 : decode cX3_removeFirst 42 = .ok (.return_, 1) := by decide +kernel
theorem dX3_move_0 : decode cX3_move 0 = .ok (.aload_n 0, 1) := by decide +kernel
theorem dX3_move_1 : decode cX3_move 1 = .ok (.getfield 9, 3) := by decide +kernel
theorem dX3_move_4 : decode cX3_move 4 = .ok (.iload_n 2, 1) := by decide +kernel
theorem dX3_move_5 : decode cX3_move 5 = .ok (.aload_n 0, 1) := by decide +kernel
theorem dX3_move_6 : decode cX3_move 6 = .ok (.getfield 9, 3) := by decide +kernel
theorem dX3_move_9 : decode cX3_move 9 = .ok (.iload_n 1, 1) := by decide +kernel
theorem dX3_move_10 : decode cX3_move 10 = .ok (.iaload, 1) := by decide +kernel
theorem dX3_move_11 : decode cX3_move 11 = .ok (.iastore, 1) := by decide +kernel
theorem dX3_move_12 : decode cX3_move 12 = .ok (.aload_n 0, 1) := by decide +kernel
theorem dX3_move_13 : decode cX3_move 13 = .ok (.getfield 15, 3) := by decide +kernel
theorem dX3_move_16 : decode cX3_move 16 = .ok (.iload_n 2, 1) := by decide +kernel
theorem dX3_move_17 : decode cX3_move 17 = .ok (.aload_n 0, 1) := by decide +kernel
theorem dX3_move_18 : decode cX3_move 18 = .ok (.getfield 15, 3) := by decide +kernel
theorem dX3_move_21 : decode cX3_move 21 = .ok (.iload_n 1, 1) := by decide +kernel
theorem dX3_move_22 : decode cX3_move 22 = .ok (.iaload, 1) := by decide +kernel
theorem dX3_move_23 : decode cX3_move 23 = .ok (.iastore, 1) := by decide +kernel
theorem dX3_move_24 : decode cX3_move 24 = .ok (.aload_n 0, 1) := by decide +kernel
theorem dX3_move_25 : decode cX3_move 25 = .ok (.getfield 18, 3) := by decide +kernel
theorem dX3_move_28 : decode cX3_move 28 = .ok (.iload_n 2, 1) := by decide +kernel
theorem dX3_move_29 : decode cX3_move 29 = .ok (.aload_n 0, 1) := by decide +kernel
theorem dX3_move_30 : decode cX3_move 30 = .ok (.getfield 18, 3) := by decide +kernel
theorem dX3_move_33 : decode cX3_move 33 = .ok (.iload_n 1, 1) := by decide +kernel
theorem dX3_move_34 : decode cX3_move 34 = .ok (.iaload, 1) := by decide +kernel
theorem dX3_move_35 : decode cX3_move 35 = .ok (.iastore, 1) := by decide +kernel
theorem dX3_move_36 : decode cX3_move 36 = .ok (.return_, 1) := by decide +kernel
theorem dX3_firstTurn_0 : decode cX3_firstTurn 0 = .ok (.aload_n 0, 1) := by decide +kernel
theorem dX3_firstTurn_1 : decode cX3_firstTurn 1 = .ok (.getfield 21, 3) := by decide +kernel
theorem dX3_firstTurn_4 : decode cX3_firstTurn 4 = .ok (.ifCond .ne 8, 3) := by decide +kernel
theorem dX3_firstTurn_7 : decode cX3_firstTurn 7 = .ok (.bipush (-6), 2) := by decide +kernel
theorem dX3_firstTurn_9 : decode cX3_firstTurn 9 = .ok (.goto 9, 3) := by decide +kernel
theorem dX3_firstTurn_12 : decode cX3_firstTurn 12 = .ok (.aload_n 0, 1) := by decide +kernel
theorem dX3_firstTurn_13 : decode cX3_firstTurn 13 = .ok (.getfield 9, 3) := by decide +kernel
theorem dX3_firstTurn_16 : decode cX3_firstTurn 16 = .ok (.iconst 0, 1) := by decide +kernel
theorem dX3_firstTurn_17 : decode cX3_firstTurn 17 = .ok (.iaload, 1) := by decide +kernel
theorem dX3_firstTurn_18 : decode cX3_firstTurn 18 = .ok (.ireturn, 1) := by decide +kernel
theorem dX3_lastTurn_0 : decode cX3_lastTurn 0 = .ok (.aload_n 0, 1) := by decide +kernel
theorem dX3_lastTurn_1 : decode cX3_lastTurn 1 = .ok (.getfield 21, 3) := by decide +kernel
theorem dX3_lastTurn_4 : decode cX3_lastTurn 4 = .ok (.ifCond .ne 8, 3) := by decide +kernel
theorem dX3_lastTurn_7 : decode cX3_lastTurn 7 = .ok (.bipush (-6), 2) := by decide +kernel
theorem dX3_lastTurn_9 : decode cX3_lastTurn 9 = .ok (.goto 14, 3) := by decide +kernel
theorem dX3_lastTurn_12 : decode cX3_lastTurn 12 = .ok (.aload_n 0, 1) := by decide +kernel
theorem dX3_lastTurn_13 : decode cX3_lastTurn 13 = .ok (.getfield 9, 3) := by decide +kernel
theorem dX3_lastTurn_16 : decode cX3_lastTurn 16 = .ok (.aload_n 0, 1) := by decide +kernel
theorem dX3_lastTurn_17 : decode cX3_lastTurn 17 = .ok (.getfield 21, 3) := by decide +kernel
theorem dX3_lastTurn_20 : decode cX3_lastTurn 20 = .ok (.iconst 1, 1) := by decide +kernel
theorem dX3_lastTurn_21 : decode cX3_lastTurn 21 = .ok (.isub, 1) := by decide +kernel
theorem dX3_lastTurn_22 : decode cX3_lastTurn 22 = .ok (.iaload, 1) := by decide +kernel
theorem dX3_lastTurn_23 : decode cX3_lastTurn 23 = .ok (.ireturn, 1) := by decide +kernel
theorem dX4_init_0 : decode cX4_init 0 = .ok (.aload_n 0, 1) := by decide +kernel
theorem dX4_init_1 : decode cX4_init 1 = .ok (.invokespecial 3, 3) := by decide +kernel
theorem dX4_init_4 : decode cX4_init 4 = .ok (.aload_n 0, 1) := by decide +kernel
theorem dX4_init_5 : decode cX4_init 5 = .ok (.iconst 4, 1) := by decide +kernel
theorem dX4_init_6 : decode cX4_init 6 = .ok (.newarray .int, 2) := by decide +kernel
theorem dX4_init_8 : decode cX4_init 8 = .ok (.putfield 9, 3) := by decide +kernel
theorem dX4_init_11 : decode cX4_init 11 = .ok (.aload_n 0, 1) := by decide +kernel
theorem dX4_init_12 : decode cX4_init 12 = .ok (.iconst 0, 1) := by decide +kernel
theorem dX4_init_13 : decode cX4_init 13 = .ok (.putfield 15, 3) := by decide +kernel
theorem dX4_init_16 : decode cX4_init 16 = .ok (.aload_n 0, 1) := by decide +kernel
theorem dX4_init_17 : decode cX4_init 17 = .ok (.iconst 0, 1) := by decide +kernel
theorem dX4_init_18 : decode cX4_init 18 = .ok (.putfield 19, 3) := by decide +kernel
theorem dX4_init_21 : decode cX4_init 21 = .ok (.aload_n 0, 1) := by decide +kernel
theorem dX4_init_22 : decode cX4_init 22 = .ok (.iconst 0, 1) := by decide +kernel
theorem dX4_init_23 : decode cX4_init 23 = .ok (.putfield 22, 3) := by decide +kernel
theorem dX4_init_26 : decode cX4_init 26 = .ok (.aload_n 0, 1) := by decide +kernel
theorem dX4_init_27 : decode cX4_init 27 = .ok (.iconst 0, 1) := by decide +kernel
theorem dX4_init_28 : decode cX4_init 28 = .ok (.putfield 25, 3) := by decide +kernel
theorem dX4_init_31 : decode cX4_init 31 = .ok (.aload_n 0, 1) := by decide +kernel
theorem dX4_init_32 : decode cX4_init 32 = .ok (.bipush 6, 2) := by decide +kernel
theorem dX4_init_34 : decode cX4_init 34 = .ok (.newarray .int, 2) := by decide +kernel
theorem dX4_init_36 : decode cX4_init 36 = .ok (.putfield 28, 3) := by decide +kernel
theorem dX4_init_39 : decode cX4_init 39 = .ok (.aload_n 0, 1) := by decide +kernel
theorem dX4_init_40 : decode cX4_init 40 = .ok (.bipush 6, 2) := by decide +kernel
theorem dX4_init_42 : decode cX4_init 42 = .ok (.newarray .int, 2) := by decide +kernel
theorem dX4_init_44 : decode cX4_init 44 = .ok (.putfield 31, 3) := by decide +kernel
theorem dX4_init_47 : decode cX4_init 47 = .ok (.aload_n 0, 1) := by decide +kernel
theorem dX4_init_48 : decode cX4_init 48 = .ok (.bipush 6, 2) := by decide +kernel
theorem dX4_init_50 : decode cX4_init 50 = .ok (.newarray .int, 2) := by decide +kernel
theorem dX4_init_52 : decode cX4_init 52 = .ok (.putfield 34, 3) := by decide +kernel
theorem dX4_init_55 : decode cX4_init 55 = .ok (.aload_n 0, 1) := by decide +kernel
theorem dX4_init_56 : decode cX4_init 56 = .ok (.bipush 6, 2) := by decide +kernel
theorem dX4_init_58 : decode cX4_init 58 = .ok (.newarray .int, 2) := by decide +kernel
theorem dX4_init_60 : decode cX4_init 60 = .ok (.putfield 37, 3) := by decide +kernel
theorem dX4_init_63 : decode cX4_init 63 = .ok (.aload_n 0, 1) := by decide +kernel
theorem dX4_init_64 : decode cX4_init 64 = .ok (.bipush 6, 2) := by decide +kernel
theorem dX4_init_66 : decode cX4_init 66 = .ok (.newarray .int, 2) := by decide +kernel
theorem dX4_init_68 : decode cX4_init 68 = .ok (.putfield 40, 3) := by decide +kernel
theorem dX4_init_71 : decode cX4_init 71 = .ok (.aload_n 0, 1) := by decide +kernel
theorem dX4_init_72 : decode cX4_init 72 = .ok (.bipush 6, 2) := by decide +kernel
theorem dX4_init_74 : decode cX4_init 74 = .ok (.newarray .int, 2) := by decide +kernel
theorem dX4_init_76 : decode cX4_init 76 = .ok (.putfield 43, 3) := by decide +kernel
theorem dX4_init_79 : decode cX4_init 79 = .ok (.aload_n 0, 1) := by decide +kernel
theorem dX4_init_80 : decode cX4_init 80 = .ok (.bipush 6, 2) := by decide +kernel
theorem dX4_init_82 : decode cX4_init 82 = .ok (.newarray .int, 2) := by decide +kernel
theorem dX4_init_84 : decode cX4_init 84 = .ok (.putfield 46, 3) := by decide +kernel
theorem dX4_init_87 : decode cX4_init 87 = .ok (.aload_n 0, 1) := by decide +kernel
theorem dX4_init_88 : decode cX4_init 88 = .ok (.new 49, 3) := by decide +kernel
theorem dX4_init_91 : decode cX4_init 91 = .ok (.dup, 1) := by decide +kernel
theorem dX4_init_92 : decode cX4_init 92 = .ok (.invokespecial 51, 3) := by decide +kernel
theorem dX4_init_95 : decode cX4_init 95 = .ok (.putfield 52, 3) := by decide +kernel
theorem dX4_init_98 : decode cX4_init 98 = .ok (.aload_n 0, 1) := by decide +kernel
theorem dX4_init_99 : decode cX4_init 99 = .ok (.new 56, 3) := by decide +kernel
theorem dX4_init_102 : decode cX4_init 102 = .ok (.dup, 1) := by decide +kernel
theorem dX4_init_103 : decode cX4_init 103 = .ok (.invokespecial 58, 3) := by decide +kernel
theorem dX4_init_106 : decode cX4_init 106 = .ok (.putfield 59, 3) := by decide +kernel
theorem dX4_init_109 : decode cX4_init 109 = .ok (.getstatic 63, 3) := by decide +kernel
theorem dX4_init_112 : decode cX4_init 112 = .ok (.iconst 0, 1) := by decide +kernel
theorem dX4_init_113 : decode cX4_init 113 = .ok (.aload_n 0, 1) := by decide +kernel
theorem dX4_init_114 : decode cX4_init 114 = .ok (.getfield 9, 3) := by decide +kernel
theorem dX4_init_117 : decode cX4_init 117 = .ok (.iconst 0, 1) := by decide +kernel
theorem dX4_init_118 : decode cX4_init 118 = .ok (.iconst 4, 1) := by decide +kernel
theorem dX4_init_119 : decode cX4_init 119 = .ok (.invokestatic 66, 3) := by decide +kernel
theorem dX4_init_122 : decode cX4_init 122 = .ok (.return_, 1) := by decide +kernel
theorem dX4_copyFrom_0 : decode cX4_copyFrom 0 = .ok (.aload_n 1, 1) := by decide +kernel
theorem dX4_copyFrom_1 : decode cX4_copyFrom 1 = .ok (.getfield 9, 3) := by decide +kernel
theorem dX4_copyFrom_4 : decode cX4_copyFrom 4 = .ok (.iconst 0, 1) := by decide +kernel
theorem dX4_copyFrom_5 : decode cX4_copyFrom 5 = .ok (.aload_n 0, 1) := by decide +kernel
theorem dX4_copyFrom_6 : decode cX4_copyFrom 6 = .ok (.getfield 9, 3) := by decide +kernel
theorem dX4_copyFrom_9 : decode cX4_copyFrom 9 = .ok (.iconst 0, 1) := by decide +kernel
theorem dX4_copyFrom_10 : decode cX4_copyFrom 10 = .ok (.iconst 4, 1) := by decide +kernel
theorem dX4_copyFrom_11 : decode cX4_copyFrom 11 = .ok (.invokestatic 66, 3) := by decide +kernel
theorem dX4_copyFrom_14 : decode cX4_copyFrom 14 = .ok (.aload_n 0, 1) := by decide +kernel
theorem dX4_copyFrom_15 : decode cX4_copyFrom 15 = .ok (.aload_n 1, 1) := by decide +kernel
theorem dX4_copyFrom_16 : decode cX4_copyFrom 16 = .ok (.getfield 15, 3) := by decide +kernel
theorem dX4_copyFrom_19 : decode cX4_copyFrom 19 = .ok (.putfield 15, 3) := by decide +kernel
theorem dX4_copyFrom_22 : decode cX4_copyFrom 22 = .ok (.aload_n 0, 1) := by decide +kernel
theorem dX4_copyFrom_23 : decode cX4_copyFrom 23 = .ok (.aload_n 1, 1) := by decide +kernel
theorem dX4_copyFrom_24 : decode cX4_copyFrom 24 = .ok (.getfield 19, 3) := by decide +kernel
theorem dX4_copyFrom_27 : decode cX4_copyFrom 27 = .ok (.putfield 19, 3) := by decide +kernel
theorem dX4_copyFrom_30 : decode cX4_copyFrom 30 = .ok (.aload_n 0, 1) := by decide +kernel
theorem dX4_copyFrom_31 : decode cX4_copyFrom 31 = .ok (.aload_n 1, 1) := by decide +kernel
theorem dX4_copyFrom_32 : decode cX4_copyFrom 32 = .ok (.getfield 22, 3) := by decide +kernel
theorem dX4_copyFrom_35 : decode cX4_copyFrom 35 = .ok (.putfield 22, 3) := by decide +kernel
theorem dX4_copyFrom_38 : decode cX4_copyFrom 38 = .ok (.aload_n 0, 1) := by decide +kernel
theorem dX4_copyFrom_39 : decode cX4_copyFrom 39 = .ok (.aload_n 1, 1) := by decide +kernel
theorem dX4_copyFrom_40 : decode cX4_copyFrom 40 = .ok (.getfield 25, 3) := by decide +kernel
theorem dX4_copyFrom_43 : decode cX4_copyFrom 43 = .ok (.putfield 25, 3) := by decide +kernel
theorem dX4_copyFrom_46 : decode cX4_copyFrom 46 = .ok (.aload_n 1, 1) := by decide +kernel
theorem dX4_copyFrom_47 : decode cX4_copyFrom 47 = .ok (.getfield 28, 3) := by decide +kernel
theorem dX4_copyFrom_50 : decode cX4_copyFrom 50 = .ok (.iconst 0, 1) := by decide +kernel
theorem dX4_copyFrom_51 : decode cX4_copyFrom 51 = .ok (.aload_n 0, 1) := by decide +kernel
theorem dX4_copyFrom_52 : decode cX4_copyFrom 52 = .ok (.getfield 28, 3) := by decide +kernel
theorem dX4_copyFrom_55 : decode cX4_copyFrom 55 = .ok (.iconst 0, 1) := by decide +kernel
theorem dX4_copyFrom_56 : decode cX4_copyFrom 56 = .ok (.bipush 6, 2) := by decide +kernel
theorem dX4_copyFrom_58 : decode cX4_copyFrom 58 = .ok (.invokestatic 66, 3) := by decide +kernel
theorem dX4_copyFrom_61 : decode cX4_copyFrom 61 = .ok (.aload_n 1, 1) := by decide +kernel
theorem dX4_copyFrom_62 : decode cX4_copyFrom 62 = .ok (.getfield 31, 3) := by decide +kernel
theorem dX4_copyFrom_65 : decode cX4_copyFrom 65 = .ok (.iconst 0, 1) := by decide +kernel
theorem dX4_copyFrom_66 : decode cX4_copyFrom 66 = .ok (.aload_n 0, 1) := by decide +kernel
theorem dX4_copyFrom_67 : decode cX4_copyFrom 67 = .ok (.getfield 31, 3) := by decide +kernel
theorem dX4_copyFrom_70 : decode cX4_copyFrom 70 = .ok (.iconst 0, 1) := by decide +kernel
theorem dX4_copyFrom_71 : decode cX4_copyFrom 71 = .ok (.bipush 6, 2) := by decide +kernel
theorem dX4_copyFrom_73 : decode cX4_copyFrom 73 = .ok (.invokestatic 66, 3) := by decide +kernel
theorem dX4_copyFrom_76 : decode cX4_copyFrom 76 = .ok (.aload_n 1, 1) := by decide +kernel
theorem dX4_copyFrom_77 : decode cX4_copyFrom 77 = .ok (.getfield 34, 3) := by decide +kernel
theorem dX4_copyFrom_80 : decode cX4_copyFrom 80 = .ok (.iconst 0, 1) := by decide +kernel
theorem dX4_copyFrom_81 : decode cX4_copyFrom 81 = .ok (.aload_n 0, 1) := by decide +kernel
theorem dX4_copyFrom_82 : decode cX4_copyFrom 82 = .ok (.getfield 34, 3) := by decide +kernel
theorem dX4_copyFrom_85 : decode cX4_copyFrom 85 = .ok (.iconst 0, 1) := by decide +kernel
theorem dX4_copyFrom_86 : decode cX4_copyFrom 86 = .ok (.bipush 6, 2) := by decide +kernel
theorem dX4_copyFrom_88 : decode cX4_copyFrom 88 = .ok (.invokestatic 66, 3) := by decide +kernel
theorem dX4_copyFrom_91 : decode cX4_copyFrom 91 = .ok (.aload_n 1, 1) := by decide +kernel
theorem dX4_copyFrom_92 : decode cX4_copyFrom 92 = .ok (.getfield 37, 3) := by decide +kernel
theorem dX4_copyFrom_95 : decode cX4_copyFrom 95 = .ok (.iconst 0, 1) := by decide +kernel
theorem dX4_copyFrom_96 : decode cX4_copyFrom 96 = .ok (.aload_n 0, 1) := by decide +kernel
theorem dX4_copyFrom_97 : decode cX4_copyFrom 97 = .ok (.getfield 37, 3) := by decide +kernel
theorem dX4_copyFrom_100 : decode cX4_copyFrom 100 = .ok (.iconst 0, 1) := by decide +kernel
theorem dX4_copyFrom_101 : decode cX4_copyFrom 101 = .ok (.bipush 6, 2) := by decide +kernel
theorem dX4_copyFrom_103 : decode cX4_copyFrom 103 = .ok (.invokestatic 66, 3) := by decide +kernel
theorem dX4_copyFrom_106 : decode cX4_copyFrom 106 = .ok (.aload_n 1, 1) := by decide +kernel
theorem dX4_copyFrom_107 : decode cX4_copyFrom 107 = .ok (.getfield 40, 3) := by decide +kernel
theorem dX4_copyFrom_110 : decode cX4_copyFrom 110 = .ok (.iconst 0, 1) := by decide +kernel
theorem dX4_copyFrom_111 : decode cX4_copyFrom 111 = .ok (.aload_n 0, 1) := by decide +kernel
theorem dX4_copyFrom_112 : decode cX4_copyFrom 112 = .ok (.getfield 40, 3) := by decide +kernel
theorem dX4_copyFrom_115 : decode cX4_copyFrom 115 = .ok (.iconst 0, 1) := by decide +kernel
theorem dX4_copyFrom_116 : decode cX4_copyFrom 116 = .ok (.bipush 6, 2) := by decide +kernel
theorem dX4_copyFrom_118 : decode cX4_copyFrom 118 = .ok (.invokestatic 66, 3) := by decide +kernel
theorem dX4_copyFrom_121 : decode cX4_copyFrom 121 = .ok (.aload_n 1, 1) := by decide +kernel
theorem dX4_copyFrom_122 : decode cX4_copyFrom 122 = .ok (.getfield 43, 3) := by decide +kernel
theorem dX4_copyFrom_125 : decode cX4_copyFrom 125 = .ok (.iconst 0, 1) := by decide +kernel
theorem dX4_copyFrom_126 : decode cX4_copyFrom 126 = .ok (.aload_n 0, 1) := by decide +kernel
theorem dX4_copyFrom_127 : decode cX4_copyFrom 127 = .ok (.getfield 43, 3) := by decide +kernel
theorem dX4_copyFrom_130 : decode cX4_copyFrom 130 = .ok (.iconst 0, 1) := by decide +kernel
theorem dX4_copyFrom_131 : decode cX4_copyFrom 131 = .ok (.bipush 6, 2) := by decide +kernel
theorem dX4_copyFrom_133 : decode cX4_copyFrom 133 = .ok (.invokestatic 66, 3) := by decide +kernel
theorem dX4_copyFrom_136 : decode cX4_copyFrom 136 = .ok (.aload_n 1, 1) := by decide +kernel
theorem dX4_copyFrom_137 : decode cX4_copyFrom 137 = .ok (.getfield 46, 3) := by decide +kernel
theorem dX4_copyFrom_140 : decode cX4_copyFrom 140 = .ok (.iconst 0, 1) := by decide +kernel
theorem dX4_copyFrom_141 : decode cX4_copyFrom 141 = .ok (.aload_n 0, 1) := by decide +kernel
theorem dX4_copyFrom_142 : decode cX4_copyFrom 142 = .ok (.getfield 46, 3) := by decide +kernel
theorem dX4_copyFrom_145 : decode cX4_copyFrom 145 = .ok (.iconst 0, 1) := by decide +kernel
theorem dX4_copyFrom_146 : decode cX4_copyFrom 146 = .ok (.bipush 6, 2) := by decide +kernel
theorem dX4_copyFrom_148 : decode cX4_copyFrom 148 = .ok (.invokestatic 66, 3) := by decide +kernel
theorem dX4_copyFrom_151 : decode cX4_copyFrom 151 = .ok (.aload_n 0, 1) := by decide +kernel
theorem dX4_copyFrom_152 : decode cX4_copyFrom 152 = .ok (.getfield 52, 3) := by decide +kernel
theorem dX4_copyFrom_155 : decode cX4_copyFrom 155 = .ok (.aload_n 1, 1) := by decide +kernel
theorem dX4_copyFrom_156 : decode cX4_copyFrom 156 = .ok (.getfield 52, 3) := by decide +kernel
theorem dX4_copyFrom_159 : decode cX4_copyFrom 159 = .ok (.invokevirtual 72, 3) := by decide +kernel
theorem dX4_copyFrom_162 : decode cX4_copyFrom 162 = .ok (.aload_n 0, 1) := by decide +kernel
theorem dX4_copyFrom_163 : decode cX4_copyFrom 163 = .ok (.getfield 59, 3) := by decide +kernel
theorem dX4_copyFrom_166 : decode cX4_copyFrom 166 = .ok (.aload_n 1, 1) := by decide +kernel
theorem dX4_copyFrom_167 : decode cX4_copyFrom 167 = .ok (.getfield 59, 3) := by decide +kernel
theorem dX4_copyFrom_170 : decode cX4_copyFrom 170 = .ok (.invokevirtual 76, 3) := by decide +kernel
theorem dX4_copyFrom_173 : decode cX4_copyFrom 173 = .ok (.return_, 1) := by decide +kernel
theorem dX4_hasKitten_0 : decode cX4_hasKitten 0 = .ok (.iload_n 1, 1) := by decide +kernel
theorem dX4_hasKitten_1 : decode cX4_hasKitten 1 = .ok (.ifCond .lt 15, 3) := by decide +kernel
theorem dX4_hasKitten_4 : decode cX4_hasKitten 4 = .ok (.iload_n 1, 1) := by decide +kernel
theorem dX4_hasKitten_5 : decode cX4_hasKitten 5 = .ok (.aload_n 0, 1) := by decide +kernel
theorem dX4_hasKitten_6 : decode cX4_hasKitten 6 = .ok (.getfield 19, 3) := by decide +kernel
theorem dX4_hasKitten_9 : decode cX4_hasKitten 9 = .ok (.if_icmp .ge 7, 3) := by decide +kernel
theorem dX4_hasKitten_12 : decode cX4_hasKitten 12 = .ok (.iconst 1, 1) := by decide +kernel
theorem dX4_hasKitten_13 : decode cX4_hasKitten 13 = .ok (.goto 4, 3) := by decide +kernel
theorem dX4_hasKitten_16 : decode cX4_hasKitten 16 = .ok (.iconst 0, 1) := by decide +kernel
theorem dX4_hasKitten_17 : decode cX4_hasKitten 17 = .ok (.ireturn, 1) := by decide +kernel
theorem dX4_changeSetting_0 : decode cX4_changeSetting 0 = .ok (.iload_n 1, 1) := by decide +kernel
theorem dX4_changeSetting_1 : decode cX4_changeSetting 1 = .ok (.ifCond .lt 8, 3) := by decide +kernel
theorem dX4_changeSetting_4 : decode cX4_changeSetting 4 = .ok (.iload_n 1, 1) := by decide +kernel
theorem dX4_changeSetting_5 : decode cX4_changeSetting 5 = .ok (.iconst 4, 1) := by decide +kernel
theorem dX4_changeSetting_6 : decode cX4_changeSetting 6 = .ok (.if_icmp .lt 6, 3) := by decide +kernel
theorem dX4_changeSetting_9 : decode cX4_changeSetting 9 = .ok (.bipush (-2), 2) := by decide +kernel
theorem dX4_changeSetting_11 : decode cX4_changeSetting 11 = .ok (.ireturn, 1) := by decide +kernel
theorem dX4_changeSetting_12 : decode cX4_changeSetting 12 = .ok (.iload_n 2, 1) := by decide +kernel
theorem dX4_changeSetting_13 : decode cX4_changeSetting 13 = .ok (.getstatic 79, 3) := by decide +kernel
theorem dX4_changeSetting_16 : decode cX4_changeSetting 16 = .ok (.iload_n 1, 1) := by decide +kernel
theorem dX4_changeSetting_17 : decode cX4_changeSetting 17 = .ok (.iaload, 1) := by decide +kernel
theorem dX4_changeSetting_18 : decode cX4_changeSetting 18 = .ok (.if_icmp .lt 12, 3) := by decide +kernel
theorem dX4_changeSetting_21 : decode cX4_changeSetting 21 = .ok (.iload_n 2, 1) := by decide +kernel
theorem dX4_changeSetting_22 : decode cX4_changeSetting 22 = .ok (.getstatic 82, 3) := by decide +kernel
theorem dX4_changeSetting_25 : decode cX4_changeSetting 25 = .ok (.iload_n 1, 1) := by decide +kernel
theorem dX4_changeSetting_26 : decode cX4_changeSetting 26 = .ok (.iaload, 1) := by decide +kernel
theorem dX4_changeSetting_27 : decode cX4_changeSetting 27 = .ok (.if_icmp .le 6, 3) := by decide +kernel
theorem dX4_changeSetting_30 : decode cX4_changeSetting 30 = .ok (.bipush (-2), 2) := by decide +kernel
theorem dX4_changeSetting_32 : decode cX4_changeSetting 32 = .ok (.ireturn, 1) := by decide +kernel
theorem dX4_changeSetting_33 : decode cX4_changeSetting 33 = .ok (.aload_n 0, 1) := by decide +kernel
theorem dX4_changeSetting_34 : decode cX4_changeSetting 34 = .ok (.getfield 9, 3) := by decide +kernel
theorem dX4_changeSetting_37 : decode cX4_changeSetting 37 = .ok (.iload_n 1, 1) := by decide +kernel
theorem dX4_changeSetting_38 : decode cX4_changeSetting 38 = .ok (.iaload, 1) := by decide +kernel
theorem dX4_changeSetting_39 : decode cX4_changeSetting 39 = .ok (.istore_n 3, 1) := by decide +kernel
theorem dX4_changeSetting_40 : decode cX4_changeSetting 40 = .ok (.aload_n 0, 1) := by decide +kernel
theorem dX4_changeSetting_41 : decode cX4_changeSetting 41 = .ok (.getfield 9, 3) := by decide +kernel
theorem dX4_changeSetting_44 : decode cX4_changeSetting 44 = .ok (.iload_n 1, 1) := by decide +kernel
theorem dX4_changeSetting_45 : decode cX4_changeSetting 45 = .ok (.iload_n 2, 1) := by decide +kernel
theorem dX4_changeSetting_46 : decode cX4_changeSetting 46 = .ok (.iastore, 1) := by decide +kernel
theorem dX4_changeSetting_47 : decode cX4_changeSetting 47 = .ok (.iload_n 3, 1) := by decide +kernel
theorem dX4_changeSetting_48 : decode cX4_changeSetting 48 = .ok (.ireturn, 1) := by decide +kernel
theorem dX4_addKitten_0 : decode cX4_addKitten 0 = .ok (.iload_n 1, 1) := by decide +kernel
theorem dX4_addKitten_1 : decode cX4_addKitten 1 = .ok (.ifCond .lt 9, 3) := by decide +kernel
theorem dX4_addKitten_4 : decode cX4_addKitten 4 = .ok (.iload_n 1, 1) := by decide +kernel
theorem dX4_addKitten_5 : decode cX4_addKitten 5 = .ok (.bipush 16, 2) := by decide +kernel
theorem dX4_addKitten_7 : decode cX4_addKitten 7 = .ok (.if_icmp .lt 5, 3) := by decide +kernel
theorem dX4_addKitten_10 : decode cX4_addKitten 10 = .ok (.iconst (-1), 1) := by decide +kernel
theorem dX4_addKitten_11 : decode cX4_addKitten 11 = .ok (.ireturn, 1) := by decide +kernel
theorem dX4_addKitten_12 : decode cX4_addKitten 12 = .ok (.aload_n 0, 1) := by decide +kernel
theorem dX4_addKitten_13 : decode cX4_addKitten 13 = .ok (.getfield 19, 3) := by decide +kernel
theorem dX4_addKitten_16 : decode cX4_addKitten 16 = .ok (.bipush 6, 2) := by decide +kernel
theorem dX4_addKitten_18 : decode cX4_addKitten 18 = .ok (.if_icmp .lt 6, 3) := by decide +kernel
theorem dX4_addKitten_21 : decode cX4_addKitten 21 = .ok (.bipush (-4), 2) := by decide +kernel
theorem dX4_addKitten_23 : decode cX4_addKitten 23 = .ok (.ireturn, 1) := by decide +kernel
theorem dX4_addKitten_24 : decode cX4_addKitten 24 = .ok (.aload_n 0, 1) := by decide +kernel
theorem dX4_addKitten_25 : decode cX4_addKitten 25 = .ok (.getfield 19, 3) := by decide +kernel
theorem dX4_addKitten_28 : decode cX4_addKitten 28 = .ok (.istore_n 2, 1) := by decide +kernel
theorem dX4_addKitten_29 : decode cX4_addKitten 29 = .ok (.aload_n 0, 1) := by decide +kernel
theorem dX4_addKitten_30 : decode cX4_addKitten 30 = .ok (.getfield 28, 3) := by decide +kernel
theorem dX4_addKitten_33 : decode cX4_addKitten 33 = .ok (.iload_n 2, 1) := by decide +kernel
theorem dX4_addKitten_34 : decode cX4_addKitten 34 = .ok (.iload_n 1, 1) := by decide +kernel
theorem dX4_addKitten_35 : decode cX4_addKitten 35 = .ok (.iastore, 1) := by decide +kernel
theorem dX4_addKitten_36 : decode cX4_addKitten 36 = .ok (.aload_n 0, 1) := by decide +kernel
theorem dX4_addKitten_37 : decode cX4_addKitten 37 = .ok (.getfield 31, 3) := by decide +kernel
theorem dX4_addKitten_40 : decode cX4_addKitten 40 = .ok (.iload_n 2, 1) := by decide +kernel
theorem dX4_addKitten_41 : decode cX4_addKitten 41 = .ok (.aload_n 0, 1) := by decide +kernel
theorem dX4_addKitten_42 : decode cX4_addKitten 42 = .ok (.getfield 9, 3) := by decide +kernel
theorem dX4_addKitten_45 : decode cX4_addKitten 45 = .ok (.iconst 3, 1) := by decide +kernel
theorem dX4_addKitten_46 : decode cX4_addKitten 46 = .ok (.iaload, 1) := by decide +kernel
theorem dX4_addKitten_47 : decode cX4_addKitten 47 = .ok (.iastore, 1) := by decide +kernel
theorem dX4_addKitten_48 : decode cX4_addKitten 48 = .ok (.aload_n 0, 1) := by decide +kernel
theorem dX4_addKitten_49 : decode cX4_addKitten 49 = .ok (.getfield 34, 3) := by decide +kernel
theorem dX4_addKitten_52 : decode cX4_addKitten 52 = .ok (.iload_n 2, 1) := by decide +kernel
theorem dX4_addKitten_53 : decode cX4_addKitten 53 = .ok (.bipush (-6), 2) := by decide +kernel
theorem dX4_addKitten_55 : decode cX4_addKitten 55 = .ok (.iastore, 1) := by decide +kernel
theorem dX4_addKitten_56 : decode cX4_addKitten 56 = .ok (.aload_n 0, 1) := by decide +kernel
theorem dX4_addKitten_57 : decode cX4_addKitten 57 = .ok (.getfield 37, 3) := by decide +kernel
theorem dX4_addKitten_60 : decode cX4_addKitten 60 = .ok (.iload_n 2, 1) := by decide +kernel
theorem dX4_addKitten_61 : decode cX4_addKitten 61 = .ok (.bipush 40, 2) := by decide +kernel
theorem dX4_addKitten_63 : decode cX4_addKitten 63 = .ok (.iastore, 1) := by decide +kernel
theorem dX4_addKitten_64 : decode cX4_addKitten 64 = .ok (.aload_n 0, 1) := by decide +kernel
theorem dX4_addKitten_65 : decode cX4_addKitten 65 = .ok (.getfield 40, 3) := by decide +kernel
theorem dX4_addKitten_68 : decode cX4_addKitten 68 = .ok (.iload_n 2, 1) := by decide +kernel
theorem dX4_addKitten_69 : decode cX4_addKitten 69 = .ok (.iconst 0, 1) := by decide +kernel
theorem dX4_addKitten_70 : decode cX4_addKitten 70 = .ok (.iastore, 1) := by decide +kernel
theorem dX4_addKitten_71 : decode cX4_addKitten 71 = .ok (.aload_n 0, 1) := by decide +kernel
theorem dX4_addKitten_72 : decode cX4_addKitten 72 = .ok (.getfield 43, 3) := by decide +kernel
theorem dX4_addKitten_75 : decode cX4_addKitten 75 = .ok (.iload_n 2, 1) := by decide +kernel
theorem dX4_addKitten_76 : decode cX4_addKitten 76 = .ok (.iconst 0, 1) := by decide +kernel
theorem dX4_addKitten_77 : decode cX4_addKitten 77 = .ok (.iastore, 1) := by decide +kernel
theorem dX4_addKitten_78 : decode cX4_addKitten 78 = .ok (.aload_n 0, 1) := by decide +kernel
theorem dX4_addKitten_79 : decode cX4_addKitten 79 = .ok (.getfield 46, 3) := by decide +kernel
theorem dX4_addKitten_82 : decode cX4_addKitten 82 = .ok (.iload_n 2, 1) := by decide +kernel
theorem dX4_addKitten_83 : decode cX4_addKitten 83 = .ok (.iconst 0, 1) := by decide +kernel
theorem dX4_addKitten_84 : decode cX4_addKitten 84 = .ok (.iastore, 1) := by decide +kernel
theorem dX4_addKitten_85 : decode cX4_addKitten 85 = .ok (.aload_n 0, 1) := by decide +kernel
theorem dX4_addKitten_86 : decode cX4_addKitten 86 = .ok (.dup, 1) := by decide +kernel
theorem dX4_addKitten_87 : decode cX4_addKitten 87 = .ok (.getfield 19, 3) := by decide +kernel
theorem dX4_addKitten_90 : decode cX4_addKitten 90 = .ok (.iconst 1, 1) := by decide +kernel
theorem dX4_addKitten_91 : decode cX4_addKitten 91 = .ok (.iadd, 1) := by decide +kernel
theorem dX4_addKitten_92 : decode cX4_addKitten 92 = .ok (.putfield 19, 3) := by decide +kernel
theorem dX4_addKitten_95 : decode cX4_addKitten 95 = .ok (.iload_n 2, 1) := by decide +kernel
theorem dX4_addKitten_96 : decode cX4_addKitten 96 = .ok (.ireturn, 1) := by decide +kernel
theorem dX4_tryLeap_0 : decode cX4_tryLeap 0 = .ok (.aload_n 0, 1) := by decide +kernel
theorem dX4_tryLeap_1 : decode cX4_tryLeap 1 = .ok (.iload_n 1, 1) := by decide +kernel
theorem dX4_tryLeap_2 : decode cX4_tryLeap 2 = .ok (.invokevirtual 85, 3) := by decide +kernel
theorem dX4_tryLeap_5 : decode cX4_tryLeap 5 = .ok (.ifCond .ne 5, 3) := by decide +kernel
theorem dX4_tryLeap_8 : decode cX4_tryLeap 8 = .ok (.iconst (-1), 1) := by decide +kernel
theorem dX4_tryLeap_9 : decode cX4_tryLeap 9 = .ok (.ireturn, 1) := by decide +kernel
theorem dX4_tryLeap_10 : decode cX4_tryLeap 10 = .ok (.iload_n 2, 1) := by decide +kernel
theorem dX4_tryLeap_11 : decode cX4_tryLeap 11 = .ok (.invokestatic 89, 3) := by decide +kernel
theorem dX4_tryLeap_14 : decode cX4_tryLeap 14 = .ok (.ifCond .ne 6, 3) := by decide +kernel
theorem dX4_tryLeap_17 : decode cX4_tryLeap 17 = .ok (.bipush (-2), 2) := by decide +kernel
theorem dX4_tryLeap_19 : decode cX4_tryLeap 19 = .ok (.ireturn, 1) := by decide +kernel
theorem dX4_tryLeap_20 : decode cX4_tryLeap 20 = .ok (.aload_n 0, 1) := by decide +kernel
theorem dX4_tryLeap_21 : decode cX4_tryLeap 21 = .ok (.iload_n 1, 1) := by decide +kernel
theorem dX4_tryLeap_22 : decode cX4_tryLeap 22 = .ok (.iload_n 2, 1) := by decide +kernel
theorem dX4_tryLeap_23 : decode cX4_tryLeap 23 = .ok (.invokevirtual 92, 3) := by decide +kernel
theorem dX4_tryLeap_26 : decode cX4_tryLeap 26 = .ok (.ifCond .eq 6, 3) := by decide +kernel
theorem dX4_tryLeap_29 : decode cX4_tryLeap 29 = .ok (.bipush (-5), 2) := by decide +kernel
theorem dX4_tryLeap_31 : decode cX4_tryLeap 31 = .ok (.ireturn, 1) := by decide +kernel
theorem dX4_tryLeap_32 : decode cX4_tryLeap 32 = .ok (.aload_n 0, 1) := by decide +kernel
theorem dX4_tryLeap_33 : decode cX4_tryLeap 33 = .ok (.iload_n 1, 1) := by decide +kernel
theorem dX4_tryLeap_34 : decode cX4_tryLeap 34 = .ok (.iload_n 2, 1) := by decide +kernel
theorem dX4_tryLeap_35 : decode cX4_tryLeap 35 = .ok (.invokevirtual 96, 3) := by decide +kernel
theorem dX4_tryLeap_38 : decode cX4_tryLeap 38 = .ok (.aload_n 0, 1) := by decide +kernel
theorem dX4_tryLeap_39 : decode cX4_tryLeap 39 = .ok (.getfield 28, 3) := by decide +kernel
theorem dX4_tryLeap_42 : decode cX4_tryLeap 42 = .ok (.iload_n 1, 1) := by decide +kernel
theorem dX4_tryLeap_43 : decode cX4_tryLeap 43 = .ok (.iaload, 1) := by decide +kernel
theorem dX4_tryLeap_44 : decode cX4_tryLeap 44 = .ok (.ireturn, 1) := by decide +kernel
theorem dX4_beginNap_0 : decode cX4_beginNap 0 = .ok (.aload_n 0, 1) := by decide +kernel
theorem dX4_beginNap_1 : decode cX4_beginNap 1 = .ok (.iload_n 1, 1) := by decide +kernel
theorem dX4_beginNap_2 : decode cX4_beginNap 2 = .ok (.invokevirtual 85, 3) := by decide +kernel
theorem dX4_beginNap_5 : decode cX4_beginNap 5 = .ok (.ifCond .ne 5, 3) := by decide +kernel
theorem dX4_beginNap_8 : decode cX4_beginNap 8 = .ok (.iconst (-1), 1) := by decide +kernel
theorem dX4_beginNap_9 : decode cX4_beginNap 9 = .ok (.ireturn, 1) := by decide +kernel
theorem dX4_beginNap_10 : decode cX4_beginNap 10 = .ok (.aload_n 0, 1) := by decide +kernel
theorem dX4_beginNap_11 : decode cX4_beginNap 11 = .ok (.iload_n 1, 1) := by decide +kernel
theorem dX4_beginNap_12 : decode cX4_beginNap 12 = .ok (.invokevirtual 100, 3) := by decide +kernel
theorem dX4_beginNap_15 : decode cX4_beginNap 15 = .ok (.ifCond .eq 6, 3) := by decide +kernel
theorem dX4_beginNap_18 : decode cX4_beginNap 18 = .ok (.bipush (-5), 2) := by decide +kernel
theorem dX4_beginNap_20 : decode cX4_beginNap 20 = .ok (.ireturn, 1) := by decide +kernel
theorem dX4_beginNap_21 : decode cX4_beginNap 21 = .ok (.aload_n 0, 1) := by decide +kernel
theorem dX4_beginNap_22 : decode cX4_beginNap 22 = .ok (.getfield 34, 3) := by decide +kernel
theorem dX4_beginNap_25 : decode cX4_beginNap 25 = .ok (.iload_n 1, 1) := by decide +kernel
theorem dX4_beginNap_26 : decode cX4_beginNap 26 = .ok (.aload_n 0, 1) := by decide +kernel
theorem dX4_beginNap_27 : decode cX4_beginNap 27 = .ok (.getfield 15, 3) := by decide +kernel
theorem dX4_beginNap_30 : decode cX4_beginNap 30 = .ok (.aload_n 0, 1) := by decide +kernel
theorem dX4_beginNap_31 : decode cX4_beginNap 31 = .ok (.getfield 9, 3) := by decide +kernel
theorem dX4_beginNap_34 : decode cX4_beginNap 34 = .ok (.iconst 2, 1) := by decide +kernel
theorem dX4_beginNap_35 : decode cX4_beginNap 35 = .ok (.iaload, 1) := by decide +kernel
theorem dX4_beginNap_36 : decode cX4_beginNap 36 = .ok (.iadd, 1) := by decide +kernel
theorem dX4_beginNap_37 : decode cX4_beginNap 37 = .ok (.iastore, 1) := by decide +kernel
theorem dX4_beginNap_38 : decode cX4_beginNap 38 = .ok (.aload_n 0, 1) := by decide +kernel
theorem dX4_beginNap_39 : decode cX4_beginNap 39 = .ok (.getfield 34, 3) := by decide +kernel
theorem dX4_beginNap_42 : decode cX4_beginNap 42 = .ok (.iload_n 1, 1) := by decide +kernel
theorem dX4_beginNap_43 : decode cX4_beginNap 43 = .ok (.iaload, 1) := by decide +kernel
theorem dX4_beginNap_44 : decode cX4_beginNap 44 = .ok (.ireturn, 1) := by decide +kernel
theorem dX4_snipStrands_0 : decode cX4_snipStrands 0 = .ok (.iload_n 1, 1) := by decide +kernel
theorem dX4_snipStrands_1 : decode cX4_snipStrands 1 = .ok (.invokestatic 103, 3) := by decide +kernel
theorem dX4_snipStrands_4 : decode cX4_snipStrands 4 = .ok (.ifCond .eq 11, 3) := by decide +kernel
theorem dX4_snipStrands_7 : decode cX4_snipStrands 7 = .ok (.aload_n 0, 1) := by decide +kernel
theorem dX4_snipStrands_8 : decode cX4_snipStrands 8 = .ok (.iload_n 2, 1) := by decide +kernel
theorem dX4_snipStrands_9 : decode cX4_snipStrands 9 = .ok (.invokevirtual 85, 3) := by decide +kernel
theorem dX4_snipStrands_12 : decode cX4_snipStrands 12 = .ok (.ifCond .ne 5, 3) := by decide +kernel
theorem dX4_snipStrands_15 : decode cX4_snipStrands 15 = .ok (.iconst (-1), 1) := by decide +kernel
theorem dX4_snipStrands_16 : decode cX4_snipStrands 16 = .ok (.ireturn, 1) := by decide +kernel
theorem dX4_snipStrands_17 : decode cX4_snipStrands 17 = .ok (.aload_n 0, 1) := by decide +kernel
theorem dX4_snipStrands_18 : decode cX4_snipStrands 18 = .ok (.getfield 52, 3) := by decide +kernel
theorem dX4_snipStrands_21 : decode cX4_snipStrands 21 = .ok (.iload_n 1, 1) := by decide +kernel
theorem dX4_snipStrands_22 : decode cX4_snipStrands 22 = .ok (.iload_n 2, 1) := by decide +kernel
theorem dX4_snipStrands_23 : decode cX4_snipStrands 23 = .ok (.invokevirtual 106, 3) := by decide +kernel
theorem dX4_snipStrands_26 : decode cX4_snipStrands 26 = .ok (.istore_n 3, 1) := by decide +kernel
theorem dX4_snipStrands_27 : decode cX4_snipStrands 27 = .ok (.iload_n 3, 1) := by decide +kernel
theorem dX4_snipStrands_28 : decode cX4_snipStrands 28 = .ok (.ifCond .ne 6, 3) := by decide +kernel
theorem dX4_snipStrands_31 : decode cX4_snipStrands 31 = .ok (.bipush (-5), 2) := by decide +kernel
theorem dX4_snipStrands_33 : decode cX4_snipStrands 33 = .ok (.ireturn, 1) := by decide +kernel
theorem dX4_snipStrands_34 : decode cX4_snipStrands 34 = .ok (.aload_n 0, 1) := by decide +kernel
theorem dX4_snipStrands_35 : decode cX4_snipStrands 35 = .ok (.getfield 46, 3) := by decide +kernel
theorem dX4_snipStrands_38 : decode cX4_snipStrands 38 = .ok (.iload_n 2, 1) := by decide +kernel
theorem dX4_snipStrands_39 : decode cX4_snipStrands 39 = .ok (.dup2, 1) := by decide +kernel
theorem dX4_snipStrands_40 : decode cX4_snipStrands 40 = .ok (.iaload, 1) := by decide +kernel
theorem dX4_snipStrands_41 : decode cX4_snipStrands 41 = .ok (.iload_n 3, 1) := by decide +kernel
theorem dX4_snipStrands_42 : decode cX4_snipStrands 42 = .ok (.iadd, 1) := by decide +kernel
theorem dX4_snipStrands_43 : decode cX4_snipStrands 43 = .ok (.iastore, 1) := by decide +kernel
theorem dX4_snipStrands_44 : decode cX4_snipStrands 44 = .ok (.iload_n 3, 1) := by decide +kernel
theorem dX4_snipStrands_45 : decode cX4_snipStrands 45 = .ok (.ireturn, 1) := by decide +kernel
theorem dX4_planLeap_0 : decode cX4_planLeap 0 = .ok (.aload_n 0, 1) := by decide +kernel
theorem dX4_planLeap_1 : decode cX4_planLeap 1 = .ok (.iload_n 2, 1) := by decide +kernel
theorem dX4_planLeap_2 : decode cX4_planLeap 2 = .ok (.invokevirtual 85, 3) := by decide +kernel
theorem dX4_planLeap_5 : decode cX4_planLeap 5 = .ok (.ifCond .ne 5, 3) := by decide +kernel
theorem dX4_planLeap_8 : decode cX4_planLeap 8 = .ok (.iconst (-1), 1) := by decide +kernel
theorem dX4_planLeap_9 : decode cX4_planLeap 9 = .ok (.ireturn, 1) := by decide +kernel
theorem dX4_planLeap_10 : decode cX4_planLeap 10 = .ok (.iload_n 1, 1) := by decide +kernel
theorem dX4_planLeap_11 : decode cX4_planLeap 11 = .ok (.iconst 1, 1) := by decide +kernel
theorem dX4_planLeap_12 : decode cX4_planLeap 12 = .ok (.if_icmp .lt 16, 3) := by decide +kernel
theorem dX4_planLeap_15 : decode cX4_planLeap 15 = .ok (.iload_n 1, 1) := by decide +kernel
theorem dX4_planLeap_16 : decode cX4_planLeap 16 = .ok (.bipush 99, 2) := by decide +kernel
theorem dX4_planLeap_18 : decode cX4_planLeap 18 = .ok (.if_icmp .gt 10, 3) := by decide +kernel
theorem dX4_planLeap_21 : decode cX4_planLeap 21 = .ok (.iload_n 3, 1) := by decide +kernel
theorem dX4_planLeap_22 : decode cX4_planLeap 22 = .ok (.invokestatic 89, 3) := by decide +kernel
theorem dX4_planLeap_25 : decode cX4_planLeap 25 = .ok (.ifCond .ne 6, 3) := by decide +kernel
theorem dX4_planLeap_28 : decode cX4_planLeap 28 = .ok (.bipush (-2), 2) := by decide +kernel
theorem dX4_planLeap_30 : decode cX4_planLeap 30 = .ok (.ireturn, 1) := by decide +kernel
theorem dX4_planLeap_31 : decode cX4_planLeap 31 = .ok (.aload_n 0, 1) := by decide +kernel
theorem dX4_planLeap_32 : decode cX4_planLeap 32 = .ok (.getfield 59, 3) := by decide +kernel
theorem dX4_planLeap_35 : decode cX4_planLeap 35 = .ok (.getfield 109, 3) := by decide +kernel
theorem dX4_planLeap_38 : decode cX4_planLeap 38 = .ok (.bipush 16, 2) := by decide +kernel
theorem dX4_planLeap_40 : decode cX4_planLeap 40 = .ok (.if_icmp .lt 6, 3) := by decide +kernel
theorem dX4_planLeap_43 : decode cX4_planLeap 43 = .ok (.bipush (-4), 2) := by decide +kernel
theorem dX4_planLeap_45 : decode cX4_planLeap 45 = .ok (.ireturn, 1) := by decide +kernel
theorem dX4_planLeap_46 : decode cX4_planLeap 46 = .ok (.aload_n 0, 1) := by decide +kernel
theorem dX4_planLeap_47 : decode cX4_planLeap 47 = .ok (.getfield 59, 3) := by decide +kernel
theorem dX4_planLeap_50 : decode cX4_planLeap 50 = .ok (.aload_n 0, 1) := by decide +kernel
theorem dX4_planLeap_51 : decode cX4_planLeap 51 = .ok (.getfield 15, 3) := by decide +kernel
theorem dX4_planLeap_54 : decode cX4_planLeap 54 = .ok (.iload_n 1, 1) := by decide +kernel
theorem dX4_planLeap_55 : decode cX4_planLeap 55 = .ok (.iadd, 1) := by decide +kernel
theorem dX4_planLeap_56 : decode cX4_planLeap 56 = .ok (.iload_n 2, 1) := by decide +kernel
theorem dX4_planLeap_57 : decode cX4_planLeap 57 = .ok (.iload_n 3, 1) := by decide +kernel
theorem dX4_planLeap_58 : decode cX4_planLeap 58 = .ok (.invokevirtual 112, 3) := by decide +kernel
theorem dX4_planLeap_61 : decode cX4_planLeap 61 = .ok (.aload_n 0, 1) := by decide +kernel
theorem dX4_planLeap_62 : decode cX4_planLeap 62 = .ok (.getfield 59, 3) := by decide +kernel
theorem dX4_planLeap_65 : decode cX4_planLeap 65 = .ok (.getfield 109, 3) := by decide +kernel
theorem dX4_planLeap_68 : decode cX4_planLeap 68 = .ok (.ireturn, 1) := by decide +kernel
theorem dX4_passTurns_0 : decode cX4_passTurns 0 = .ok (.iload_n 1, 1) := by decide +kernel
theorem dX4_passTurns_1 : decode cX4_passTurns 1 = .ok (.iconst 1, 1) := by decide +kernel
theorem dX4_passTurns_2 : decode cX4_passTurns 2 = .ok (.if_icmp .lt 9, 3) := by decide +kernel
theorem dX4_passTurns_5 : decode cX4_passTurns 5 = .ok (.iload_n 1, 1) := by decide +kernel
theorem dX4_passTurns_6 : decode cX4_passTurns 6 = .ok (.bipush 99, 2) := by decide +kernel
theorem dX4_passTurns_8 : decode cX4_passTurns 8 = .ok (.if_icmp .le 6, 3) := by decide +kernel
theorem dX4_passTurns_11 : decode cX4_passTurns 11 = .ok (.bipush (-2), 2) := by decide +kernel
theorem dX4_passTurns_13 : decode cX4_passTurns 13 = .ok (.ireturn, 1) := by decide +kernel
theorem dX4_passTurns_14 : decode cX4_passTurns 14 = .ok (.aload_n 0, 1) := by decide +kernel
theorem dX4_passTurns_15 : decode cX4_passTurns 15 = .ok (.getfield 15, 3) := by decide +kernel
theorem dX4_passTurns_18 : decode cX4_passTurns 18 = .ok (.iload_n 1, 1) := by decide +kernel
theorem dX4_passTurns_19 : decode cX4_passTurns 19 = .ok (.iadd, 1) := by decide +kernel
theorem dX4_passTurns_20 : decode cX4_passTurns 20 = .ok (.sipush 9999, 3) := by decide +kernel
theorem dX4_passTurns_23 : decode cX4_passTurns 23 = .ok (.if_icmp .le 6, 3) := by decide +kernel
theorem dX4_passTurns_26 : decode cX4_passTurns 26 = .ok (.bipush (-5), 2) := by decide +kernel
theorem dX4_passTurns_28 : decode cX4_passTurns 28 = .ok (.ireturn, 1) := by decide +kernel
theorem dX4_passTurns_29 : decode cX4_passTurns 29 = .ok (.iconst 0, 1) := by decide +kernel
theorem dX4_passTurns_30 : decode cX4_passTurns 30 = .ok (.istore_n 2, 1) := by decide +kernel
theorem dX4_passTurns_31 : decode cX4_passTurns 31 = .ok (.iconst 0, 1) := by decide +kernel
theorem dX4_passTurns_32 : decode cX4_passTurns 32 = .ok (.istore_n 3, 1) := by decide +kernel
theorem dX4_passTurns_33 : decode cX4_passTurns 33 = .ok (.iload_n 3, 1) := by decide +kernel
theorem dX4_passTurns_34 : decode cX4_passTurns 34 = .ok (.iload_n 1, 1) := by decide +kernel
theorem dX4_passTurns_35 : decode cX4_passTurns 35 = .ok (.if_icmp .ge 16, 3) := by decide +kernel
theorem dX4_passTurns_38 : decode cX4_passTurns 38 = .ok (.iload_n 2, 1) := by decide +kernel
theorem dX4_passTurns_39 : decode cX4_passTurns 39 = .ok (.aload_n 0, 1) := by decide +kernel
theorem dX4_passTurns_40 : decode cX4_passTurns 40 = .ok (.invokevirtual 116, 3) := by decide +kernel
theorem dX4_passTurns_43 : decode cX4_passTurns 43 = .ok (.iadd, 1) := by decide +kernel
theorem dX4_passTurns_44 : decode cX4_passTurns 44 = .ok (.istore_n 2, 1) := by decide +kernel
theorem dX4_passTurns_45 : decode cX4_passTurns 45 = .ok (.iinc 3 1, 3) := by decide +kernel
theorem dX4_passTurns_48 : decode cX4_passTurns 48 = .ok (.goto (-15), 3) := by decide +kernel
theorem dX4_passTurns_51 : decode cX4_passTurns 51 = .ok (.iload_n 2, 1) := by decide +kernel
theorem dX4_passTurns_52 : decode cX4_passTurns 52 = .ok (.ireturn, 1) := by decide +kernel
theorem dX4_passOneTurn_0 : decode cX4_passOneTurn 0 = .ok (.aload_n 0, 1) := by decide +kernel
theorem dX4_passOneTurn_1 : decode cX4_passOneTurn 1 = .ok (.dup, 1) := by decide +kernel
theorem dX4_passOneTurn_2 : decode cX4_passOneTurn 2 = .ok (.getfield 15, 3) := by decide +kernel
theorem dX4_passOneTurn_5 : decode cX4_passOneTurn 5 = .ok (.iconst 1, 1) := by decide +kernel
theorem dX4_passOneTurn_6 : decode cX4_passOneTurn 6 = .ok (.iadd, 1) := by decide +kernel
theorem dX4_passOneTurn_7 : decode cX4_passOneTurn 7 = .ok (.putfield 15, 3) := by decide +kernel
theorem dX4_passOneTurn_10 : decode cX4_passOneTurn 10 = .ok (.aload_n 0, 1) := by decide +kernel
theorem dX4_passOneTurn_11 : decode cX4_passOneTurn 11 = .ok (.invokevirtual 120, 3) := by decide +kernel
theorem dX4_passOneTurn_14 : decode cX4_passOneTurn 14 = .ok (.iconst 0, 1) := by decide +kernel
theorem dX4_passOneTurn_15 : decode cX4_passOneTurn 15 = .ok (.istore_n 1, 1) := by decide +kernel
theorem dX4_passOneTurn_16 : decode cX4_passOneTurn 16 = .ok (.iconst 0, 1) := by decide +kernel
theorem dX4_passOneTurn_17 : decode cX4_passOneTurn 17 = .ok (.istore_n 2, 1) := by decide +kernel
theorem dX4_passOneTurn_18 : decode cX4_passOneTurn 18 = .ok (.iload_n 2, 1) := by decide +kernel
theorem dX4_passOneTurn_19 : decode cX4_passOneTurn 19 = .ok (.bipush 16, 2) := by decide +kernel
theorem dX4_passOneTurn_21 : decode cX4_passOneTurn 21 = .ok (.if_icmp .ge 84, 3) := by decide +kernel
theorem dX4_passOneTurn_24 : decode cX4_passOneTurn 24 = .ok (.aload_n 0, 1) := by decide +kernel
theorem dX4_passOneTurn_25 : decode cX4_passOneTurn 25 = .ok (.getfield 59, 3) := by decide +kernel
theorem dX4_passOneTurn_28 : decode cX4_passOneTurn 28 = .ok (.invokevirtual 123, 3) := by decide +kernel
theorem dX4_passOneTurn_31 : decode cX4_passOneTurn 31 = .ok (.aload_n 0, 1) := by decide +kernel
theorem dX4_passOneTurn_32 : decode cX4_passOneTurn 32 = .ok (.getfield 15, 3) := by decide +kernel
theorem dX4_passOneTurn_35 : decode cX4_passOneTurn 35 = .ok (.if_icmp .ne 70, 3) := by decide +kernel
theorem dX4_passOneTurn_38 : decode cX4_passOneTurn 38 = .ok (.aload_n 0, 1) := by decide +kernel
theorem dX4_passOneTurn_39 : decode cX4_passOneTurn 39 = .ok (.getfield 59, 3) := by decide +kernel
theorem dX4_passOneTurn_42 : decode cX4_passOneTurn 42 = .ok (.getfield 126, 3) := by decide +kernel
theorem dX4_passOneTurn_45 : decode cX4_passOneTurn 45 = .ok (.iconst 0, 1) := by decide +kernel
theorem dX4_passOneTurn_46 : decode cX4_passOneTurn 46 = .ok (.iaload, 1) := by decide +kernel
theorem dX4_passOneTurn_47 : decode cX4_passOneTurn 47 = .ok (.istore_n 3, 1) := by decide +kernel
theorem dX4_passOneTurn_48 : decode cX4_passOneTurn 48 = .ok (.aload_n 0, 1) := by decide +kernel
theorem dX4_passOneTurn_49 : decode cX4_passOneTurn 49 = .ok (.getfield 59, 3) := by decide +kernel
theorem dX4_passOneTurn_52 : decode cX4_passOneTurn 52 = .ok (.getfield 128, 3) := by decide +kernel
theorem dX4_passOneTurn_55 : decode cX4_passOneTurn 55 = .ok (.iconst 0, 1) := by decide +kernel
theorem dX4_passOneTurn_56 : decode cX4_passOneTurn 56 = .ok (.iaload, 1) := by decide +kernel
theorem dX4_passOneTurn_57 : decode cX4_passOneTurn 57 = .ok (.istore 4, 2) := by decide +kernel
theorem dX4_passOneTurn_59 : decode cX4_passOneTurn 59 = .ok (.aload_n 0, 1) := by decide +kernel
theorem dX4_passOneTurn_60 : decode cX4_passOneTurn 60 = .ok (.getfield 59, 3) := by decide +kernel
theorem dX4_passOneTurn_63 : decode cX4_passOneTurn 63 = .ok (.invokevirtual 131, 3) := by decide +kernel
theorem dX4_passOneTurn_66 : decode cX4_passOneTurn 66 = .ok (.aload_n 0, 1) := by decide +kernel
theorem dX4_passOneTurn_67 : decode cX4_passOneTurn 67 = .ok (.iload_n 3, 1) := by decide +kernel
theorem dX4_passOneTurn_68 : decode cX4_passOneTurn 68 = .ok (.iload 4, 2) := by decide +kernel
theorem dX4_passOneTurn_70 : decode cX4_passOneTurn 70 = .ok (.invokevirtual 92, 3) := by decide +kernel
theorem dX4_passOneTurn_73 : decode cX4_passOneTurn 73 = .ok (.ifCond .ne 16, 3) := by decide +kernel
theorem dX4_passOneTurn_76 : decode cX4_passOneTurn 76 = .ok (.aload_n 0, 1) := by decide +kernel
theorem dX4_passOneTurn_77 : decode cX4_passOneTurn 77 = .ok (.iload_n 3, 1) := by decide +kernel
theorem dX4_passOneTurn_78 : decode cX4_passOneTurn 78 = .ok (.iload 4, 2) := by decide +kernel
theorem dX4_passOneTurn_80 : decode cX4_passOneTurn 80 = .ok (.invokevirtual 96, 3) := by decide +kernel
theorem dX4_passOneTurn_83 : decode cX4_passOneTurn 83 = .ok (.iinc 1 1, 3) := by decide +kernel
theorem dX4_passOneTurn_86 : decode cX4_passOneTurn 86 = .ok (.goto 13, 3) := by decide +kernel
theorem dX4_passOneTurn_89 : decode cX4_passOneTurn 89 = .ok (.aload_n 0, 1) := by decide +kernel
theorem dX4_passOneTurn_90 : decode cX4_passOneTurn 90 = .ok (.dup, 1) := by decide +kernel
theorem dX4_passOneTurn_91 : decode cX4_passOneTurn 91 = .ok (.getfield 25, 3) := by decide +kernel
theorem dX4_passOneTurn_94 : decode cX4_passOneTurn 94 = .ok (.iconst 1, 1) := by decide +kernel
theorem dX4_passOneTurn_95 : decode cX4_passOneTurn 95 = .ok (.iadd, 1) := by decide +kernel
theorem dX4_passOneTurn_96 : decode cX4_passOneTurn 96 = .ok (.putfield 25, 3) := by decide +kernel
theorem dX4_passOneTurn_99 : decode cX4_passOneTurn 99 = .ok (.iinc 2 1, 3) := by decide +kernel
theorem dX4_passOneTurn_102 : decode cX4_passOneTurn 102 = .ok (.goto (-84), 3) := by decide +kernel
theorem dX4_passOneTurn_105 : decode cX4_passOneTurn 105 = .ok (.aload_n 0, 1) := by decide +kernel
theorem dX4_passOneTurn_106 : decode cX4_passOneTurn 106 = .ok (.invokevirtual 134, 3) := by decide +kernel
theorem dX4_passOneTurn_109 : decode cX4_passOneTurn 109 = .ok (.iload_n 1, 1) := by decide +kernel
theorem dX4_passOneTurn_110 : decode cX4_passOneTurn 110 = .ok (.ireturn, 1) := by decide +kernel
theorem dX4_wakeKittens_0 : decode cX4_wakeKittens 0 = .ok (.iconst 0, 1) := by decide +kernel
theorem dX4_wakeKittens_1 : decode cX4_wakeKittens 1 = .ok (.istore_n 1, 1) := by decide +kernel
theorem dX4_wakeKittens_2 : decode cX4_wakeKittens 2 = .ok (.iload_n 1, 1) := by decide +kernel
theorem dX4_wakeKittens_3 : decode cX4_wakeKittens 3 = .ok (.aload_n 0, 1) := by decide +kernel
theorem dX4_wakeKittens_4 : decode cX4_wakeKittens 4 = .ok (.getfield 19, 3) := by decide +kernel
theorem dX4_wakeKittens_7 : decode cX4_wakeKittens 7 = .ok (.if_icmp .ge 42, 3) := by decide +kernel
theorem dX4_wakeKittens_10 : decode cX4_wakeKittens 10 = .ok (.aload_n 0, 1) := by decide +kernel
theorem dX4_wakeKittens_11 : decode cX4_wakeKittens 11 = .ok (.getfield 34, 3) := by decide +kernel
theorem dX4_wakeKittens_14 : decode cX4_wakeKittens 14 = .ok (.iload_n 1, 1) := by decide +kernel
theorem dX4_wakeKittens_15 : decode cX4_wakeKittens 15 = .ok (.iaload, 1) := by decide +kernel
theorem dX4_wakeKittens_16 : decode cX4_wakeKittens 16 = .ok (.aload_n 0, 1) := by decide +kernel
theorem dX4_wakeKittens_17 : decode cX4_wakeKittens 17 = .ok (.getfield 15, 3) := by decide +kernel
theorem dX4_wakeKittens_20 : decode cX4_wakeKittens 20 = .ok (.if_icmp .ne 23, 3) := by decide +kernel
theorem dX4_wakeKittens_23 : decode cX4_wakeKittens 23 = .ok (.aload_n 0, 1) := by decide +kernel
theorem dX4_wakeKittens_24 : decode cX4_wakeKittens 24 = .ok (.getfield 34, 3) := by decide +kernel
theorem dX4_wakeKittens_27 : decode cX4_wakeKittens 27 = .ok (.iload_n 1, 1) := by decide +kernel
theorem dX4_wakeKittens_28 : decode cX4_wakeKittens 28 = .ok (.bipush (-6), 2) := by decide +kernel
theorem dX4_wakeKittens_30 : decode cX4_wakeKittens 30 = .ok (.iastore, 1) := by decide +kernel
theorem dX4_wakeKittens_31 : decode cX4_wakeKittens 31 = .ok (.aload_n 0, 1) := by decide +kernel
theorem dX4_wakeKittens_32 : decode cX4_wakeKittens 32 = .ok (.getfield 31, 3) := by decide +kernel
theorem dX4_wakeKittens_35 : decode cX4_wakeKittens 35 = .ok (.iload_n 1, 1) := by decide +kernel
theorem dX4_wakeKittens_36 : decode cX4_wakeKittens 36 = .ok (.aload_n 0, 1) := by decide +kernel
theorem dX4_wakeKittens_37 : decode cX4_wakeKittens 37 = .ok (.getfield 9, 3) := by decide +kernel
theorem dX4_wakeKittens_40 : decode cX4_wakeKittens 40 = .ok (.iconst 3, 1) := by decide +kernel
theorem dX4_wakeKittens_41 : decode cX4_wakeKittens 41 = .ok (.iaload, 1) := by decide +kernel
theorem dX4_wakeKittens_42 : decode cX4_wakeKittens 42 = .ok (.iastore, 1) := by decide +kernel
theorem dX4_wakeKittens_43 : decode cX4_wakeKittens 43 = .ok (.iinc 1 1, 3) := by decide +kernel
theorem dX4_wakeKittens_46 : decode cX4_wakeKittens 46 = .ok (.goto (-44), 3) := by decide +kernel
theorem dX4_wakeKittens_49 : decode cX4_wakeKittens 49 = .ok (.return_, 1) := by decide +kernel
theorem dX4_refreshKittens_0 : decode cX4_refreshKittens 0 = .ok (.iconst 0, 1) := by decide +kernel
theorem dX4_refreshKittens_1 : decode cX4_refreshKittens 1 = .ok (.istore_n 1, 1) := by decide +kernel
theorem dX4_refreshKittens_2 : decode cX4_refreshKittens 2 = .ok (.iload_n 1, 1) := by decide +kernel
theorem dX4_refreshKittens_3 : decode cX4_refreshKittens 3 = .ok (.aload_n 0, 1) := by decide +kernel
theorem dX4_refreshKittens_4 : decode cX4_refreshKittens 4 = .ok (.getfield 19, 3) := by decide +kernel
theorem dX4_refreshKittens_7 : decode cX4_refreshKittens 7 = .ok (.if_icmp .ge 42, 3) := by decide +kernel
theorem dX4_refreshKittens_10 : decode cX4_refreshKittens 10 = .ok (.aload_n 0, 1) := by decide +kernel
theorem dX4_refreshKittens_11 : decode cX4_refreshKittens 11 = .ok (.iload_n 1, 1) := by decide +kernel
theorem dX4_refreshKittens_12 : decode cX4_refreshKittens 12 = .ok (.invokevirtual 100, 3) := by decide +kernel
theorem dX4_refreshKittens_15 : decode cX4_refreshKittens 15 = .ok (.ifCond .ne 28, 3) := by decide +kernel
theorem dX4_refreshKittens_18 : decode cX4_refreshKittens 18 = .ok (.aload_n 0, 1) := by decide +kernel
theorem dX4_refreshKittens_19 : decode cX4_refreshKittens 19 = .ok (.getfield 31, 3) := by decide +kernel
theorem dX4_refreshKittens_22 : decode cX4_refreshKittens 22 = .ok (.iload_n 1, 1) := by decide +kernel
theorem dX4_refreshKittens_23 : decode cX4_refreshKittens 23 = .ok (.iaload, 1) := by decide +kernel
theorem dX4_refreshKittens_24 : decode cX4_refreshKittens 24 = .ok (.aload_n 0, 1) := by decide +kernel
theorem dX4_refreshKittens_25 : decode cX4_refreshKittens 25 = .ok (.getfield 9, 3) := by decide +kernel
theorem dX4_refreshKittens_28 : decode cX4_refreshKittens 28 = .ok (.iconst 3, 1) := by decide +kernel
theorem dX4_refreshKittens_29 : decode cX4_refreshKittens 29 = .ok (.iaload, 1) := by decide +kernel
theorem dX4_refreshKittens_30 : decode cX4_refreshKittens 30 = .ok (.if_icmp .ge 13, 3) := by decide +kernel
theorem dX4_refreshKittens_33 : decode cX4_refreshKittens 33 = .ok (.aload_n 0, 1) := by decide +kernel
theorem dX4_refreshKittens_34 : decode cX4_refreshKittens 34 = .ok (.getfield 31, 3) := by decide +kernel
theorem dX4_refreshKittens_37 : decode cX4_refreshKittens 37 = .ok (.iload_n 1, 1) := by decide +kernel
theorem dX4_refreshKittens_38 : decode cX4_refreshKittens 38 = .ok (.dup2, 1) := by decide +kernel
theorem dX4_refreshKittens_39 : decode cX4_refreshKittens 39 = .ok (.iaload, 1) := by decide +kernel
theorem dX4_refreshKittens_40 : decode cX4_refreshKittens 40 = .ok (.iconst 1, 1) := by decide +kernel
theorem dX4_refreshKittens_41 : decode cX4_refreshKittens 41 = .ok (.iadd, 1) := by decide +kernel
theorem dX4_refreshKittens_42 : decode cX4_refreshKittens 42 = .ok (.iastore, 1) := by decide +kernel
theorem dX4_refreshKittens_43 : decode cX4_refreshKittens 43 = .ok (.iinc 1 1, 3) := by decide +kernel
theorem dX4_refreshKittens_46 : decode cX4_refreshKittens 46 = .ok (.goto (-44), 3) := by decide +kernel
theorem dX4_refreshKittens_49 : decode cX4_refreshKittens 49 = .ok (.return_, 1) := by decide +kernel
theorem dX4_naps_0 : decode cX4_naps 0 = .ok (.aload_n 0, 1) := by decide +kernel
theorem dX4_naps_1 : decode cX4_naps 1 = .ok (.getfield 34, 3) := by decide +kernel
theorem dX4_naps_4 : decode cX4_naps 4 = .ok (.iload_n 1, 1) := by decide +kernel
theorem dX4_naps_5 : decode cX4_naps 5 = .ok (.iaload, 1) := by decide +kernel
theorem dX4_naps_6 : decode cX4_naps 6 = .ok (.bipush (-6), 2) := by decide +kernel
theorem dX4_naps_8 : decode cX4_naps 8 = .ok (.if_icmp .eq 7, 3) := by decide +kernel
theorem dX4_naps_11 : decode cX4_naps 11 = .ok (.iconst 1, 1) := by decide +kernel
theorem dX4_naps_12 : decode cX4_naps 12 = .ok (.goto 4, 3) := by decide +kernel
theorem dX4_naps_15 : decode cX4_naps 15 = .ok (.iconst 0, 1) := by decide +kernel
theorem dX4_naps_16 : decode cX4_naps 16 = .ok (.ireturn, 1) := by decide +kernel
theorem dX4_refusal_0 : decode cX4_refusal 0 = .ok (.aload_n 0, 1) := by decide +kernel
theorem dX4_refusal_1 : decode cX4_refusal 1 = .ok (.getfield 28, 3) := by decide +kernel
theorem dX4_refusal_4 : decode cX4_refusal 4 = .ok (.iload_n 1, 1) := by decide +kernel
theorem dX4_refusal_5 : decode cX4_refusal 5 = .ok (.iaload, 1) := by decide +kernel
theorem dX4_refusal_6 : decode cX4_refusal 6 = .ok (.iload_n 2, 1) := by decide +kernel
theorem dX4_refusal_7 : decode cX4_refusal 7 = .ok (.iadd, 1) := by decide +kernel
theorem dX4_refusal_8 : decode cX4_refusal 8 = .ok (.istore_n 3, 1) := by decide +kernel
theorem dX4_refusal_9 : decode cX4_refusal 9 = .ok (.aload_n 0, 1) := by decide +kernel
theorem dX4_refusal_10 : decode cX4_refusal 10 = .ok (.iload_n 1, 1) := by decide +kernel
theorem dX4_refusal_11 : decode cX4_refusal 11 = .ok (.invokevirtual 100, 3) := by decide +kernel
theorem dX4_refusal_14 : decode cX4_refusal 14 = .ok (.ifCond .eq 5, 3) := by decide +kernel
theorem dX4_refusal_17 : decode cX4_refusal 17 = .ok (.iconst 1, 1) := by decide +kernel
theorem dX4_refusal_18 : decode cX4_refusal 18 = .ok (.ireturn, 1) := by decide +kernel
theorem dX4_refusal_19 : decode cX4_refusal 19 = .ok (.iload_n 3, 1) := by decide +kernel
theorem dX4_refusal_20 : decode cX4_refusal 20 = .ok (.ifCond .lt 9, 3) := by decide +kernel
theorem dX4_refusal_23 : decode cX4_refusal 23 = .ok (.iload_n 3, 1) := by decide +kernel
theorem dX4_refusal_24 : decode cX4_refusal 24 = .ok (.bipush 16, 2) := by decide +kernel
theorem dX4_refusal_26 : decode cX4_refusal 26 = .ok (.if_icmp .lt 5, 3) := by decide +kernel
theorem dX4_refusal_29 : decode cX4_refusal 29 = .ok (.iconst 2, 1) := by decide +kernel
theorem dX4_refusal_30 : decode cX4_refusal 30 = .ok (.ireturn, 1) := by decide +kernel
theorem dX4_refusal_31 : decode cX4_refusal 31 = .ok (.iload_n 2, 1) := by decide +kernel
theorem dX4_refusal_32 : decode cX4_refusal 32 = .ok (.aload_n 0, 1) := by decide +kernel
theorem dX4_refusal_33 : decode cX4_refusal 33 = .ok (.getfield 9, 3) := by decide +kernel
theorem dX4_refusal_36 : decode cX4_refusal 36 = .ok (.iconst 0, 1) := by decide +kernel
theorem dX4_refusal_37 : decode cX4_refusal 37 = .ok (.iaload, 1) := by decide +kernel
theorem dX4_refusal_38 : decode cX4_refusal 38 = .ok (.if_icmp .gt 16, 3) := by decide +kernel
theorem dX4_refusal_41 : decode cX4_refusal 41 = .ok (.iload_n 2, 1) := by decide +kernel
theorem dX4_refusal_42 : decode cX4_refusal 42 = .ok (.ineg, 1) := by decide +kernel
theorem dX4_refusal_43 : decode cX4_refusal 43 = .ok (.iconst 2, 1) := by decide +kernel
theorem dX4_refusal_44 : decode cX4_refusal 44 = .ok (.aload_n 0, 1) := by decide +kernel
theorem dX4_refusal_45 : decode cX4_refusal 45 = .ok (.getfield 9, 3) := by decide +kernel
theorem dX4_refusal_48 : decode cX4_refusal 48 = .ok (.iconst 0, 1) := by decide +kernel
theorem dX4_refusal_49 : decode cX4_refusal 49 = .ok (.iaload, 1) := by decide +kernel
theorem dX4_refusal_50 : decode cX4_refusal 50 = .ok (.imul, 1) := by decide +kernel
theorem dX4_refusal_51 : decode cX4_refusal 51 = .ok (.if_icmp .le 5, 3) := by decide +kernel
theorem dX4_refusal_54 : decode cX4_refusal 54 = .ok (.iconst 3, 1) := by decide +kernel
theorem dX4_refusal_55 : decode cX4_refusal 55 = .ok (.ireturn, 1) := by decide +kernel
theorem dX4_refusal_56 : decode cX4_refusal 56 = .ok (.aload_n 0, 1) := by decide +kernel
theorem dX4_refusal_57 : decode cX4_refusal 57 = .ok (.getfield 31, 3) := by decide +kernel
theorem dX4_refusal_60 : decode cX4_refusal 60 = .ok (.iload_n 1, 1) := by decide +kernel
theorem dX4_refusal_61 : decode cX4_refusal 61 = .ok (.iaload, 1) := by decide +kernel
theorem dX4_refusal_62 : decode cX4_refusal 62 = .ok (.iload_n 2, 1) := by decide +kernel
theorem dX4_refusal_63 : decode cX4_refusal 63 = .ok (.invokestatic 137, 3) := by decide +kernel
theorem dX4_refusal_66 : decode cX4_refusal 66 = .ok (.if_icmp .ge 5, 3) := by decide +kernel
theorem dX4_refusal_69 : decode cX4_refusal 69 = .ok (.iconst 4, 1) := by decide +kernel
theorem dX4_refusal_70 : decode cX4_refusal 70 = .ok (.ireturn, 1) := by decide +kernel
theorem dX4_refusal_71 : decode cX4_refusal 71 = .ok (.aload_n 0, 1) := by decide +kernel
theorem dX4_refusal_72 : decode cX4_refusal 72 = .ok (.iload_n 1, 1) := by decide +kernel
theorem dX4_refusal_73 : decode cX4_refusal 73 = .ok (.iload_n 3, 1) := by decide +kernel
theorem dX4_refusal_74 : decode cX4_refusal 74 = .ok (.invokevirtual 141, 3) := by decide +kernel
theorem dX4_refusal_77 : decode cX4_refusal 77 = .ok (.ifCond .eq 5, 3) := by decide +kernel
theorem dX4_refusal_80 : decode cX4_refusal 80 = .ok (.iconst 5, 1) := by decide +kernel
theorem dX4_refusal_81 : decode cX4_refusal 81 = .ok (.ireturn, 1) := by decide +kernel
theorem dX4_refusal_82 : decode cX4_refusal 82 = .ok (.aload_n 0, 1) := by decide +kernel
theorem dX4_refusal_83 : decode cX4_refusal 83 = .ok (.iload_n 1, 1) := by decide +kernel
theorem dX4_refusal_84 : decode cX4_refusal 84 = .ok (.iload_n 2, 1) := by decide +kernel
theorem dX4_refusal_85 : decode cX4_refusal 85 = .ok (.invokevirtual 145, 3) := by decide +kernel
theorem dX4_refusal_88 : decode cX4_refusal 88 = .ok (.ifCond .eq 7, 3) := by decide +kernel
theorem dX4_refusal_91 : decode cX4_refusal 91 = .ok (.iconst 0, 1) := by decide +kernel
theorem dX4_refusal_92 : decode cX4_refusal 92 = .ok (.goto 5, 3) := by decide +kernel
theorem dX4_refusal_95 : decode cX4_refusal 95 = .ok (.bipush 6, 2) := by decide +kernel
theorem dX4_refusal_97 : decode cX4_refusal 97 = .ok (.ireturn, 1) := by decide +kernel
theorem dX4_cost_0 : decode cX4_cost 0 = .ok (.iload_n 0, 1) := by decide +kernel
theorem dX4_cost_1 : decode cX4_cost 1 = .ok (.ifCond .le 9, 3) := by decide +kernel
theorem dX4_cost_4 : decode cX4_cost 4 = .ok (.iconst 2, 1) := by decide +kernel
theorem dX4_cost_5 : decode cX4_cost 5 = .ok (.iload_n 0, 1) := by decide +kernel
theorem dX4_cost_6 : decode cX4_cost 6 = .ok (.imul, 1) := by decide +kernel
theorem dX4_cost_7 : decode cX4_cost 7 = .ok (.goto 5, 3) := by decide +kernel
theorem dX4_cost_10 : decode cX4_cost 10 = .ok (.iload_n 0, 1) := by decide +kernel
theorem dX4_cost_11 : decode cX4_cost 11 = .ok (.ineg, 1) := by decide +kernel
theorem dX4_cost_12 : decode cX4_cost 12 = .ok (.ireturn, 1) := by decide +kernel
theorem dX4_isHeldBack_0 : decode cX4_isHeldBack 0 = .ok (.iconst 0, 1) := by decide +kernel
theorem dX4_isHeldBack_1 : decode cX4_isHeldBack 1 = .ok (.istore_n 3, 1) := by decide +kernel
theorem dX4_isHeldBack_2 : decode cX4_isHeldBack 2 = .ok (.iload_n 3, 1) := by decide +kernel
theorem dX4_isHeldBack_3 : decode cX4_isHeldBack 3 = .ok (.aload_n 0, 1) := by decide +kernel
theorem dX4_isHeldBack_4 : decode cX4_isHeldBack 4 = .ok (.getfield 19, 3) := by decide +kernel
theorem dX4_isHeldBack_7 : decode cX4_isHeldBack 7 = .ok (.if_icmp .ge 88, 3) := by decide +kernel
theorem dX4_isHeldBack_10 : decode cX4_isHeldBack 10 = .ok (.iload_n 3, 1) := by decide +kernel
theorem dX4_isHeldBack_11 : decode cX4_isHeldBack 11 = .ok (.iload_n 1, 1) := by decide +kernel
theorem dX4_isHeldBack_12 : decode cX4_isHeldBack 12 = .ok (.if_icmp .ne 6, 3) := by decide +kernel
theorem dX4_isHeldBack_15 : decode cX4_isHeldBack 15 = .ok (.goto 74, 3) := by decide +kernel
theorem dX4_isHeldBack_18 : decode cX4_isHeldBack 18 = .ok (.iload_n 2, 1) := by decide +kernel
theorem dX4_isHeldBack_19 : decode cX4_isHeldBack 19 = .ok (.aload_n 0, 1) := by decide +kernel
theorem dX4_isHeldBack_20 : decode cX4_isHeldBack 20 = .ok (.getfield 28, 3) := by decide +kernel
theorem dX4_isHeldBack_23 : decode cX4_isHeldBack 23 = .ok (.iload_n 3, 1) := by decide +kernel
theorem dX4_isHeldBack_24 : decode cX4_isHeldBack 24 = .ok (.iaload, 1) := by decide +kernel
theorem dX4_isHeldBack_25 : decode cX4_isHeldBack 25 = .ok (.isub, 1) := by decide +kernel
theorem dX4_isHeldBack_26 : decode cX4_isHeldBack 26 = .ok (.invokestatic 148, 3) := by decide +kernel
theorem dX4_isHeldBack_29 : decode cX4_isHeldBack 29 = .ok (.istore 4, 2) := by decide +kernel
theorem dX4_isHeldBack_31 : decode cX4_isHeldBack 31 = .ok (.iload 4, 2) := by decide +kernel
theorem dX4_isHeldBack_33 : decode cX4_isHeldBack 33 = .ok (.aload_n 0, 1) := by decide +kernel
theorem dX4_isHeldBack_34 : decode cX4_isHeldBack 34 = .ok (.getfield 9, 3) := by decide +kernel
theorem dX4_isHeldBack_37 : decode cX4_isHeldBack 37 = .ok (.iconst 1, 1) := by decide +kernel
theorem dX4_isHeldBack_38 : decode cX4_isHeldBack 38 = .ok (.iaload, 1) := by decide +kernel
theorem dX4_isHeldBack_39 : decode cX4_isHeldBack 39 = .ok (.if_icmp .le 28, 3) := by decide +kernel
theorem dX4_isHeldBack_42 : decode cX4_isHeldBack 42 = .ok (.iload 4, 2) := by decide +kernel
theorem dX4_isHeldBack_44 : decode cX4_isHeldBack 44 = .ok (.aload_n 0, 1) := by decide +kernel
theorem dX4_isHeldBack_45 : decode cX4_isHeldBack 45 = .ok (.getfield 28, 3) := by decide +kernel
theorem dX4_isHeldBack_48 : decode cX4_isHeldBack 48 = .ok (.iload_n 1, 1) := by decide +kernel
theorem dX4_isHeldBack_49 : decode cX4_isHeldBack 49 = .ok (.iaload, 1) := by decide +kernel
theorem dX4_isHeldBack_50 : decode cX4_isHeldBack 50 = .ok (.aload_n 0, 1) := by decide +kernel
theorem dX4_isHeldBack_51 : decode cX4_isHeldBack 51 = .ok (.getfield 28, 3) := by decide +kernel
theorem dX4_isHeldBack_54 : decode cX4_isHeldBack 54 = .ok (.iload_n 3, 1) := by decide +kernel
theorem dX4_isHeldBack_55 : decode cX4_isHeldBack 55 = .ok (.iaload, 1) := by decide +kernel
theorem dX4_isHeldBack_56 : decode cX4_isHeldBack 56 = .ok (.isub, 1) := by decide +kernel
theorem dX4_isHeldBack_57 : decode cX4_isHeldBack 57 = .ok (.invokestatic 148, 3) := by decide +kernel
theorem dX4_isHeldBack_60 : decode cX4_isHeldBack 60 = .ok (.if_icmp .le 7, 3) := by decide +kernel
theorem dX4_isHeldBack_63 : decode cX4_isHeldBack 63 = .ok (.iconst 1, 1) := by decide +kernel
theorem dX4_isHeldBack_64 : decode cX4_isHeldBack 64 = .ok (.goto 4, 3) := by decide +kernel
theorem dX4_isHeldBack_67 : decode cX4_isHeldBack 67 = .ok (.iconst 0, 1) := by decide +kernel
theorem dX4_isHeldBack_68 : decode cX4_isHeldBack 68 = .ok (.istore 5, 2) := by decide +kernel
theorem dX4_isHeldBack_70 : decode cX4_isHeldBack 70 = .ok (.iload 5, 2) := by decide +kernel
theorem dX4_isHeldBack_72 : decode cX4_isHeldBack 72 = .ok (.ifCond .eq 17, 3) := by decide +kernel
theorem dX4_isHeldBack_75 : decode cX4_isHeldBack 75 = .ok (.aload_n 0, 1) := by decide +kernel
theorem dX4_isHeldBack_76 : decode cX4_isHeldBack 76 = .ok (.getfield 52, 3) := by decide +kernel
theorem dX4_isHeldBack_79 : decode cX4_isHeldBack 79 = .ok (.iload_n 1, 1) := by decide +kernel
theorem dX4_isHeldBack_80 : decode cX4_isHeldBack 80 = .ok (.iload_n 3, 1) := by decide +kernel
theorem dX4_isHeldBack_81 : decode cX4_isHeldBack 81 = .ok (.invokevirtual 153, 3) := by decide +kernel
theorem dX4_isHeldBack_84 : decode cX4_isHeldBack 84 = .ok (.ifCond .eq 5, 3) := by decide +kernel
theorem dX4_isHeldBack_87 : decode cX4_isHeldBack 87 = .ok (.iconst 1, 1) := by decide +kernel
theorem dX4_isHeldBack_88 : decode cX4_isHeldBack 88 = .ok (.ireturn, 1) := by decide +kernel
theorem dX4_isHeldBack_89 : decode cX4_isHeldBack 89 = .ok (.iinc 3 1, 3) := by decide +kernel
theorem dX4_isHeldBack_92 : decode cX4_isHeldBack 92 = .ok (.goto (-90), 3) := by decide +kernel
theorem dX4_isHeldBack_95 : decode cX4_isHeldBack 95 = .ok (.iconst 0, 1) := by decide +kernel
theorem dX4_isHeldBack_96 : decode cX4_isHeldBack 96 = .ok (.ireturn, 1) := by decide +kernel
theorem dX4_ballLasts_0 : decode cX4_ballLasts 0 = .ok (.aload_n 0, 1) := by decide +kernel
theorem dX4_ballLasts_1 : decode cX4_ballLasts 1 = .ok (.getfield 37, 3) := by decide +kernel
theorem dX4_ballLasts_4 : decode cX4_ballLasts 4 = .ok (.iload_n 1, 1) := by decide +kernel
theorem dX4_ballLasts_5 : decode cX4_ballLasts 5 = .ok (.iaload, 1) := by decide +kernel
theorem dX4_ballLasts_6 : decode cX4_ballLasts 6 = .ok (.istore_n 3, 1) := by decide +kernel
theorem dX4_ballLasts_7 : decode cX4_ballLasts 7 = .ok (.iload_n 2, 1) := by decide +kernel
theorem dX4_ballLasts_8 : decode cX4_ballLasts 8 = .ok (.invokestatic 148, 3) := by decide +kernel
theorem dX4_ballLasts_11 : decode cX4_ballLasts 11 = .ok (.istore 4, 2) := by decide +kernel
theorem dX4_ballLasts_13 : decode cX4_ballLasts 13 = .ok (.iconst 0, 1) := by decide +kernel
theorem dX4_ballLasts_14 : decode cX4_ballLasts 14 = .ok (.istore 5, 2) := by decide +kernel
theorem dX4_ballLasts_16 : decode cX4_ballLasts 16 = .ok (.iload 5, 2) := by decide +kernel
theorem dX4_ballLasts_18 : decode cX4_ballLasts 18 = .ok (.iload 4, 2) := by decide +kernel
theorem dX4_ballLasts_20 : decode cX4_ballLasts 20 = .ok (.if_icmp .ge 50, 3) := by decide +kernel
theorem dX4_ballLasts_23 : decode cX4_ballLasts 23 = .ok (.aload_n 0, 1) := by decide +kernel
theorem dX4_ballLasts_24 : decode cX4_ballLasts 24 = .ok (.getfield 28, 3) := by decide +kernel
theorem dX4_ballLasts_27 : decode cX4_ballLasts 27 = .ok (.iload_n 1, 1) := by decide +kernel
theorem dX4_ballLasts_28 : decode cX4_ballLasts 28 = .ok (.iaload, 1) := by decide +kernel
theorem dX4_ballLasts_29 : decode cX4_ballLasts 29 = .ok (.iload_n 2, 1) := by decide +kernel
theorem dX4_ballLasts_30 : decode cX4_ballLasts 30 = .ok (.iload 5, 2) := by decide +kernel
theorem dX4_ballLasts_32 : decode cX4_ballLasts 32 = .ok (.invokestatic 156, 3) := by decide +kernel
theorem dX4_ballLasts_35 : decode cX4_ballLasts 35 = .ok (.istore 6, 2) := by decide +kernel
theorem dX4_ballLasts_37 : decode cX4_ballLasts 37 = .ok (.iload_n 3, 1) := by decide +kernel
theorem dX4_ballLasts_38 : decode cX4_ballLasts 38 = .ok (.aload_n 0, 1) := by decide +kernel
theorem dX4_ballLasts_39 : decode cX4_ballLasts 39 = .ok (.getfield 52, 3) := by decide +kernel
theorem dX4_ballLasts_42 : decode cX4_ballLasts 42 = .ok (.iload 6, 2) := by decide +kernel
theorem dX4_ballLasts_44 : decode cX4_ballLasts 44 = .ok (.invokevirtual 160, 3) := by decide +kernel
theorem dX4_ballLasts_47 : decode cX4_ballLasts 47 = .ok (.iload_n 1, 1) := by decide +kernel
theorem dX4_ballLasts_48 : decode cX4_ballLasts 48 = .ok (.if_icmp .ne 7, 3) := by decide +kernel
theorem dX4_ballLasts_51 : decode cX4_ballLasts 51 = .ok (.iconst 1, 1) := by decide +kernel
theorem dX4_ballLasts_52 : decode cX4_ballLasts 52 = .ok (.goto 4, 3) := by decide +kernel
theorem dX4_ballLasts_55 : decode cX4_ballLasts 55 = .ok (.iconst (-1), 1) := by decide +kernel
theorem dX4_ballLasts_56 : decode cX4_ballLasts 56 = .ok (.iadd, 1) := by decide +kernel
theorem dX4_ballLasts_57 : decode cX4_ballLasts 57 = .ok (.istore_n 3, 1) := by decide +kernel
theorem dX4_ballLasts_58 : decode cX4_ballLasts 58 = .ok (.iload_n 3, 1) := by decide +kernel
theorem dX4_ballLasts_59 : decode cX4_ballLasts 59 = .ok (.ifCond .ge 5, 3) := by decide +kernel
theorem dX4_ballLasts_62 : decode cX4_ballLasts 62 = .ok (.iconst 0, 1) := by decide +kernel
theorem dX4_ballLasts_63 : decode cX4_ballLasts 63 = .ok (.ireturn, 1) := by decide +kernel
theorem dX4_ballLasts_64 : decode cX4_ballLasts 64 = .ok (.iinc 5 1, 3) := by decide +kernel
theorem dX4_ballLasts_67 : decode cX4_ballLasts 67 = .ok (.goto (-51), 3) := by decide +kernel
theorem dX4_ballLasts_70 : decode cX4_ballLasts 70 = .ok (.iconst 1, 1) := by decide +kernel
theorem dX4_ballLasts_71 : decode cX4_ballLasts 71 = .ok (.ireturn, 1) := by decide +kernel
theorem dX4_makeLeap_0 : decode cX4_makeLeap 0 = .ok (.iload_n 2, 1) := by decide +kernel
theorem dX4_makeLeap_1 : decode cX4_makeLeap 1 = .ok (.invokestatic 148, 3) := by decide +kernel
theorem dX4_makeLeap_4 : decode cX4_makeLeap 4 = .ok (.istore_n 3, 1) := by decide +kernel
theorem dX4_makeLeap_5 : decode cX4_makeLeap 5 = .ok (.iconst 0, 1) := by decide +kernel
theorem dX4_makeLeap_6 : decode cX4_makeLeap 6 = .ok (.istore 4, 2) := by decide +kernel
theorem dX4_makeLeap_8 : decode cX4_makeLeap 8 = .ok (.iload 4, 2) := by decide +kernel
theorem dX4_makeLeap_10 : decode cX4_makeLeap 10 = .ok (.iload_n 3, 1) := by decide +kernel
theorem dX4_makeLeap_11 : decode cX4_makeLeap 11 = .ok (.if_icmp .ge 26, 3) := by decide +kernel
theorem dX4_makeLeap_14 : decode cX4_makeLeap 14 = .ok (.aload_n 0, 1) := by decide +kernel
theorem dX4_makeLeap_15 : decode cX4_makeLeap 15 = .ok (.aload_n 0, 1) := by decide +kernel
theorem dX4_makeLeap_16 : decode cX4_makeLeap 16 = .ok (.getfield 28, 3) := by decide +kernel
theorem dX4_makeLeap_19 : decode cX4_makeLeap 19 = .ok (.iload_n 1, 1) := by decide +kernel
theorem dX4_makeLeap_20 : decode cX4_makeLeap 20 = .ok (.iaload, 1) := by decide +kernel
theorem dX4_makeLeap_21 : decode cX4_makeLeap 21 = .ok (.iload_n 2, 1) := by decide +kernel
theorem dX4_makeLeap_22 : decode cX4_makeLeap 22 = .ok (.iload 4, 2) := by decide +kernel
theorem dX4_makeLeap_24 : decode cX4_makeLeap 24 = .ok (.invokestatic 156, 3) := by decide +kernel
theorem dX4_makeLeap_27 : decode cX4_makeLeap 27 = .ok (.iload_n 1, 1) := by decide +kernel
theorem dX4_makeLeap_28 : decode cX4_makeLeap 28 = .ok (.invokevirtual 163, 3) := by decide +kernel
theorem dX4_makeLeap_31 : decode cX4_makeLeap 31 = .ok (.iinc 4 1, 3) := by decide +kernel
theorem dX4_makeLeap_34 : decode cX4_makeLeap 34 = .ok (.goto (-26), 3) := by decide +kernel
theorem dX4_makeLeap_37 : decode cX4_makeLeap 37 = .ok (.aload_n 0, 1) := by decide +kernel
theorem dX4_makeLeap_38 : decode cX4_makeLeap 38 = .ok (.getfield 28, 3) := by decide +kernel
theorem dX4_makeLeap_41 : decode cX4_makeLeap 41 = .ok (.iload_n 1, 1) := by decide +kernel
theorem dX4_makeLeap_42 : decode cX4_makeLeap 42 = .ok (.dup2, 1) := by decide +kernel
theorem dX4_makeLeap_43 : decode cX4_makeLeap 43 = .ok (.iaload, 1) := by decide +kernel
theorem dX4_makeLeap_44 : decode cX4_makeLeap 44 = .ok (.iload_n 2, 1) := by decide +kernel
theorem dX4_makeLeap_45 : decode cX4_makeLeap 45 = .ok (.iadd, 1) := by decide +kernel
theorem dX4_makeLeap_46 : decode cX4_makeLeap 46 = .ok (.iastore, 1) := by decide +kernel
theorem dX4_makeLeap_47 : decode cX4_makeLeap 47 = .ok (.aload_n 0, 1) := by decide +kernel
theorem dX4_makeLeap_48 : decode cX4_makeLeap 48 = .ok (.getfield 31, 3) := by decide +kernel
theorem dX4_makeLeap_51 : decode cX4_makeLeap 51 = .ok (.iload_n 1, 1) := by decide +kernel
theorem dX4_makeLeap_52 : decode cX4_makeLeap 52 = .ok (.dup2, 1) := by decide +kernel
theorem dX4_makeLeap_53 : decode cX4_makeLeap 53 = .ok (.iaload, 1) := by decide +kernel
theorem dX4_makeLeap_54 : decode cX4_makeLeap 54 = .ok (.iload_n 2, 1) := by decide +kernel
theorem dX4_makeLeap_55 : decode cX4_makeLeap 55 = .ok (.invokestatic 137, 3) := by decide +kernel
theorem dX4_makeLeap_58 : decode cX4_makeLeap 58 = .ok (.isub, 1) := by decide +kernel
theorem dX4_makeLeap_59 : decode cX4_makeLeap 59 = .ok (.iastore, 1) := by decide +kernel
theorem dX4_makeLeap_60 : decode cX4_makeLeap 60 = .ok (.aload_n 0, 1) := by decide +kernel
theorem dX4_makeLeap_61 : decode cX4_makeLeap 61 = .ok (.dup, 1) := by decide +kernel
theorem dX4_makeLeap_62 : decode cX4_makeLeap 62 = .ok (.getfield 22, 3) := by decide +kernel
theorem dX4_makeLeap_65 : decode cX4_makeLeap 65 = .ok (.iconst 1, 1) := by decide +kernel
theorem dX4_makeLeap_66 : decode cX4_makeLeap 66 = .ok (.iadd, 1) := by decide +kernel
theorem dX4_makeLeap_67 : decode cX4_makeLeap 67 = .ok (.putfield 22, 3) := by decide +kernel
theorem dX4_makeLeap_70 : decode cX4_makeLeap 70 = .ok (.return_, 1) := by decide +kernel
theorem dX4_edgeOnWay_0 : decode cX4_edgeOnWay 0 = .ok (.iload_n 1, 1) := by decide +kernel
theorem dX4_edgeOnWay_1 : decode cX4_edgeOnWay 1 = .ok (.ifCond .le 9, 3) := by decide +kernel
theorem dX4_edgeOnWay_4 : decode cX4_edgeOnWay 4 = .ok (.iload_n 0, 1) := by decide +kernel
theorem dX4_edgeOnWay_5 : decode cX4_edgeOnWay 5 = .ok (.iload_n 2, 1) := by decide +kernel
theorem dX4_edgeOnWay_6 : decode cX4_edgeOnWay 6 = .ok (.iadd, 1) := by decide +kernel
theorem dX4_edgeOnWay_7 : decode cX4_edgeOnWay 7 = .ok (.goto 8, 3) := by decide +kernel
theorem dX4_edgeOnWay_10 : decode cX4_edgeOnWay 10 = .ok (.iload_n 0, 1) := by decide +kernel
theorem dX4_edgeOnWay_11 : decode cX4_edgeOnWay 11 = .ok (.iconst 1, 1) := by decide +kernel
theorem dX4_edgeOnWay_12 : decode cX4_edgeOnWay 12 = .ok (.isub, 1) := by decide +kernel
theorem dX4_edgeOnWay_13 : decode cX4_edgeOnWay 13 = .ok (.iload_n 2, 1) := by decide +kernel
theorem dX4_edgeOnWay_14 : decode cX4_edgeOnWay 14 = .ok (.isub, 1) := by decide +kernel
theorem dX4_edgeOnWay_15 : decode cX4_edgeOnWay 15 = .ok (.ireturn, 1) := by decide +kernel
theorem dX4_comeOver_0 : decode cX4_comeOver 0 = .ok (.aload_n 0, 1) := by decide +kernel
theorem dX4_comeOver_1 : decode cX4_comeOver 1 = .ok (.getfield 52, 3) := by decide +kernel
theorem dX4_comeOver_4 : decode cX4_comeOver 4 = .ok (.iload_n 1, 1) := by decide +kernel
theorem dX4_comeOver_5 : decode cX4_comeOver 5 = .ok (.invokevirtual 160, 3) := by decide +kernel
theorem dX4_comeOver_8 : decode cX4_comeOver 8 = .ok (.iload_n 2, 1) := by decide +kernel
theorem dX4_comeOver_9 : decode cX4_comeOver 9 = .ok (.if_icmp .ne 34, 3) := by decide +kernel
theorem dX4_comeOver_12 : decode cX4_comeOver 12 = .ok (.aload_n 0, 1) := by decide +kernel
theorem dX4_comeOver_13 : decode cX4_comeOver 13 = .ok (.getfield 52, 3) := by decide +kernel
theorem dX4_comeOver_16 : decode cX4_comeOver 16 = .ok (.iload_n 1, 1) := by decide +kernel
theorem dX4_comeOver_17 : decode cX4_comeOver 17 = .ok (.invokevirtual 166, 3) := by decide +kernel
theorem dX4_comeOver_20 : decode cX4_comeOver 20 = .ok (.aload_n 0, 1) := by decide +kernel
theorem dX4_comeOver_21 : decode cX4_comeOver 21 = .ok (.getfield 43, 3) := by decide +kernel
theorem dX4_comeOver_24 : decode cX4_comeOver 24 = .ok (.iload_n 2, 1) := by decide +kernel
theorem dX4_comeOver_25 : decode cX4_comeOver 25 = .ok (.dup2, 1) := by decide +kernel
theorem dX4_comeOver_26 : decode cX4_comeOver 26 = .ok (.iaload, 1) := by decide +kernel
theorem dX4_comeOver_27 : decode cX4_comeOver 27 = .ok (.iconst 1, 1) := by decide +kernel
theorem dX4_comeOver_28 : decode cX4_comeOver 28 = .ok (.iadd, 1) := by decide +kernel
theorem dX4_comeOver_29 : decode cX4_comeOver 29 = .ok (.iastore, 1) := by decide +kernel
theorem dX4_comeOver_30 : decode cX4_comeOver 30 = .ok (.aload_n 0, 1) := by decide +kernel
theorem dX4_comeOver_31 : decode cX4_comeOver 31 = .ok (.getfield 37, 3) := by decide +kernel
theorem dX4_comeOver_34 : decode cX4_comeOver 34 = .ok (.iload_n 2, 1) := by decide +kernel
theorem dX4_comeOver_35 : decode cX4_comeOver 35 = .ok (.dup2, 1) := by decide +kernel
theorem dX4_comeOver_36 : decode cX4_comeOver 36 = .ok (.iaload, 1) := by decide +kernel
theorem dX4_comeOver_37 : decode cX4_comeOver 37 = .ok (.iconst 1, 1) := by decide +kernel
theorem dX4_comeOver_38 : decode cX4_comeOver 38 = .ok (.iadd, 1) := by decide +kernel
theorem dX4_comeOver_39 : decode cX4_comeOver 39 = .ok (.iastore, 1) := by decide +kernel
theorem dX4_comeOver_40 : decode cX4_comeOver 40 = .ok (.goto 32, 3) := by decide +kernel
theorem dX4_comeOver_43 : decode cX4_comeOver 43 = .ok (.aload_n 0, 1) := by decide +kernel
theorem dX4_comeOver_44 : decode cX4_comeOver 44 = .ok (.getfield 52, 3) := by decide +kernel
theorem dX4_comeOver_47 : decode cX4_comeOver 47 = .ok (.iload_n 1, 1) := by decide +kernel
theorem dX4_comeOver_48 : decode cX4_comeOver 48 = .ok (.iload_n 2, 1) := by decide +kernel
theorem dX4_comeOver_49 : decode cX4_comeOver 49 = .ok (.invokevirtual 170, 3) := by decide +kernel
theorem dX4_comeOver_52 : decode cX4_comeOver 52 = .ok (.aload_n 0, 1) := by decide +kernel
theorem dX4_comeOver_53 : decode cX4_comeOver 53 = .ok (.getfield 40, 3) := by decide +kernel
theorem dX4_comeOver_56 : decode cX4_comeOver 56 = .ok (.iload_n 2, 1) := by decide +kernel
theorem dX4_comeOver_57 : decode cX4_comeOver 57 = .ok (.dup2, 1) := by decide +kernel
theorem dX4_comeOver_58 : decode cX4_comeOver 58 = .ok (.iaload, 1) := by decide +kernel
theorem dX4_comeOver_59 : decode cX4_comeOver 59 = .ok (.iconst 1, 1) := by decide +kernel
theorem dX4_comeOver_60 : decode cX4_comeOver 60 = .ok (.iadd, 1) := by decide +kernel
theorem dX4_comeOver_61 : decode cX4_comeOver 61 = .ok (.iastore, 1) := by decide +kernel
theorem dX4_comeOver_62 : decode cX4_comeOver 62 = .ok (.aload_n 0, 1) := by decide +kernel
theorem dX4_comeOver_63 : decode cX4_comeOver 63 = .ok (.getfield 37, 3) := by decide +kernel
theorem dX4_comeOver_66 : decode cX4_comeOver 66 = .ok (.iload_n 2, 1) := by decide +kernel
theorem dX4_comeOver_67 : decode cX4_comeOver 67 = .ok (.dup2, 1) := by decide +kernel
theorem dX4_comeOver_68 : decode cX4_comeOver 68 = .ok (.iaload, 1) := by decide +kernel
theorem dX4_comeOver_69 : decode cX4_comeOver 69 = .ok (.iconst 1, 1) := by decide +kernel
theorem dX4_comeOver_70 : decode cX4_comeOver 70 = .ok (.isub, 1) := by decide +kernel
theorem dX4_comeOver_71 : decode cX4_comeOver 71 = .ok (.iastore, 1) := by decide +kernel
theorem dX4_comeOver_72 : decode cX4_comeOver 72 = .ok (.return_, 1) := by decide +kernel
theorem dX4_boundSet_0 : decode cX4_boundSet 0 = .ok (.iconst 0, 1) := by decide +kernel
theorem dX4_boundSet_1 : decode cX4_boundSet 1 = .ok (.istore_n 2, 1) := by decide +kernel
theorem dX4_boundSet_2 : decode cX4_boundSet 2 = .ok (.iconst 0, 1) := by decide +kernel
theorem dX4_boundSet_3 : decode cX4_boundSet 3 = .ok (.istore_n 3, 1) := by decide +kernel
theorem dX4_boundSet_4 : decode cX4_boundSet 4 = .ok (.iload_n 3, 1) := by decide +kernel
theorem dX4_boundSet_5 : decode cX4_boundSet 5 = .ok (.aload_n 0, 1) := by decide +kernel
theorem dX4_boundSet_6 : decode cX4_boundSet 6 = .ok (.getfield 19, 3) := by decide +kernel
theorem dX4_boundSet_9 : decode cX4_boundSet 9 = .ok (.if_icmp .ge 32, 3) := by decide +kernel
theorem dX4_boundSet_12 : decode cX4_boundSet 12 = .ok (.iload_n 3, 1) := by decide +kernel
theorem dX4_boundSet_13 : decode cX4_boundSet 13 = .ok (.iload_n 1, 1) := by decide +kernel
theorem dX4_boundSet_14 : decode cX4_boundSet 14 = .ok (.if_icmp .eq 21, 3) := by decide +kernel
theorem dX4_boundSet_17 : decode cX4_boundSet 17 = .ok (.aload_n 0, 1) := by decide +kernel
theorem dX4_boundSet_18 : decode cX4_boundSet 18 = .ok (.getfield 52, 3) := by decide +kernel
theorem dX4_boundSet_21 : decode cX4_boundSet 21 = .ok (.iload_n 1, 1) := by decide +kernel
theorem dX4_boundSet_22 : decode cX4_boundSet 22 = .ok (.iload_n 3, 1) := by decide +kernel
theorem dX4_boundSet_23 : decode cX4_boundSet 23 = .ok (.invokevirtual 153, 3) := by decide +kernel
theorem dX4_boundSet_26 : decode cX4_boundSet 26 = .ok (.ifCond .eq 9, 3) := by decide +kernel
theorem dX4_boundSet_29 : decode cX4_boundSet 29 = .ok (.iload_n 2, 1) := by decide +kernel
theorem dX4_boundSet_30 : decode cX4_boundSet 30 = .ok (.iconst 1, 1) := by decide +kernel
theorem dX4_boundSet_31 : decode cX4_boundSet 31 = .ok (.iload_n 3, 1) := by decide +kernel
theorem dX4_boundSet_32 : decode cX4_boundSet 32 = .ok (.ishl, 1) := by decide +kernel
theorem dX4_boundSet_33 : decode cX4_boundSet 33 = .ok (.ior, 1) := by decide +kernel
theorem dX4_boundSet_34 : decode cX4_boundSet 34 = .ok (.istore_n 2, 1) := by decide +kernel
theorem dX4_boundSet_35 : decode cX4_boundSet 35 = .ok (.iinc 3 1, 3) := by decide +kernel
theorem dX4_boundSet_38 : decode cX4_boundSet 38 = .ok (.goto (-34), 3) := by decide +kernel
theorem dX4_boundSet_41 : decode cX4_boundSet 41 = .ok (.iload_n 2, 1) := by decide +kernel
theorem dX4_boundSet_42 : decode cX4_boundSet 42 = .ok (.ireturn, 1) := by decide +kernel
theorem dX4_boundPairs_0 : decode cX4_boundPairs 0 = .ok (.iconst 0, 1) := by decide +kernel
theorem dX4_boundPairs_1 : decode cX4_boundPairs 1 = .ok (.istore_n 2, 1) := by decide +kernel
theorem dX4_boundPairs_2 : decode cX4_boundPairs 2 = .ok (.iconst 0, 1) := by decide +kernel
theorem dX4_boundPairs_3 : decode cX4_boundPairs 3 = .ok (.istore_n 3, 1) := by decide +kernel
theorem dX4_boundPairs_4 : decode cX4_boundPairs 4 = .ok (.iload_n 3, 1) := by decide +kernel
theorem dX4_boundPairs_5 : decode cX4_boundPairs 5 = .ok (.aload_n 0, 1) := by decide +kernel
theorem dX4_boundPairs_6 : decode cX4_boundPairs 6 = .ok (.getfield 19, 3) := by decide +kernel
theorem dX4_boundPairs_9 : decode cX4_boundPairs 9 = .ok (.if_icmp .ge 47, 3) := by decide +kernel
theorem dX4_boundPairs_12 : decode cX4_boundPairs 12 = .ok (.iload_n 3, 1) := by decide +kernel
theorem dX4_boundPairs_13 : decode cX4_boundPairs 13 = .ok (.iconst 1, 1) := by decide +kernel
theorem dX4_boundPairs_14 : decode cX4_boundPairs 14 = .ok (.iadd, 1) := by decide +kernel
theorem dX4_boundPairs_15 : decode cX4_boundPairs 15 = .ok (.istore 4, 2) := by decide +kernel
theorem dX4_boundPairs_17 : decode cX4_boundPairs 17 = .ok (.iload 4, 2) := by decide +kernel
theorem dX4_boundPairs_19 : decode cX4_boundPairs 19 = .ok (.aload_n 0, 1) := by decide +kernel
theorem dX4_boundPairs_20 : decode cX4_boundPairs 20 = .ok (.getfield 19, 3) := by decide +kernel
theorem dX4_boundPairs_23 : decode cX4_boundPairs 23 = .ok (.if_icmp .ge 27, 3) := by decide +kernel
theorem dX4_boundPairs_26 : decode cX4_boundPairs 26 = .ok (.aload_n 0, 1) := by decide +kernel
theorem dX4_boundPairs_27 : decode cX4_boundPairs 27 = .ok (.getfield 52, 3) := by decide +kernel
theorem dX4_boundPairs_30 : decode cX4_boundPairs 30 = .ok (.iload_n 3, 1) := by decide +kernel
theorem dX4_boundPairs_31 : decode cX4_boundPairs 31 = .ok (.iload 4, 2) := by decide +kernel
theorem dX4_boundPairs_33 : decode cX4_boundPairs 33 = .ok (.invokevirtual 153, 3) := by decide +kernel
theorem dX4_boundPairs_36 : decode cX4_boundPairs 36 = .ok (.iload_n 1, 1) := by decide +kernel
theorem dX4_boundPairs_37 : decode cX4_boundPairs 37 = .ok (.iand, 1) := by decide +kernel
theorem dX4_boundPairs_38 : decode cX4_boundPairs 38 = .ok (.ifCond .eq 6, 3) := by decide +kernel
theorem dX4_boundPairs_41 : decode cX4_boundPairs 41 = .ok (.iinc 2 1, 3) := by decide +kernel
theorem dX4_boundPairs_44 : decode cX4_boundPairs 44 = .ok (.iinc 4 1, 3) := by decide +kernel
theorem dX4_boundPairs_47 : decode cX4_boundPairs 47 = .ok (.goto (-30), 3) := by decide +kernel
theorem dX4_boundPairs_50 : decode cX4_boundPairs 50 = .ok (.iinc 3 1, 3) := by decide +kernel
theorem dX4_boundPairs_53 : decode cX4_boundPairs 53 = .ok (.goto (-49), 3) := by decide +kernel
theorem dX4_boundPairs_56 : decode cX4_boundPairs 56 = .ok (.iload_n 2, 1) := by decide +kernel
theorem dX4_boundPairs_57 : decode cX4_boundPairs 57 = .ok (.ireturn, 1) := by decide +kernel
theorem dX4_reachSet_0 : decode cX4_reachSet 0 = .ok (.iconst 0, 1) := by decide +kernel
theorem dX4_reachSet_1 : decode cX4_reachSet 1 = .ok (.istore_n 2, 1) := by decide +kernel
theorem dX4_reachSet_2 : decode cX4_reachSet 2 = .ok (.iconst 0, 1) := by decide +kernel
theorem dX4_reachSet_3 : decode cX4_reachSet 3 = .ok (.istore_n 3, 1) := by decide +kernel
theorem dX4_reachSet_4 : decode cX4_reachSet 4 = .ok (.iload_n 3, 1) := by decide +kernel
theorem dX4_reachSet_5 : decode cX4_reachSet 5 = .ok (.bipush 16, 2) := by decide +kernel
theorem dX4_reachSet_7 : decode cX4_reachSet 7 = .ok (.if_icmp .ge 40, 3) := by decide +kernel
theorem dX4_reachSet_10 : decode cX4_reachSet 10 = .ok (.iload_n 3, 1) := by decide +kernel
theorem dX4_reachSet_11 : decode cX4_reachSet 11 = .ok (.aload_n 0, 1) := by decide +kernel
theorem dX4_reachSet_12 : decode cX4_reachSet 12 = .ok (.getfield 28, 3) := by decide +kernel
theorem dX4_reachSet_15 : decode cX4_reachSet 15 = .ok (.iload_n 1, 1) := by decide +kernel
theorem dX4_reachSet_16 : decode cX4_reachSet 16 = .ok (.iaload, 1) := by decide +kernel
theorem dX4_reachSet_17 : decode cX4_reachSet 17 = .ok (.isub, 1) := by decide +kernel
theorem dX4_reachSet_18 : decode cX4_reachSet 18 = .ok (.istore 4, 2) := by decide +kernel
theorem dX4_reachSet_20 : decode cX4_reachSet 20 = .ok (.iload 4, 2) := by decide +kernel
theorem dX4_reachSet_22 : decode cX4_reachSet 22 = .ok (.ifCond .eq 19, 3) := by decide +kernel
theorem dX4_reachSet_25 : decode cX4_reachSet 25 = .ok (.aload_n 0, 1) := by decide +kernel
theorem dX4_reachSet_26 : decode cX4_reachSet 26 = .ok (.iload_n 1, 1) := by decide +kernel
theorem dX4_reachSet_27 : decode cX4_reachSet 27 = .ok (.iload 4, 2) := by decide +kernel
theorem dX4_reachSet_29 : decode cX4_reachSet 29 = .ok (.invokevirtual 92, 3) := by decide +kernel
theorem dX4_reachSet_32 : decode cX4_reachSet 32 = .ok (.ifCond .ne 9, 3) := by decide +kernel
theorem dX4_reachSet_35 : decode cX4_reachSet 35 = .ok (.iload_n 2, 1) := by decide +kernel
theorem dX4_reachSet_36 : decode cX4_reachSet 36 = .ok (.iconst 1, 1) := by decide +kernel
theorem dX4_reachSet_37 : decode cX4_reachSet 37 = .ok (.iload_n 3, 1) := by decide +kernel
theorem dX4_reachSet_38 : decode cX4_reachSet 38 = .ok (.ishl, 1) := by decide +kernel
theorem dX4_reachSet_39 : decode cX4_reachSet 39 = .ok (.ior, 1) := by decide +kernel
theorem dX4_reachSet_40 : decode cX4_reachSet 40 = .ok (.istore_n 2, 1) := by decide +kernel
theorem dX4_reachSet_41 : decode cX4_reachSet 41 = .ok (.iinc 3 1, 3) := by decide +kernel
theorem dX4_reachSet_44 : decode cX4_reachSet 44 = .ok (.goto (-40), 3) := by decide +kernel
theorem dX4_reachSet_47 : decode cX4_reachSet 47 = .ok (.iload_n 2, 1) := by decide +kernel
theorem dX4_reachSet_48 : decode cX4_reachSet 48 = .ok (.ireturn, 1) := by decide +kernel
theorem dX4_nappingSet_0 : decode cX4_nappingSet 0 = .ok (.iconst 0, 1) := by decide +kernel
theorem dX4_nappingSet_1 : decode cX4_nappingSet 1 = .ok (.istore_n 1, 1) := by decide +kernel
theorem dX4_nappingSet_2 : decode cX4_nappingSet 2 = .ok (.iconst 0, 1) := by decide +kernel
theorem dX4_nappingSet_3 : decode cX4_nappingSet 3 = .ok (.istore_n 2, 1) := by decide +kernel
theorem dX4_nappingSet_4 : decode cX4_nappingSet 4 = .ok (.iload_n 2, 1) := by decide +kernel
theorem dX4_nappingSet_5 : decode cX4_nappingSet 5 = .ok (.aload_n 0, 1) := by decide +kernel
theorem dX4_nappingSet_6 : decode cX4_nappingSet 6 = .ok (.getfield 19, 3) := by decide +kernel
theorem dX4_nappingSet_9 : decode cX4_nappingSet 9 = .ok (.if_icmp .ge 23, 3) := by decide +kernel
theorem dX4_nappingSet_12 : decode cX4_nappingSet 12 = .ok (.aload_n 0, 1) := by decide +kernel
theorem dX4_nappingSet_13 : decode cX4_nappingSet 13 = .ok (.iload_n 2, 1) := by decide +kernel
theorem dX4_nappingSet_14 : decode cX4_nappingSet 14 = .ok (.invokevirtual 100, 3) := by decide +kernel
theorem dX4_nappingSet_17 : decode cX4_nappingSet 17 = .ok (.ifCond .eq 9, 3) := by decide +kernel
theorem dX4_nappingSet_20 : decode cX4_nappingSet 20 = .ok (.iload_n 1, 1) := by decide +kernel
theorem dX4_nappingSet_21 : decode cX4_nappingSet 21 = .ok (.iconst 1, 1) := by decide +kernel
theorem dX4_nappingSet_22 : decode cX4_nappingSet 22 = .ok (.iload_n 2, 1) := by decide +kernel
theorem dX4_nappingSet_23 : decode cX4_nappingSet 23 = .ok (.ishl, 1) := by decide +kernel
theorem dX4_nappingSet_24 : decode cX4_nappingSet 24 = .ok (.ior, 1) := by decide +kernel
theorem dX4_nappingSet_25 : decode cX4_nappingSet 25 = .ok (.istore_n 1, 1) := by decide +kernel
theorem dX4_nappingSet_26 : decode cX4_nappingSet 26 = .ok (.iinc 2 1, 3) := by decide +kernel
theorem dX4_nappingSet_29 : decode cX4_nappingSet 29 = .ok (.goto (-25), 3) := by decide +kernel
theorem dX4_nappingSet_32 : decode cX4_nappingSet 32 = .ok (.iload_n 1, 1) := by decide +kernel
theorem dX4_nappingSet_33 : decode cX4_nappingSet 33 = .ok (.ireturn, 1) := by decide +kernel
theorem dX4_lastWaking_0 : decode cX4_lastWaking 0 = .ok (.bipush (-6), 2) := by decide +kernel
theorem dX4_lastWaking_2 : decode cX4_lastWaking 2 = .ok (.istore_n 1, 1) := by decide +kernel
theorem dX4_lastWaking_3 : decode cX4_lastWaking 3 = .ok (.iconst 0, 1) := by decide +kernel
theorem dX4_lastWaking_4 : decode cX4_lastWaking 4 = .ok (.istore_n 2, 1) := by decide +kernel
theorem dX4_lastWaking_5 : decode cX4_lastWaking 5 = .ok (.iload_n 2, 1) := by decide +kernel
theorem dX4_lastWaking_6 : decode cX4_lastWaking 6 = .ok (.aload_n 0, 1) := by decide +kernel
theorem dX4_lastWaking_7 : decode cX4_lastWaking 7 = .ok (.getfield 19, 3) := by decide +kernel
theorem dX4_lastWaking_10 : decode cX4_lastWaking 10 = .ok (.if_icmp .ge 20, 3) := by decide +kernel
theorem dX4_lastWaking_13 : decode cX4_lastWaking 13 = .ok (.iload_n 1, 1) := by decide +kernel
theorem dX4_lastWaking_14 : decode cX4_lastWaking 14 = .ok (.aload_n 0, 1) := by decide +kernel
theorem dX4_lastWaking_15 : decode cX4_lastWaking 15 = .ok (.getfield 34, 3) := by decide +kernel
theorem dX4_lastWaking_18 : decode cX4_lastWaking 18 = .ok (.iload_n 2, 1) := by decide +kernel
theorem dX4_lastWaking_19 : decode cX4_lastWaking 19 = .ok (.iaload, 1) := by decide +kernel
theorem dX4_lastWaking_20 : decode cX4_lastWaking 20 = .ok (.invokestatic 173, 3) := by decide +kernel
theorem dX4_lastWaking_23 : decode cX4_lastWaking 23 = .ok (.istore_n 1, 1) := by decide +kernel
theorem dX4_lastWaking_24 : decode cX4_lastWaking 24 = .ok (.iinc 2 1, 3) := by decide +kernel
theorem dX4_lastWaking_27 : decode cX4_lastWaking 27 = .ok (.goto (-22), 3) := by decide +kernel
theorem dX4_lastWaking_30 : decode cX4_lastWaking 30 = .ok (.iload_n 1, 1) := by decide +kernel
theorem dX4_lastWaking_31 : decode cX4_lastWaking 31 = .ok (.ireturn, 1) := by decide +kernel
theorem dX4_sumOfAll_0 : decode cX4_sumOfAll 0 = .ok (.iconst 0, 1) := by decide +kernel
theorem dX4_sumOfAll_1 : decode cX4_sumOfAll 1 = .ok (.istore_n 2, 1) := by decide +kernel
theorem dX4_sumOfAll_2 : decode cX4_sumOfAll 2 = .ok (.iconst 0, 1) := by decide +kernel
theorem dX4_sumOfAll_3 : decode cX4_sumOfAll 3 = .ok (.istore_n 3, 1) := by decide +kernel
theorem dX4_sumOfAll_4 : decode cX4_sumOfAll 4 = .ok (.iload_n 3, 1) := by decide +kernel
theorem dX4_sumOfAll_5 : decode cX4_sumOfAll 5 = .ok (.aload_n 0, 1) := by decide +kernel
theorem dX4_sumOfAll_6 : decode cX4_sumOfAll 6 = .ok (.getfield 19, 3) := by decide +kernel
theorem dX4_sumOfAll_9 : decode cX4_sumOfAll 9 = .ok (.if_icmp .ge 21, 3) := by decide +kernel
theorem dX4_sumOfAll_12 : decode cX4_sumOfAll 12 = .ok (.iload_n 3, 1) := by decide +kernel
theorem dX4_sumOfAll_13 : decode cX4_sumOfAll 13 = .ok (.aload_n 1, 1) := by decide +kernel
theorem dX4_sumOfAll_14 : decode cX4_sumOfAll 14 = .ok (.arraylength, 1) := by decide +kernel
theorem dX4_sumOfAll_15 : decode cX4_sumOfAll 15 = .ok (.if_icmp .ge 15, 3) := by decide +kernel
theorem dX4_sumOfAll_18 : decode cX4_sumOfAll 18 = .ok (.iload_n 2, 1) := by decide +kernel
theorem dX4_sumOfAll_19 : decode cX4_sumOfAll 19 = .ok (.aload_n 1, 1) := by decide +kernel
theorem dX4_sumOfAll_20 : decode cX4_sumOfAll 20 = .ok (.iload_n 3, 1) := by decide +kernel
theorem dX4_sumOfAll_21 : decode cX4_sumOfAll 21 = .ok (.iaload, 1) := by decide +kernel
theorem dX4_sumOfAll_22 : decode cX4_sumOfAll 22 = .ok (.iadd, 1) := by decide +kernel
theorem dX4_sumOfAll_23 : decode cX4_sumOfAll 23 = .ok (.istore_n 2, 1) := by decide +kernel
theorem dX4_sumOfAll_24 : decode cX4_sumOfAll 24 = .ok (.iinc 3 1, 3) := by decide +kernel
theorem dX4_sumOfAll_27 : decode cX4_sumOfAll 27 = .ok (.goto (-23), 3) := by decide +kernel
theorem dX4_sumOfAll_30 : decode cX4_sumOfAll 30 = .ok (.iload_n 2, 1) := by decide +kernel
theorem dX4_sumOfAll_31 : decode cX4_sumOfAll 31 = .ok (.ireturn, 1) := by decide +kernel
theorem dX5_init_0 : decode cX5_init 0 = .ok (.aload_n 0, 1) := by decide +kernel
theorem dX5_init_1 : decode cX5_init 1 = .ok (.invokespecial 3, 3) := by decide +kernel
theorem dX5_init_4 : decode cX5_init 4 = .ok (.aload_n 0, 1) := by decide +kernel
theorem dX5_init_5 : decode cX5_init 5 = .ok (.sipush 240, 3) := by decide +kernel
theorem dX5_init_8 : decode cX5_init 8 = .ok (.newarray .int, 2) := by decide +kernel
theorem dX5_init_10 : decode cX5_init 10 = .ok (.putfield 9, 3) := by decide +kernel
theorem dX5_init_13 : decode cX5_init 13 = .ok (.aload_n 0, 1) := by decide +kernel
theorem dX5_init_14 : decode cX5_init 14 = .ok (.sipush 240, 3) := by decide +kernel
theorem dX5_init_17 : decode cX5_init 17 = .ok (.newarray .int, 2) := by decide +kernel
theorem dX5_init_19 : decode cX5_init 19 = .ok (.putfield 15, 3) := by decide +kernel
theorem dX5_init_22 : decode cX5_init 22 = .ok (.aload_n 0, 1) := by decide +kernel
theorem dX5_init_23 : decode cX5_init 23 = .ok (.iconst 0, 1) := by decide +kernel
theorem dX5_init_24 : decode cX5_init 24 = .ok (.putfield 18, 3) := by decide +kernel
theorem dX5_init_27 : decode cX5_init 27 = .ok (.return_, 1) := by decide +kernel
theorem dX5_copyFrom_0 : decode cX5_copyFrom 0 = .ok (.aload_n 0, 1) := by decide +kernel
theorem dX5_copyFrom_1 : decode cX5_copyFrom 1 = .ok (.aload_n 1, 1) := by decide +kernel
theorem dX5_copyFrom_2 : decode cX5_copyFrom 2 = .ok (.getfield 18, 3) := by decide +kernel
theorem dX5_copyFrom_5 : decode cX5_copyFrom 5 = .ok (.putfield 18, 3) := by decide +kernel
theorem dX5_copyFrom_8 : decode cX5_copyFrom 8 = .ok (.aload_n 1, 1) := by decide +kernel
theorem dX5_copyFrom_9 : decode cX5_copyFrom 9 = .ok (.getfield 9, 3) := by decide +kernel
theorem dX5_copyFrom_12 : decode cX5_copyFrom 12 = .ok (.iconst 0, 1) := by decide +kernel
theorem dX5_copyFrom_13 : decode cX5_copyFrom 13 = .ok (.aload_n 0, 1) := by decide +kernel
theorem dX5_copyFrom_14 : decode cX5_copyFrom 14 = .ok (.getfield 9, 3) := by decide +kernel
theorem dX5_copyFrom_17 : decode cX5_copyFrom 17 = .ok (.iconst 0, 1) := by decide +kernel
theorem dX5_copyFrom_18 : decode cX5_copyFrom 18 = .ok (.aload_n 0, 1) := by decide +kernel
theorem dX5_copyFrom_19 : decode cX5_copyFrom 19 = .ok (.getfield 18, 3) := by decide +kernel
theorem dX5_copyFrom_22 : decode cX5_copyFrom 22 = .ok (.invokestatic 22, 3) := by decide +kernel
theorem dX5_copyFrom_25 : decode cX5_copyFrom 25 = .ok (.aload_n 1, 1) := by decide +kernel
theorem dX5_copyFrom_26 : decode cX5_copyFrom 26 = .ok (.getfield 15, 3) := by decide +kernel
theorem dX5_copyFrom_29 : decode cX5_copyFrom 29 = .ok (.iconst 0, 1) := by decide +kernel
theorem dX5_copyFrom_30 : decode cX5_copyFrom 30 = .ok (.aload_n 0, 1) := by decide +kernel
theorem dX5_copyFrom_31 : decode cX5_copyFrom 31 = .ok (.getfield 15, 3) := by decide +kernel
theorem dX5_copyFrom_34 : decode cX5_copyFrom 34 = .ok (.iconst 0, 1) := by decide +kernel
theorem dX5_copyFrom_35 : decode cX5_copyFrom 35 = .ok (.aload_n 0, 1) := by decide +kernel
theorem dX5_copyFrom_36 : decode cX5_copyFrom 36 = .ok (.getfield 18, 3) := by decide +kernel
theorem dX5_copyFrom_39 : decode cX5_copyFrom 39 = .ok (.invokestatic 22, 3) := by decide +kernel
theorem dX5_copyFrom_42 : decode cX5_copyFrom 42 = .ok (.return_, 1) := by decide +kernel
theorem dX5_lay_0 : decode cX5_lay 0 = .ok (.aload_n 0, 1) := by decide +kernel
theorem dX5_lay_1 : decode cX5_lay 1 = .ok (.getfield 18, 3) := by decide +kernel
theorem dX5_lay_4 : decode cX5_lay 4 = .ok (.sipush 240, 3) := by decide +kernel
theorem dX5_lay_7 : decode cX5_lay 7 = .ok (.if_icmp .lt 4, 3) := by decide +kernel
theorem dX5_lay_10 : decode cX5_lay 10 = .ok (.return_, 1) := by decide +kernel
theorem dX5_lay_11 : decode cX5_lay 11 = .ok (.aload_n 0, 1) := by decide +kernel
theorem dX5_lay_12 : decode cX5_lay 12 = .ok (.getfield 9, 3) := by decide +kernel
theorem dX5_lay_15 : decode cX5_lay 15 = .ok (.aload_n 0, 1) := by decide +kernel
theorem dX5_lay_16 : decode cX5_lay 16 = .ok (.getfield 18, 3) := by decide +kernel
theorem dX5_lay_19 : decode cX5_lay 19 = .ok (.iload_n 1, 1) := by decide +kernel
theorem dX5_lay_20 : decode cX5_lay 20 = .ok (.iastore, 1) := by decide +kernel
theorem dX5_lay_21 : decode cX5_lay 21 = .ok (.aload_n 0, 1) := by decide +kernel
theorem dX5_lay_22 : decode cX5_lay 22 = .ok (.getfield 15, 3) := by decide +kernel
theorem dX5_lay_25 : decode cX5_lay 25 = .ok (.aload_n 0, 1) := by decide +kernel
theorem dX5_lay_26 : decode cX5_lay 26 = .ok (.getfield 18, 3) := by decide +kernel
theorem dX5_lay_29 : decode cX5_lay 29 = .ok (.iload_n 2, 1) := by decide +kernel
theorem dX5_lay_30 : decode cX5_lay 30 = .ok (.iastore, 1) := by decide +kernel
theorem dX5_lay_31 : decode cX5_lay 31 = .ok (.aload_n 0, 1) := by decide +kernel
theorem dX5_lay_32 : decode cX5_lay 32 = .ok (.dup, 1) := by decide +kernel
theorem dX5_lay_33 : decode cX5_lay 33 = .ok (.getfield 18, 3) := by decide +kernel
theorem dX5_lay_36 : decode cX5_lay 36 = .ok (.iconst 1, 1) := by decide +kernel
theorem dX5_lay_37 : decode cX5_lay 37 = .ok (.iadd, 1) := by decide +kernel
theorem dX5_lay_38 : decode cX5_lay 38 = .ok (.putfield 18, 3) := by decide +kernel
theorem dX5_lay_41 : decode cX5_lay 41 = .ok (.return_, 1) := by decide +kernel
theorem dX5_removeTop_0 : decode cX5_removeTop 0 = .ok (.aload_n 0, 1) := by decide +kernel
theorem dX5_removeTop_1 : decode cX5_removeTop 1 = .ok (.getfield 18, 3) := by decide +kernel
theorem dX5_removeTop_4 : decode cX5_removeTop 4 = .ok (.iconst 1, 1) := by decide +kernel
theorem dX5_removeTop_5 : decode cX5_removeTop 5 = .ok (.isub, 1) := by decide +kernel
theorem dX5_removeTop_6 : decode cX5_removeTop 6 = .ok (.istore_n 2, 1) := by decide +kernel
theorem dX5_removeTop_7 : decode cX5_removeTop 7 = .ok (.iload_n 2, 1) := by decide +kernel
theorem dX5_removeTop_8 : decode cX5_removeTop 8 = .ok (.ifCond .lt 19, 3) := by decide +kernel
theorem dX5_removeTop_11 : decode cX5_removeTop 11 = .ok (.aload_n 0, 1) := by decide +kernel
theorem dX5_removeTop_12 : decode cX5_removeTop 12 = .ok (.getfield 9, 3) := by decide +kernel
theorem dX5_removeTop_15 : decode cX5_removeTop 15 = .ok (.iload_n 2, 1) := by decide +kernel
theorem dX5_removeTop_16 : decode cX5_removeTop 16 = .ok (.iaload, 1) := by decide +kernel
theorem dX5_removeTop_17 : decode cX5_removeTop 17 = .ok (.iload_n 1, 1) := by decide +kernel
theorem dX5_removeTop_18 : decode cX5_removeTop 18 = .ok (.if_icmp .eq 9, 3) := by decide +kernel
theorem dX5_removeTop_21 : decode cX5_removeTop 21 = .ok (.iinc 2 (-1), 3) := by decide +kernel
theorem dX5_removeTop_24 : decode cX5_removeTop 24 = .ok (.goto (-17), 3) := by decide +kernel
theorem dX5_removeTop_27 : decode cX5_removeTop 27 = .ok (.iload_n 2, 1) := by decide +kernel
theorem dX5_removeTop_28 : decode cX5_removeTop 28 = .ok (.ifCond .ge 4, 3) := by decide +kernel
theorem dX5_removeTop_31 : decode cX5_removeTop 31 = .ok (.return_, 1) := by decide +kernel
theorem dX5_removeTop_32 : decode cX5_removeTop 32 = .ok (.iload_n 2, 1) := by decide +kernel
theorem dX5_removeTop_33 : decode cX5_removeTop 33 = .ok (.iconst 1, 1) := by decide +kernel
theorem dX5_removeTop_34 : decode cX5_removeTop 34 = .ok (.iadd, 1) := by decide +kernel
theorem dX5_removeTop_35 : decode cX5_removeTop 35 = .ok (.istore_n 3, 1) := by decide +kernel
theorem dX5_removeTop_36 : decode cX5_removeTop 36 = .ok (.iload_n 3, 1) := by decide +kernel
theorem dX5_removeTop_37 : decode cX5_removeTop 37 = .ok (.aload_n 0, 1) := by decide +kernel
theorem dX5_removeTop_38 : decode cX5_removeTop 38 = .ok (.getfield 18, 3) := by decide +kernel
theorem dX5_removeTop_41 : decode cX5_removeTop 41 = .ok (.if_icmp .ge 37, 3) := by decide +kernel
theorem dX5_removeTop_44 : decode cX5_removeTop 44 = .ok (.aload_n 0, 1) := by decide +kernel
theorem dX5_removeTop_45 : decode cX5_removeTop 45 = .ok (.getfield 9, 3) := by decide +kernel
theorem dX5_removeTop_48 : decode cX5_removeTop 48 = .ok (.iload_n 3, 1) := by decide +kernel
theorem dX5_removeTop_49 : decode cX5_removeTop 49 = .ok (.iconst 1, 1) := by decide +kernel
theorem dX5_removeTop_50 : decode cX5_removeTop 50 = .ok (.isub, 1) := by decide +kernel
theorem dX5_removeTop_51 : decode cX5_removeTop 51 = .ok (.aload_n 0, 1) := by decide +kernel
theorem dX5_removeTop_52 : decode cX5_removeTop 52 = .ok (.getfield 9, 3) := by decide +kernel
theorem dX5_removeTop_55 : decode cX5_removeTop 55 = .ok (.iload_n 3, 1) := by decide +kernel
theorem dX5_removeTop_56 : decode cX5_removeTop 56 = .ok (.iaload, 1) := by decide +kernel
theorem dX5_removeTop_57 : decode cX5_removeTop 57 = .ok (.iastore, 1) := by decide +kernel
theorem dX5_removeTop_58 : decode cX5_removeTop 58 = .ok (.aload_n 0, 1) := by decide +kernel
theorem dX5_removeTop_59 : decode cX5_removeTop 59 = .ok (.getfield 15, 3) := by decide +kernel
theorem dX5_removeTop_62 : decode cX5_removeTop 62 = .ok (.iload_n 3, 1) := by decide +kernel
theorem dX5_removeTop_63 : decode cX5_removeTop 63 = .ok (.iconst 1, 1) := by decide +kernel
theorem dX5_removeTop_64 : decode cX5_removeTop 64 = .ok (.isub, 1) := by decide +kernel
theorem dX5_removeTop_65 : decode cX5_removeTop 65 = .ok (.aload_n 0, 1) := by decide +kernel
theorem dX5_removeTop_66 : decode cX5_removeTop 66 = .ok (.getfield 15, 3) := by decide +kernel
theorem dX5_removeTop_69 : decode cX5_removeTop 69 = .ok (.iload_n 3, 1) := by decide +kernel
theorem dX5_removeTop_70 : decode cX5_removeTop 70 = .ok (.iaload, 1) := by decide +kernel
theorem dX5_removeTop_71 : decode cX5_removeTop 71 = .ok (.iastore, 1) := by decide +kernel
theorem dX5_removeTop_72 : decode cX5_removeTop 72 = .ok (.iinc 3 1, 3) := by decide +kernel
theorem dX5_removeTop_75 : decode cX5_removeTop 75 = .ok (.goto (-39), 3) := by decide +kernel
theorem dX5_removeTop_78 : decode cX5_removeTop 78 = .ok (.aload_n 0, 1) := by decide +kernel
theorem dX5_removeTop_79 : decode cX5_removeTop 79 = .ok (.dup, 1) := by decide +kernel
theorem dX5_removeTop_80 : decode cX5_removeTop 80 = .ok (.getfield 18, 3) := by decide +kernel
theorem dX5_removeTop_83 : decode cX5_removeTop 83 = .ok (.iconst 1, 1) := by decide +kernel
theorem dX5_removeTop_84 : decode cX5_removeTop 84 = .ok (.isub, 1) := by decide +kernel
theorem dX5_removeTop_85 : decode cX5_removeTop 85 = .ok (.putfield 18, 3) := by decide +kernel
theorem dX5_removeTop_88 : decode cX5_removeTop 88 = .ok (.return_, 1) := by decide +kernel
theorem dX5_removeAll_0 : decode cX5_removeAll 0 = .ok (.iconst 0, 1) := by decide +kernel
theorem dX5_removeAll_1 : decode cX5_removeAll 1 = .ok (.istore_n 3, 1) := by decide +kernel
theorem dX5_removeAll_2 : decode cX5_removeAll 2 = .ok (.iconst 0, 1) := by decide +kernel
theorem dX5_removeAll_3 : decode cX5_removeAll 3 = .ok (.istore 4, 2) := by decide +kernel
theorem dX5_removeAll_5 : decode cX5_removeAll 5 = .ok (.iload 4, 2) := by decide +kernel
theorem dX5_removeAll_7 : decode cX5_removeAll 7 = .ok (.aload_n 0, 1) := by decide +kernel
theorem dX5_removeAll_8 : decode cX5_removeAll 8 = .ok (.getfield 18, 3) := by decide +kernel
theorem dX5_removeAll_11 : decode cX5_removeAll 11 = .ok (.if_icmp .ge 63, 3) := by decide +kernel
theorem dX5_removeAll_14 : decode cX5_removeAll 14 = .ok (.aload_n 0, 1) := by decide +kernel
theorem dX5_removeAll_15 : decode cX5_removeAll 15 = .ok (.getfield 9, 3) := by decide +kernel
theorem dX5_removeAll_18 : decode cX5_removeAll 18 = .ok (.iload 4, 2) := by decide +kernel
theorem dX5_removeAll_20 : decode cX5_removeAll 20 = .ok (.iaload, 1) := by decide +kernel
theorem dX5_removeAll_21 : decode cX5_removeAll 21 = .ok (.iload_n 1, 1) := by decide +kernel
theorem dX5_removeAll_22 : decode cX5_removeAll 22 = .ok (.if_icmp .ne 17, 3) := by decide +kernel
theorem dX5_removeAll_25 : decode cX5_removeAll 25 = .ok (.aload_n 0, 1) := by decide +kernel
theorem dX5_removeAll_26 : decode cX5_removeAll 26 = .ok (.getfield 15, 3) := by decide +kernel
theorem dX5_removeAll_29 : decode cX5_removeAll 29 = .ok (.iload 4, 2) := by decide +kernel
theorem dX5_removeAll_31 : decode cX5_removeAll 31 = .ok (.iaload, 1) := by decide +kernel
theorem dX5_removeAll_32 : decode cX5_removeAll 32 = .ok (.iload_n 2, 1) := by decide +kernel
theorem dX5_removeAll_33 : decode cX5_removeAll 33 = .ok (.if_icmp .ne 6, 3) := by decide +kernel
theorem dX5_removeAll_36 : decode cX5_removeAll 36 = .ok (.goto 32, 3) := by decide +kernel
theorem dX5_removeAll_39 : decode cX5_removeAll 39 = .ok (.aload_n 0, 1) := by decide +kernel
theorem dX5_removeAll_40 : decode cX5_removeAll 40 = .ok (.getfield 9, 3) := by decide +kernel
theorem dX5_removeAll_43 : decode cX5_removeAll 43 = .ok (.iload_n 3, 1) := by decide +kernel
theorem dX5_removeAll_44 : decode cX5_removeAll 44 = .ok (.aload_n 0, 1) := by decide +kernel
theorem dX5_removeAll_45 : decode cX5_removeAll 45 = .ok (.getfield 9, 3) := by decide +kernel
theorem dX5_removeAll_48 : decode cX5_removeAll 48 = .ok (.iload 4, 2) := by decide +kernel
theorem dX5_removeAll_50 : decode cX5_removeAll 50 = .ok (.iaload, 1) := by decide +kernel
theorem dX5_removeAll_51 : decode cX5_removeAll 51 = .ok (.iastore, 1) := by decide +kernel
theorem dX5_removeAll_52 : decode cX5_removeAll 52 = .ok (.aload_n 0, 1) := by decide +kernel
theorem dX5_removeAll_53 : decode cX5_removeAll 53 = .ok (.getfield 15, 3) := by decide +kernel
theorem dX5_removeAll_56 : decode cX5_removeAll 56 = .ok (.iload_n 3, 1) := by decide +kernel
theorem dX5_removeAll_57 : decode cX5_removeAll 57 = .ok (.aload_n 0, 1) := by decide +kernel
theorem dX5_removeAll_58 : decode cX5_removeAll 58 = .ok (.getfield 15, 3) := by decide +kernel
theorem dX5_removeAll_61 : decode cX5_removeAll 61 = .ok (.iload 4, 2) := by decide +kernel
theorem dX5_removeAll_63 : decode cX5_removeAll 63 = .ok (.iaload, 1) := by decide +kernel
theorem dX5_removeAll_64 : decode cX5_removeAll 64 = .ok (.iastore, 1) := by decide +kernel
theorem dX5_removeAll_65 : decode cX5_removeAll 65 = .ok (.iinc 3 1, 3) := by decide +kernel
theorem dX5_removeAll_68 : decode cX5_removeAll 68 = .ok (.iinc 4 1, 3) := by decide +kernel
theorem dX5_removeAll_71 : decode cX5_removeAll 71 = .ok (.goto (-66), 3) := by decide +kernel
theorem dX5_removeAll_74 : decode cX5_removeAll 74 = .ok (.aload_n 0, 1) := by decide +kernel
theorem dX5_removeAll_75 : decode cX5_removeAll 75 = .ok (.getfield 18, 3) := by decide +kernel
theorem dX5_removeAll_78 : decode cX5_removeAll 78 = .ok (.iload_n 3, 1) := by decide +kernel
theorem dX5_removeAll_79 : decode cX5_removeAll 79 = .ok (.isub, 1) := by decide +kernel
theorem dX5_removeAll_80 : decode cX5_removeAll 80 = .ok (.istore 4, 2) := by decide +kernel
theorem dX5_removeAll_82 : decode cX5_removeAll 82 = .ok (.aload_n 0, 1) := by decide +kernel
theorem dX5_removeAll_83 : decode cX5_removeAll 83 = .ok (.iload_n 3, 1) := by decide +kernel
theorem dX5_removeAll_84 : decode cX5_removeAll 84 = .ok (.putfield 18, 3) := by decide +kernel
theorem dX5_removeAll_87 : decode cX5_removeAll 87 = .ok (.iload 4, 2) := by decide +kernel
theorem dX5_removeAll_89 : decode cX5_removeAll 89 = .ok (.ireturn, 1) := by decide +kernel
theorem dX5_topOwner_0 : decode cX5_topOwner 0 = .ok (.aload_n 0, 1) := by decide +kernel
theorem dX5_topOwner_1 : decode cX5_topOwner 1 = .ok (.getfield 18, 3) := by decide +kernel
theorem dX5_topOwner_4 : decode cX5_topOwner 4 = .ok (.iconst 1, 1) := by decide +kernel
theorem dX5_topOwner_5 : decode cX5_topOwner 5 = .ok (.isub, 1) := by decide +kernel
theorem dX5_topOwner_6 : decode cX5_topOwner 6 = .ok (.istore_n 2, 1) := by decide +kernel
theorem dX5_topOwner_7 : decode cX5_topOwner 7 = .ok (.iload_n 2, 1) := by decide +kernel
theorem dX5_topOwner_8 : decode cX5_topOwner 8 = .ok (.ifCond .lt 26, 3) := by decide +kernel
theorem dX5_topOwner_11 : decode cX5_topOwner 11 = .ok (.aload_n 0, 1) := by decide +kernel
theorem dX5_topOwner_12 : decode cX5_topOwner 12 = .ok (.getfield 9, 3) := by decide +kernel
theorem dX5_topOwner_15 : decode cX5_topOwner 15 = .ok (.iload_n 2, 1) := by decide +kernel
theorem dX5_topOwner_16 : decode cX5_topOwner 16 = .ok (.iaload, 1) := by decide +kernel
theorem dX5_topOwner_17 : decode cX5_topOwner 17 = .ok (.iload_n 1, 1) := by decide +kernel
theorem dX5_topOwner_18 : decode cX5_topOwner 18 = .ok (.if_icmp .ne 10, 3) := by decide +kernel
theorem dX5_topOwner_21 : decode cX5_topOwner 21 = .ok (.aload_n 0, 1) := by decide +kernel
theorem dX5_topOwner_22 : decode cX5_topOwner 22 = .ok (.getfield 15, 3) := by decide +kernel
theorem dX5_topOwner_25 : decode cX5_topOwner 25 = .ok (.iload_n 2, 1) := by decide +kernel
theorem dX5_topOwner_26 : decode cX5_topOwner 26 = .ok (.iaload, 1) := by decide +kernel
theorem dX5_topOwner_27 : decode cX5_topOwner 27 = .ok (.ireturn, 1) := by decide +kernel
theorem dX5_topOwner_28 : decode cX5_topOwner 28 = .ok (.iinc 2 (-1), 3) := by decide +kernel
theorem dX5_topOwner_31 : decode cX5_topOwner 31 = .ok (.goto (-24), 3) := by decide +kernel
theorem dX5_topOwner_34 : decode cX5_topOwner 34 = .ok (.bipush (-6), 2) := by decide +kernel
theorem dX5_topOwner_36 : decode cX5_topOwner 36 = .ok (.ireturn, 1) := by decide +kernel
theorem dX5_ownerAt_0 : decode cX5_ownerAt 0 = .ok (.iconst 0, 1) := by decide +kernel
theorem dX5_ownerAt_1 : decode cX5_ownerAt 1 = .ok (.istore_n 3, 1) := by decide +kernel
theorem dX5_ownerAt_2 : decode cX5_ownerAt 2 = .ok (.iconst 0, 1) := by decide +kernel
theorem dX5_ownerAt_3 : decode cX5_ownerAt 3 = .ok (.istore 4, 2) := by decide +kernel
theorem dX5_ownerAt_5 : decode cX5_ownerAt 5 = .ok (.iload 4, 2) := by decide +kernel
theorem dX5_ownerAt_7 : decode cX5_ownerAt 7 = .ok (.aload_n 0, 1) := by decide +kernel
theorem dX5_ownerAt_8 : decode cX5_ownerAt 8 = .ok (.getfield 18, 3) := by decide +kernel
theorem dX5_ownerAt_11 : decode cX5_ownerAt 11 = .ok (.if_icmp .ge 39, 3) := by decide +kernel
theorem dX5_ownerAt_14 : decode cX5_ownerAt 14 = .ok (.aload_n 0, 1) := by decide +kernel
theorem dX5_ownerAt_15 : decode cX5_ownerAt 15 = .ok (.getfield 9, 3) := by decide +kernel
theorem dX5_ownerAt_18 : decode cX5_ownerAt 18 = .ok (.iload 4, 2) := by decide +kernel
theorem dX5_ownerAt_20 : decode cX5_ownerAt 20 = .ok (.iaload, 1) := by decide +kernel
theorem dX5_ownerAt_21 : decode cX5_ownerAt 21 = .ok (.iload_n 1, 1) := by decide +kernel
theorem dX5_ownerAt_22 : decode cX5_ownerAt 22 = .ok (.if_icmp .eq 6, 3) := by decide +kernel
theorem dX5_ownerAt_25 : decode cX5_ownerAt 25 = .ok (.goto 19, 3) := by decide +kernel
theorem dX5_ownerAt_28 : decode cX5_ownerAt 28 = .ok (.iload_n 3, 1) := by decide +kernel
theorem dX5_ownerAt_29 : decode cX5_ownerAt 29 = .ok (.iload_n 2, 1) := by decide +kernel
theorem dX5_ownerAt_30 : decode cX5_ownerAt 30 = .ok (.if_icmp .ne 11, 3) := by decide +kernel
theorem dX5_ownerAt_33 : decode cX5_ownerAt 33 = .ok (.aload_n 0, 1) := by decide +kernel
theorem dX5_ownerAt_34 : decode cX5_ownerAt 34 = .ok (.getfield 15, 3) := by decide +kernel
theorem dX5_ownerAt_37 : decode cX5_ownerAt 37 = .ok (.iload 4, 2) := by decide +kernel
theorem dX5_ownerAt_39 : decode cX5_ownerAt 39 = .ok (.iaload, 1) := by decide +kernel
theorem dX5_ownerAt_40 : decode cX5_ownerAt 40 = .ok (.ireturn, 1) := by decide +kernel
theorem dX5_ownerAt_41 : decode cX5_ownerAt 41 = .ok (.iinc 3 1, 3) := by decide +kernel
theorem dX5_ownerAt_44 : decode cX5_ownerAt 44 = .ok (.iinc 4 1, 3) := by decide +kernel
theorem dX5_ownerAt_47 : decode cX5_ownerAt 47 = .ok (.goto (-42), 3) := by decide +kernel
theorem dX5_ownerAt_50 : decode cX5_ownerAt 50 = .ok (.iconst (-1), 1) := by decide +kernel
theorem dX5_ownerAt_51 : decode cX5_ownerAt 51 = .ok (.ireturn, 1) := by decide +kernel
theorem dX5_lyingAt_0 : decode cX5_lyingAt 0 = .ok (.iconst 0, 1) := by decide +kernel
theorem dX5_lyingAt_1 : decode cX5_lyingAt 1 = .ok (.istore_n 2, 1) := by decide +kernel
theorem dX5_lyingAt_2 : decode cX5_lyingAt 2 = .ok (.iconst 0, 1) := by decide +kernel
theorem dX5_lyingAt_3 : decode cX5_lyingAt 3 = .ok (.istore_n 3, 1) := by decide +kernel
theorem dX5_lyingAt_4 : decode cX5_lyingAt 4 = .ok (.iload_n 3, 1) := by decide +kernel
theorem dX5_lyingAt_5 : decode cX5_lyingAt 5 = .ok (.aload_n 0, 1) := by decide +kernel
theorem dX5_lyingAt_6 : decode cX5_lyingAt 6 = .ok (.getfield 18, 3) := by decide +kernel
theorem dX5_lyingAt_9 : decode cX5_lyingAt 9 = .ok (.if_icmp .ge 22, 3) := by decide +kernel
theorem dX5_lyingAt_12 : decode cX5_lyingAt 12 = .ok (.aload_n 0, 1) := by decide +kernel
theorem dX5_lyingAt_13 : decode cX5_lyingAt 13 = .ok (.getfield 9, 3) := by decide +kernel
theorem dX5_lyingAt_16 : decode cX5_lyingAt 16 = .ok (.iload_n 3, 1) := by decide +kernel
theorem dX5_lyingAt_17 : decode cX5_lyingAt 17 = .ok (.iaload, 1) := by decide +kernel
theorem dX5_lyingAt_18 : decode cX5_lyingAt 18 = .ok (.iload_n 1, 1) := by decide +kernel
theorem dX5_lyingAt_19 : decode cX5_lyingAt 19 = .ok (.if_icmp .ne 6, 3) := by decide +kernel
theorem dX5_lyingAt_22 : decode cX5_lyingAt 22 = .ok (.iinc 2 1, 3) := by decide +kernel
theorem dX5_lyingAt_25 : decode cX5_lyingAt 25 = .ok (.iinc 3 1, 3) := by decide +kernel
theorem dX5_lyingAt_28 : decode cX5_lyingAt 28 = .ok (.goto (-24), 3) := by decide +kernel
theorem dX5_lyingAt_31 : decode cX5_lyingAt 31 = .ok (.iload_n 2, 1) := by decide +kernel
theorem dX5_lyingAt_32 : decode cX5_lyingAt 32 = .ok (.ireturn, 1) := by decide +kernel
theorem dX5_lyingOf_0 : decode cX5_lyingOf 0 = .ok (.iconst 0, 1) := by decide +kernel
theorem dX5_lyingOf_1 : decode cX5_lyingOf 1 = .ok (.istore_n 2, 1) := by decide +kernel
theorem dX5_lyingOf_2 : decode cX5_lyingOf 2 = .ok (.iconst 0, 1) := by decide +kernel
theorem dX5_lyingOf_3 : decode cX5_lyingOf 3 = .ok (.istore_n 3, 1) := by decide +kernel
theorem dX5_lyingOf_4 : decode cX5_lyingOf 4 = .ok (.iload_n 3, 1) := by decide +kernel
theorem dX5_lyingOf_5 : decode cX5_lyingOf 5 = .ok (.aload_n 0, 1) := by decide +kernel
theorem dX5_lyingOf_6 : decode cX5_lyingOf 6 = .ok (.getfield 18, 3) := by decide +kernel
theorem dX5_lyingOf_9 : decode cX5_lyingOf 9 = .ok (.if_icmp .ge 22, 3) := by decide +kernel
theorem dX5_lyingOf_12 : decode cX5_lyingOf 12 = .ok (.aload_n 0, 1) := by decide +kernel
theorem dX5_lyingOf_13 : decode cX5_lyingOf 13 = .ok (.getfield 15, 3) := by decide +kernel
theorem dX5_lyingOf_16 : decode cX5_lyingOf 16 = .ok (.iload_n 3, 1) := by decide +kernel
theorem dX5_lyingOf_17 : decode cX5_lyingOf 17 = .ok (.iaload, 1) := by decide +kernel
theorem dX5_lyingOf_18 : decode cX5_lyingOf 18 = .ok (.iload_n 1, 1) := by decide +kernel
theorem dX5_lyingOf_19 : decode cX5_lyingOf 19 = .ok (.if_icmp .ne 6, 3) := by decide +kernel
theorem dX5_lyingOf_22 : decode cX5_lyingOf 22 = .ok (.iinc 2 1, 3) := by decide +kernel
theorem dX5_lyingOf_25 : decode cX5_lyingOf 25 = .ok (.iinc 3 1, 3) := by decide +kernel
theorem dX5_lyingOf_28 : decode cX5_lyingOf 28 = .ok (.goto (-24), 3) := by decide +kernel
theorem dX5_lyingOf_31 : decode cX5_lyingOf 31 = .ok (.iload_n 2, 1) := by decide +kernel
theorem dX5_lyingOf_32 : decode cX5_lyingOf 32 = .ok (.ireturn, 1) := by decide +kernel
theorem dX5_ownerSetAt_0 : decode cX5_ownerSetAt 0 = .ok (.iconst 0, 1) := by decide +kernel
theorem dX5_ownerSetAt_1 : decode cX5_ownerSetAt 1 = .ok (.istore_n 2, 1) := by decide +kernel
theorem dX5_ownerSetAt_2 : decode cX5_ownerSetAt 2 = .ok (.iconst 0, 1) := by decide +kernel
theorem dX5_ownerSetAt_3 : decode cX5_ownerSetAt 3 = .ok (.istore_n 3, 1) := by decide +kernel
theorem dX5_ownerSetAt_4 : decode cX5_ownerSetAt 4 = .ok (.iload_n 3, 1) := by decide +kernel
theorem dX5_ownerSetAt_5 : decode cX5_ownerSetAt 5 = .ok (.aload_n 0, 1) := by decide +kernel
theorem dX5_ownerSetAt_6 : decode cX5_ownerSetAt 6 = .ok (.getfield 18, 3) := by decide +kernel
theorem dX5_ownerSetAt_9 : decode cX5_ownerSetAt 9 = .ok (.if_icmp .ge 30, 3) := by decide +kernel
theorem dX5_ownerSetAt_12 : decode cX5_ownerSetAt 12 = .ok (.aload_n 0, 1) := by decide +kernel
theorem dX5_ownerSetAt_13 : decode cX5_ownerSetAt 13 = .ok (.getfield 9, 3) := by decide +kernel
theorem dX5_ownerSetAt_16 : decode cX5_ownerSetAt 16 = .ok (.iload_n 3, 1) := by decide +kernel
theorem dX5_ownerSetAt_17 : decode cX5_ownerSetAt 17 = .ok (.iaload, 1) := by decide +kernel
theorem dX5_ownerSetAt_18 : decode cX5_ownerSetAt 18 = .ok (.iload_n 1, 1) := by decide +kernel
theorem dX5_ownerSetAt_19 : decode cX5_ownerSetAt 19 = .ok (.if_icmp .ne 14, 3) := by decide +kernel
theorem dX5_ownerSetAt_22 : decode cX5_ownerSetAt 22 = .ok (.iload_n 2, 1) := by decide +kernel
theorem dX5_ownerSetAt_23 : decode cX5_ownerSetAt 23 = .ok (.iconst 1, 1) := by decide +kernel
theorem dX5_ownerSetAt_24 : decode cX5_ownerSetAt 24 = .ok (.aload_n 0, 1) := by decide +kernel
theorem dX5_ownerSetAt_25 : decode cX5_ownerSetAt 25 = .ok (.getfield 15, 3) := by decide +kernel
theorem dX5_ownerSetAt_28 : decode cX5_ownerSetAt 28 = .ok (.iload_n 3, 1) := by decide +kernel
theorem dX5_ownerSetAt_29 : decode cX5_ownerSetAt 29 = .ok (.iaload, 1) := by decide +kernel
theorem dX5_ownerSetAt_30 : decode cX5_ownerSetAt 30 = .ok (.ishl, 1) := by decide +kernel
theorem dX5_ownerSetAt_31 : decode cX5_ownerSetAt 31 = .ok (.ior, 1) := by decide +kernel
theorem dX5_ownerSetAt_32 : decode cX5_ownerSetAt 32 = .ok (.istore_n 2, 1) := by decide +kernel
theorem dX5_ownerSetAt_33 : decode cX5_ownerSetAt 33 = .ok (.iinc 3 1, 3) := by decide +kernel
theorem dX5_ownerSetAt_36 : decode cX5_ownerSetAt 36 = .ok (.goto (-32), 3) := by decide +kernel
theorem dX5_ownerSetAt_39 : decode cX5_ownerSetAt 39 = .ok (.iload_n 2, 1) := by decide +kernel
theorem dX5_ownerSetAt_40 : decode cX5_ownerSetAt 40 = .ok (.ireturn, 1) := by decide +kernel
theorem dX5_boundEdgeSet_0 : decode cX5_boundEdgeSet 0 = .ok (.iconst 0, 1) := by decide +kernel
theorem dX5_boundEdgeSet_1 : decode cX5_boundEdgeSet 1 = .ok (.istore_n 3, 1) := by decide +kernel
theorem dX5_boundEdgeSet_2 : decode cX5_boundEdgeSet 2 = .ok (.iconst 0, 1) := by decide +kernel
theorem dX5_boundEdgeSet_3 : decode cX5_boundEdgeSet 3 = .ok (.istore 4, 2) := by decide +kernel
theorem dX5_boundEdgeSet_5 : decode cX5_boundEdgeSet 5 = .ok (.iconst 0, 1) := by decide +kernel
theorem dX5_boundEdgeSet_6 : decode cX5_boundEdgeSet 6 = .ok (.istore 5, 2) := by decide +kernel
theorem dX5_boundEdgeSet_8 : decode cX5_boundEdgeSet 8 = .ok (.iconst 0, 1) := by decide +kernel
theorem dX5_boundEdgeSet_9 : decode cX5_boundEdgeSet 9 = .ok (.istore 6, 2) := by decide +kernel
theorem dX5_boundEdgeSet_11 : decode cX5_boundEdgeSet 11 = .ok (.iconst 0, 1) := by decide +kernel
theorem dX5_boundEdgeSet_12 : decode cX5_boundEdgeSet 12 = .ok (.istore 7, 2) := by decide +kernel
theorem dX5_boundEdgeSet_14 : decode cX5_boundEdgeSet 14 = .ok (.iload 7, 2) := by decide +kernel
theorem dX5_boundEdgeSet_16 : decode cX5_boundEdgeSet 16 = .ok (.aload_n 0, 1) := by decide +kernel
theorem dX5_boundEdgeSet_17 : decode cX5_boundEdgeSet 17 = .ok (.getfield 18, 3) := by decide +kernel
theorem dX5_boundEdgeSet_20 : decode cX5_boundEdgeSet 20 = .ok (.if_icmp .ge 117, 3) := by decide +kernel
theorem dX5_boundEdgeSet_23 : decode cX5_boundEdgeSet 23 = .ok (.iconst 1, 1) := by decide +kernel
theorem dX5_boundEdgeSet_24 : decode cX5_boundEdgeSet 24 = .ok (.aload_n 0, 1) := by decide +kernel
theorem dX5_boundEdgeSet_25 : decode cX5_boundEdgeSet 25 = .ok (.getfield 9, 3) := by decide +kernel
theorem dX5_boundEdgeSet_28 : decode cX5_boundEdgeSet 28 = .ok (.iload 7, 2) := by decide +kernel
theorem dX5_boundEdgeSet_30 : decode cX5_boundEdgeSet 30 = .ok (.iaload, 1) := by decide +kernel
theorem dX5_boundEdgeSet_31 : decode cX5_boundEdgeSet 31 = .ok (.ishl, 1) := by decide +kernel
theorem dX5_boundEdgeSet_32 : decode cX5_boundEdgeSet 32 = .ok (.istore 8, 2) := by decide +kernel
theorem dX5_boundEdgeSet_34 : decode cX5_boundEdgeSet 34 = .ok (.aload_n 0, 1) := by decide +kernel
theorem dX5_boundEdgeSet_35 : decode cX5_boundEdgeSet 35 = .ok (.getfield 15, 3) := by decide +kernel
theorem dX5_boundEdgeSet_38 : decode cX5_boundEdgeSet 38 = .ok (.iload 7, 2) := by decide +kernel
theorem dX5_boundEdgeSet_40 : decode cX5_boundEdgeSet 40 = .ok (.iaload, 1) := by decide +kernel
theorem dX5_boundEdgeSet_41 : decode cX5_boundEdgeSet 41 = .ok (.iload_n 1, 1) := by decide +kernel
theorem dX5_boundEdgeSet_42 : decode cX5_boundEdgeSet 42 = .ok (.if_icmp .ne 43, 3) := by decide +kernel
theorem dX5_boundEdgeSet_45 : decode cX5_boundEdgeSet 45 = .ok (.iload 6, 2) := by decide +kernel
theorem dX5_boundEdgeSet_47 : decode cX5_boundEdgeSet 47 = .ok (.iload 8, 2) := by decide +kernel
theorem dX5_boundEdgeSet_49 : decode cX5_boundEdgeSet 49 = .ok (.iload 4, 2) := by decide +kernel
theorem dX5_boundEdgeSet_51 : decode cX5_boundEdgeSet 51 = .ok (.iand, 1) := by decide +kernel
theorem dX5_boundEdgeSet_52 : decode cX5_boundEdgeSet 52 = .ok (.iload 5, 2) := by decide +kernel
theorem dX5_boundEdgeSet_54 : decode cX5_boundEdgeSet 54 = .ok (.iand, 1) := by decide +kernel
theorem dX5_boundEdgeSet_55 : decode cX5_boundEdgeSet 55 = .ok (.ior, 1) := by decide +kernel
theorem dX5_boundEdgeSet_56 : decode cX5_boundEdgeSet 56 = .ok (.istore 6, 2) := by decide +kernel
theorem dX5_boundEdgeSet_58 : decode cX5_boundEdgeSet 58 = .ok (.iload 5, 2) := by decide +kernel
theorem dX5_boundEdgeSet_60 : decode cX5_boundEdgeSet 60 = .ok (.iload 8, 2) := by decide +kernel
theorem dX5_boundEdgeSet_62 : decode cX5_boundEdgeSet 62 = .ok (.iload 4, 2) := by decide +kernel
theorem dX5_boundEdgeSet_64 : decode cX5_boundEdgeSet 64 = .ok (.iand, 1) := by decide +kernel
theorem dX5_boundEdgeSet_65 : decode cX5_boundEdgeSet 65 = .ok (.ior, 1) := by decide +kernel
theorem dX5_boundEdgeSet_66 : decode cX5_boundEdgeSet 66 = .ok (.istore 5, 2) := by decide +kernel
theorem dX5_boundEdgeSet_68 : decode cX5_boundEdgeSet 68 = .ok (.iload 4, 2) := by decide +kernel
theorem dX5_boundEdgeSet_70 : decode cX5_boundEdgeSet 70 = .ok (.iload 8, 2) := by decide +kernel
theorem dX5_boundEdgeSet_72 : decode cX5_boundEdgeSet 72 = .ok (.iconst (-1), 1) := by decide +kernel
theorem dX5_boundEdgeSet_73 : decode cX5_boundEdgeSet 73 = .ok (.ixor, 1) := by decide +kernel
theorem dX5_boundEdgeSet_74 : decode cX5_boundEdgeSet 74 = .ok (.iand, 1) := by decide +kernel
theorem dX5_boundEdgeSet_75 : decode cX5_boundEdgeSet 75 = .ok (.istore 4, 2) := by decide +kernel
theorem dX5_boundEdgeSet_77 : decode cX5_boundEdgeSet 77 = .ok (.iload_n 3, 1) := by decide +kernel
theorem dX5_boundEdgeSet_78 : decode cX5_boundEdgeSet 78 = .ok (.iload 8, 2) := by decide +kernel
theorem dX5_boundEdgeSet_80 : decode cX5_boundEdgeSet 80 = .ok (.ior, 1) := by decide +kernel
theorem dX5_boundEdgeSet_81 : decode cX5_boundEdgeSet 81 = .ok (.istore_n 3, 1) := by decide +kernel
theorem dX5_boundEdgeSet_82 : decode cX5_boundEdgeSet 82 = .ok (.goto 49, 3) := by decide +kernel
theorem dX5_boundEdgeSet_85 : decode cX5_boundEdgeSet 85 = .ok (.aload_n 0, 1) := by decide +kernel
theorem dX5_boundEdgeSet_86 : decode cX5_boundEdgeSet 86 = .ok (.getfield 15, 3) := by decide +kernel
theorem dX5_boundEdgeSet_89 : decode cX5_boundEdgeSet 89 = .ok (.iload 7, 2) := by decide +kernel
theorem dX5_boundEdgeSet_91 : decode cX5_boundEdgeSet 91 = .ok (.iaload, 1) := by decide +kernel
theorem dX5_boundEdgeSet_92 : decode cX5_boundEdgeSet 92 = .ok (.iload_n 2, 1) := by decide +kernel
theorem dX5_boundEdgeSet_93 : decode cX5_boundEdgeSet 93 = .ok (.if_icmp .ne 38, 3) := by decide +kernel
theorem dX5_boundEdgeSet_96 : decode cX5_boundEdgeSet 96 = .ok (.iload 6, 2) := by decide +kernel
theorem dX5_boundEdgeSet_98 : decode cX5_boundEdgeSet 98 = .ok (.iload 8, 2) := by decide +kernel
theorem dX5_boundEdgeSet_100 : decode cX5_boundEdgeSet 100 = .ok (.iload_n 3, 1) := by decide +kernel
theorem dX5_boundEdgeSet_101 : decode cX5_boundEdgeSet 101 = .ok (.iand, 1) := by decide +kernel
theorem dX5_boundEdgeSet_102 : decode cX5_boundEdgeSet 102 = .ok (.iload 5, 2) := by decide +kernel
theorem dX5_boundEdgeSet_104 : decode cX5_boundEdgeSet 104 = .ok (.iand, 1) := by decide +kernel
theorem dX5_boundEdgeSet_105 : decode cX5_boundEdgeSet 105 = .ok (.ior, 1) := by decide +kernel
theorem dX5_boundEdgeSet_106 : decode cX5_boundEdgeSet 106 = .ok (.istore 6, 2) := by decide +kernel
theorem dX5_boundEdgeSet_108 : decode cX5_boundEdgeSet 108 = .ok (.iload 5, 2) := by decide +kernel
theorem dX5_boundEdgeSet_110 : decode cX5_boundEdgeSet 110 = .ok (.iload 8, 2) := by decide +kernel
theorem dX5_boundEdgeSet_112 : decode cX5_boundEdgeSet 112 = .ok (.iload_n 3, 1) := by decide +kernel
theorem dX5_boundEdgeSet_113 : decode cX5_boundEdgeSet 113 = .ok (.iand, 1) := by decide +kernel
theorem dX5_boundEdgeSet_114 : decode cX5_boundEdgeSet 114 = .ok (.ior, 1) := by decide +kernel
theorem dX5_boundEdgeSet_115 : decode cX5_boundEdgeSet 115 = .ok (.istore 5, 2) := by decide +kernel
theorem dX5_boundEdgeSet_117 : decode cX5_boundEdgeSet 117 = .ok (.iload_n 3, 1) := by decide +kernel
theorem dX5_boundEdgeSet_118 : decode cX5_boundEdgeSet 118 = .ok (.iload 8, 2) := by decide +kernel
theorem dX5_boundEdgeSet_120 : decode cX5_boundEdgeSet 120 = .ok (.iconst (-1), 1) := by decide +kernel
theorem dX5_boundEdgeSet_121 : decode cX5_boundEdgeSet 121 = .ok (.ixor, 1) := by decide +kernel
theorem dX5_boundEdgeSet_122 : decode cX5_boundEdgeSet 122 = .ok (.iand, 1) := by decide +kernel
theorem dX5_boundEdgeSet_123 : decode cX5_boundEdgeSet 123 = .ok (.istore_n 3, 1) := by decide +kernel
theorem dX5_boundEdgeSet_124 : decode cX5_boundEdgeSet 124 = .ok (.iload 4, 2) := by decide +kernel
theorem dX5_boundEdgeSet_126 : decode cX5_boundEdgeSet 126 = .ok (.iload 8, 2) := by decide +kernel
theorem dX5_boundEdgeSet_128 : decode cX5_boundEdgeSet 128 = .ok (.ior, 1) := by decide +kernel
theorem dX5_boundEdgeSet_129 : decode cX5_boundEdgeSet 129 = .ok (.istore 4, 2) := by decide +kernel
theorem dX5_boundEdgeSet_131 : decode cX5_boundEdgeSet 131 = .ok (.iinc 7 1, 3) := by decide +kernel
theorem dX5_boundEdgeSet_134 : decode cX5_boundEdgeSet 134 = .ok (.goto (-120), 3) := by decide +kernel
theorem dX5_boundEdgeSet_137 : decode cX5_boundEdgeSet 137 = .ok (.iload 6, 2) := by decide +kernel
theorem dX5_boundEdgeSet_139 : decode cX5_boundEdgeSet 139 = .ok (.ireturn, 1) := by decide +kernel
theorem dX5_fewestGone_0 : decode cX5_fewestGone 0 = .ok (.iconst 0, 1) := by decide +kernel
theorem dX5_fewestGone_1 : decode cX5_fewestGone 1 = .ok (.istore 4, 2) := by decide +kernel
theorem dX5_fewestGone_3 : decode cX5_fewestGone 3 = .ok (.iconst 0, 1) := by decide +kernel
theorem dX5_fewestGone_4 : decode cX5_fewestGone 4 = .ok (.istore 5, 2) := by decide +kernel
theorem dX5_fewestGone_6 : decode cX5_fewestGone 6 = .ok (.iload 5, 2) := by decide +kernel
theorem dX5_fewestGone_8 : decode cX5_fewestGone 8 = .ok (.aload_n 0, 1) := by decide +kernel
theorem dX5_fewestGone_9 : decode cX5_fewestGone 9 = .ok (.getfield 18, 3) := by decide +kernel
theorem dX5_fewestGone_12 : decode cX5_fewestGone 12 = .ok (.if_icmp .ge 45, 3) := by decide +kernel
theorem dX5_fewestGone_15 : decode cX5_fewestGone 15 = .ok (.aload_n 0, 1) := by decide +kernel
theorem dX5_fewestGone_16 : decode cX5_fewestGone 16 = .ok (.getfield 9, 3) := by decide +kernel
theorem dX5_fewestGone_19 : decode cX5_fewestGone 19 = .ok (.iload 5, 2) := by decide +kernel
theorem dX5_fewestGone_21 : decode cX5_fewestGone 21 = .ok (.iaload, 1) := by decide +kernel
theorem dX5_fewestGone_22 : decode cX5_fewestGone 22 = .ok (.iload_n 1, 1) := by decide +kernel
theorem dX5_fewestGone_23 : decode cX5_fewestGone 23 = .ok (.if_icmp .ne 28, 3) := by decide +kernel
theorem dX5_fewestGone_26 : decode cX5_fewestGone 26 = .ok (.aload_n 0, 1) := by decide +kernel
theorem dX5_fewestGone_27 : decode cX5_fewestGone 27 = .ok (.getfield 15, 3) := by decide +kernel
theorem dX5_fewestGone_30 : decode cX5_fewestGone 30 = .ok (.iload 5, 2) := by decide +kernel
theorem dX5_fewestGone_32 : decode cX5_fewestGone 32 = .ok (.iaload, 1) := by decide +kernel
theorem dX5_fewestGone_33 : decode cX5_fewestGone 33 = .ok (.iload_n 2, 1) := by decide +kernel
theorem dX5_fewestGone_34 : decode cX5_fewestGone 34 = .ok (.if_icmp .eq 14, 3) := by decide +kernel
theorem dX5_fewestGone_37 : decode cX5_fewestGone 37 = .ok (.aload_n 0, 1) := by decide +kernel
theorem dX5_fewestGone_38 : decode cX5_fewestGone 38 = .ok (.getfield 15, 3) := by decide +kernel
theorem dX5_fewestGone_41 : decode cX5_fewestGone 41 = .ok (.iload 5, 2) := by decide +kernel
theorem dX5_fewestGone_43 : decode cX5_fewestGone 43 = .ok (.iaload, 1) := by decide +kernel
theorem dX5_fewestGone_44 : decode cX5_fewestGone 44 = .ok (.iload_n 3, 1) := by decide +kernel
theorem dX5_fewestGone_45 : decode cX5_fewestGone 45 = .ok (.if_icmp .ne 6, 3) := by decide +kernel
theorem dX5_fewestGone_48 : decode cX5_fewestGone 48 = .ok (.iinc 4 1, 3) := by decide +kernel
theorem dX5_fewestGone_51 : decode cX5_fewestGone 51 = .ok (.iinc 5 1, 3) := by decide +kernel
theorem dX5_fewestGone_54 : decode cX5_fewestGone 54 = .ok (.goto (-48), 3) := by decide +kernel
theorem dX5_fewestGone_57 : decode cX5_fewestGone 57 = .ok (.iload 4, 2) := by decide +kernel
theorem dX5_fewestGone_59 : decode cX5_fewestGone 59 = .ok (.aload_n 0, 1) := by decide +kernel
theorem dX5_fewestGone_60 : decode cX5_fewestGone 60 = .ok (.iload_n 1, 1) := by decide +kernel
theorem dX5_fewestGone_61 : decode cX5_fewestGone 61 = .ok (.iload_n 2, 1) := by decide +kernel
theorem dX5_fewestGone_62 : decode cX5_fewestGone 62 = .ok (.iload_n 3, 1) := by decide +kernel
theorem dX5_fewestGone_63 : decode cX5_fewestGone 63 = .ok (.invokevirtual 28, 3) := by decide +kernel
theorem dX5_fewestGone_66 : decode cX5_fewestGone 66 = .ok (.aload_n 0, 1) := by decide +kernel
theorem dX5_fewestGone_67 : decode cX5_fewestGone 67 = .ok (.iload_n 1, 1) := by decide +kernel
theorem dX5_fewestGone_68 : decode cX5_fewestGone 68 = .ok (.iload_n 3, 1) := by decide +kernel
theorem dX5_fewestGone_69 : decode cX5_fewestGone 69 = .ok (.iload_n 2, 1) := by decide +kernel
theorem dX5_fewestGone_70 : decode cX5_fewestGone 70 = .ok (.invokevirtual 28, 3) := by decide +kernel
theorem dX5_fewestGone_73 : decode cX5_fewestGone 73 = .ok (.invokestatic 32, 3) := by decide +kernel
theorem dX5_fewestGone_76 : decode cX5_fewestGone 76 = .ok (.isub, 1) := by decide +kernel
theorem dX5_fewestGone_77 : decode cX5_fewestGone 77 = .ok (.ireturn, 1) := by decide +kernel
theorem dX5_mostKept_0 : decode cX5_mostKept 0 = .ok (.iconst 0, 1) := by decide +kernel
theorem dX5_mostKept_1 : decode cX5_mostKept 1 = .ok (.istore 4, 2) := by decide +kernel
theorem dX5_mostKept_3 : decode cX5_mostKept 3 = .ok (.iconst 0, 1) := by decide +kernel
theorem dX5_mostKept_4 : decode cX5_mostKept 4 = .ok (.istore 5, 2) := by decide +kernel
theorem dX5_mostKept_6 : decode cX5_mostKept 6 = .ok (.iconst 0, 1) := by decide +kernel
theorem dX5_mostKept_7 : decode cX5_mostKept 7 = .ok (.istore 6, 2) := by decide +kernel
theorem dX5_mostKept_9 : decode cX5_mostKept 9 = .ok (.iload 6, 2) := by decide +kernel
theorem dX5_mostKept_11 : decode cX5_mostKept 11 = .ok (.aload_n 0, 1) := by decide +kernel
theorem dX5_mostKept_12 : decode cX5_mostKept 12 = .ok (.getfield 18, 3) := by decide +kernel
theorem dX5_mostKept_15 : decode cX5_mostKept 15 = .ok (.if_icmp .ge 62, 3) := by decide +kernel
theorem dX5_mostKept_18 : decode cX5_mostKept 18 = .ok (.aload_n 0, 1) := by decide +kernel
theorem dX5_mostKept_19 : decode cX5_mostKept 19 = .ok (.getfield 9, 3) := by decide +kernel
theorem dX5_mostKept_22 : decode cX5_mostKept 22 = .ok (.iload 6, 2) := by decide +kernel
theorem dX5_mostKept_24 : decode cX5_mostKept 24 = .ok (.iaload, 1) := by decide +kernel
theorem dX5_mostKept_25 : decode cX5_mostKept 25 = .ok (.iload_n 1, 1) := by decide +kernel
theorem dX5_mostKept_26 : decode cX5_mostKept 26 = .ok (.if_icmp .eq 6, 3) := by decide +kernel
theorem dX5_mostKept_29 : decode cX5_mostKept 29 = .ok (.goto 42, 3) := by decide +kernel
theorem dX5_mostKept_32 : decode cX5_mostKept 32 = .ok (.aload_n 0, 1) := by decide +kernel
theorem dX5_mostKept_33 : decode cX5_mostKept 33 = .ok (.getfield 15, 3) := by decide +kernel
theorem dX5_mostKept_36 : decode cX5_mostKept 36 = .ok (.iload 6, 2) := by decide +kernel
theorem dX5_mostKept_38 : decode cX5_mostKept 38 = .ok (.iaload, 1) := by decide +kernel
theorem dX5_mostKept_39 : decode cX5_mostKept 39 = .ok (.iload_n 2, 1) := by decide +kernel
theorem dX5_mostKept_40 : decode cX5_mostKept 40 = .ok (.if_icmp .ne 9, 3) := by decide +kernel
theorem dX5_mostKept_43 : decode cX5_mostKept 43 = .ok (.iinc 4 1, 3) := by decide +kernel
theorem dX5_mostKept_46 : decode cX5_mostKept 46 = .ok (.goto 25, 3) := by decide +kernel
theorem dX5_mostKept_49 : decode cX5_mostKept 49 = .ok (.aload_n 0, 1) := by decide +kernel
theorem dX5_mostKept_50 : decode cX5_mostKept 50 = .ok (.getfield 15, 3) := by decide +kernel
theorem dX5_mostKept_53 : decode cX5_mostKept 53 = .ok (.iload 6, 2) := by decide +kernel
theorem dX5_mostKept_55 : decode cX5_mostKept 55 = .ok (.iaload, 1) := by decide +kernel
theorem dX5_mostKept_56 : decode cX5_mostKept 56 = .ok (.iload_n 3, 1) := by decide +kernel
theorem dX5_mostKept_57 : decode cX5_mostKept 57 = .ok (.if_icmp .ne 14, 3) := by decide +kernel
theorem dX5_mostKept_60 : decode cX5_mostKept 60 = .ok (.iload 5, 2) := by decide +kernel
theorem dX5_mostKept_62 : decode cX5_mostKept 62 = .ok (.iload 4, 2) := by decide +kernel
theorem dX5_mostKept_64 : decode cX5_mostKept 64 = .ok (.invokestatic 32, 3) := by decide +kernel
theorem dX5_mostKept_67 : decode cX5_mostKept 67 = .ok (.iconst 1, 1) := by decide +kernel
theorem dX5_mostKept_68 : decode cX5_mostKept 68 = .ok (.iadd, 1) := by decide +kernel
theorem dX5_mostKept_69 : decode cX5_mostKept 69 = .ok (.istore 5, 2) := by decide +kernel
theorem dX5_mostKept_71 : decode cX5_mostKept 71 = .ok (.iinc 6 1, 3) := by decide +kernel
theorem dX5_mostKept_74 : decode cX5_mostKept 74 = .ok (.goto (-65), 3) := by decide +kernel
theorem dX5_mostKept_77 : decode cX5_mostKept 77 = .ok (.iload 5, 2) := by decide +kernel
theorem dX5_mostKept_79 : decode cX5_mostKept 79 = .ok (.iload 4, 2) := by decide +kernel
theorem dX5_mostKept_81 : decode cX5_mostKept 81 = .ok (.invokestatic 32, 3) := by decide +kernel
theorem dX5_mostKept_84 : decode cX5_mostKept 84 = .ok (.ireturn, 1) := by decide +kernel
theorem dX6_init_0 : decode cX6_init 0 = .ok (.aload_n 0, 1) := by decide +kernel
theorem dX6_init_1 : decode cX6_init 1 = .ok (.invokespecial 3, 3) := by decide +kernel
theorem dX6_init_4 : decode cX6_init 4 = .ok (.aload_n 0, 1) := by decide +kernel
theorem dX6_init_5 : decode cX6_init 5 = .ok (.new 9, 3) := by decide +kernel
theorem dX6_init_8 : decode cX6_init 8 = .ok (.dup, 1) := by decide +kernel
theorem dX6_init_9 : decode cX6_init 9 = .ok (.invokespecial 11, 3) := by decide +kernel
theorem dX6_init_12 : decode cX6_init 12 = .ok (.putfield 12, 3) := by decide +kernel
theorem dX6_init_15 : decode cX6_init 15 = .ok (.aload_n 0, 1) := by decide +kernel
theorem dX6_init_16 : decode cX6_init 16 = .ok (.new 9, 3) := by decide +kernel
theorem dX6_init_19 : decode cX6_init 19 = .ok (.dup, 1) := by decide +kernel
theorem dX6_init_20 : decode cX6_init 20 = .ok (.invokespecial 11, 3) := by decide +kernel
theorem dX6_init_23 : decode cX6_init 23 = .ok (.putfield 16, 3) := by decide +kernel
theorem dX6_init_26 : decode cX6_init 26 = .ok (.aload_n 0, 1) := by decide +kernel
theorem dX6_init_27 : decode cX6_init 27 = .ok (.new 19, 3) := by decide +kernel
theorem dX6_init_30 : decode cX6_init 30 = .ok (.dup, 1) := by decide +kernel
theorem dX6_init_31 : decode cX6_init 31 = .ok (.invokespecial 21, 3) := by decide +kernel
theorem dX6_init_34 : decode cX6_init 34 = .ok (.putfield 22, 3) := by decide +kernel
theorem dX6_init_37 : decode cX6_init 37 = .ok (.aload_n 0, 1) := by decide +kernel
theorem dX6_init_38 : decode cX6_init 38 = .ok (.iconst 2, 1) := by decide +kernel
theorem dX6_init_39 : decode cX6_init 39 = .ok (.anewarray 9, 3) := by decide +kernel
theorem dX6_init_42 : decode cX6_init 42 = .ok (.putfield 26, 3) := by decide +kernel
theorem dX6_init_45 : decode cX6_init 45 = .ok (.aload_n 0, 1) := by decide +kernel
theorem dX6_init_46 : decode cX6_init 46 = .ok (.new 30, 3) := by decide +kernel
theorem dX6_init_49 : decode cX6_init 49 = .ok (.dup, 1) := by decide +kernel
theorem dX6_init_50 : decode cX6_init 50 = .ok (.invokespecial 32, 3) := by decide +kernel
theorem dX6_init_53 : decode cX6_init 53 = .ok (.putfield 33, 3) := by decide +kernel
theorem dX6_init_56 : decode cX6_init 56 = .ok (.aload_n 0, 1) := by decide +kernel
theorem dX6_init_57 : decode cX6_init 57 = .ok (.new 37, 3) := by decide +kernel
theorem dX6_init_60 : decode cX6_init 60 = .ok (.dup, 1) := by decide +kernel
theorem dX6_init_61 : decode cX6_init 61 = .ok (.invokespecial 39, 3) := by decide +kernel
theorem dX6_init_64 : decode cX6_init 64 = .ok (.putfield 40, 3) := by decide +kernel
theorem dX6_init_67 : decode cX6_init 67 = .ok (.return_, 1) := by decide +kernel
theorem dX6_set_0 : decode cX6_set 0 = .ok (.aload_n 0, 1) := by decide +kernel
theorem dX6_set_1 : decode cX6_set 1 = .ok (.getfield 22, 3) := by decide +kernel
theorem dX6_set_4 : decode cX6_set 4 = .ok (.aload_n 0, 1) := by decide +kernel
theorem dX6_set_5 : decode cX6_set 5 = .ok (.getfield 12, 3) := by decide +kernel
theorem dX6_set_8 : decode cX6_set 8 = .ok (.invokevirtual 44, 3) := by decide +kernel
theorem dX6_set_11 : decode cX6_set 11 = .ok (.aload_n 0, 1) := by decide +kernel
theorem dX6_set_12 : decode cX6_set 12 = .ok (.aload_n 0, 1) := by decide +kernel
theorem dX6_set_13 : decode cX6_set 13 = .ok (.getfield 12, 3) := by decide +kernel
theorem dX6_set_16 : decode cX6_set 16 = .ok (.iload_n 1, 1) := by decide +kernel
theorem dX6_set_17 : decode cX6_set 17 = .ok (.iload_n 2, 1) := by decide +kernel
theorem dX6_set_18 : decode cX6_set 18 = .ok (.invokevirtual 48, 3) := by decide +kernel
theorem dX6_set_21 : decode cX6_set 21 = .ok (.invokevirtual 52, 3) := by decide +kernel
theorem dX6_set_24 : decode cX6_set 24 = .ok (.ireturn, 1) := by decide +kernel
theorem dX6_kitten_0 : decode cX6_kitten 0 = .ok (.aload_n 0, 1) := by decide +kernel
theorem dX6_kitten_1 : decode cX6_kitten 1 = .ok (.getfield 22, 3) := by decide +kernel
theorem dX6_kitten_4 : decode cX6_kitten 4 = .ok (.aload_n 0, 1) := by decide +kernel
theorem dX6_kitten_5 : decode cX6_kitten 5 = .ok (.getfield 12, 3) := by decide +kernel
theorem dX6_kitten_8 : decode cX6_kitten 8 = .ok (.invokevirtual 44, 3) := by decide +kernel
theorem dX6_kitten_11 : decode cX6_kitten 11 = .ok (.aload_n 0, 1) := by decide +kernel
theorem dX6_kitten_12 : decode cX6_kitten 12 = .ok (.aload_n 0, 1) := by decide +kernel
theorem dX6_kitten_13 : decode cX6_kitten 13 = .ok (.getfield 12, 3) := by decide +kernel
theorem dX6_kitten_16 : decode cX6_kitten 16 = .ok (.iload_n 1, 1) := by decide +kernel
theorem dX6_kitten_17 : decode cX6_kitten 17 = .ok (.invokevirtual 56, 3) := by decide +kernel
theorem dX6_kitten_20 : decode cX6_kitten 20 = .ok (.invokevirtual 52, 3) := by decide +kernel
theorem dX6_kitten_23 : decode cX6_kitten 23 = .ok (.ireturn, 1) := by decide +kernel
theorem dX6_leap_0 : decode cX6_leap 0 = .ok (.aload_n 0, 1) := by decide +kernel
theorem dX6_leap_1 : decode cX6_leap 1 = .ok (.getfield 22, 3) := by decide +kernel
theorem dX6_leap_4 : decode cX6_leap 4 = .ok (.aload_n 0, 1) := by decide +kernel
theorem dX6_leap_5 : decode cX6_leap 5 = .ok (.getfield 12, 3) := by decide +kernel
theorem dX6_leap_8 : decode cX6_leap 8 = .ok (.invokevirtual 44, 3) := by decide +kernel
theorem dX6_leap_11 : decode cX6_leap 11 = .ok (.aload_n 0, 1) := by decide +kernel
theorem dX6_leap_12 : decode cX6_leap 12 = .ok (.aload_n 0, 1) := by decide +kernel
theorem dX6_leap_13 : decode cX6_leap 13 = .ok (.getfield 12, 3) := by decide +kernel
theorem dX6_leap_16 : decode cX6_leap 16 = .ok (.iload_n 1, 1) := by decide +kernel
theorem dX6_leap_17 : decode cX6_leap 17 = .ok (.iload_n 2, 1) := by decide +kernel
theorem dX6_leap_18 : decode cX6_leap 18 = .ok (.invokevirtual 59, 3) := by decide +kernel
theorem dX6_leap_21 : decode cX6_leap 21 = .ok (.invokevirtual 52, 3) := by decide +kernel
theorem dX6_leap_24 : decode cX6_leap 24 = .ok (.ireturn, 1) := by decide +kernel
theorem dX6_nap_0 : decode cX6_nap 0 = .ok (.aload_n 0, 1) := by decide +kernel
theorem dX6_nap_1 : decode cX6_nap 1 = .ok (.getfield 22, 3) := by decide +kernel
theorem dX6_nap_4 : decode cX6_nap 4 = .ok (.aload_n 0, 1) := by decide +kernel
theorem dX6_nap_5 : decode cX6_nap 5 = .ok (.getfield 12, 3) := by decide +kernel
theorem dX6_nap_8 : decode cX6_nap 8 = .ok (.invokevirtual 44, 3) := by decide +kernel
theorem dX6_nap_11 : decode cX6_nap 11 = .ok (.aload_n 0, 1) := by decide +kernel
theorem dX6_nap_12 : decode cX6_nap 12 = .ok (.aload_n 0, 1) := by decide +kernel
theorem dX6_nap_13 : decode cX6_nap 13 = .ok (.getfield 12, 3) := by decide +kernel
theorem dX6_nap_16 : decode cX6_nap 16 = .ok (.iload_n 1, 1) := by decide +kernel
theorem dX6_nap_17 : decode cX6_nap 17 = .ok (.invokevirtual 62, 3) := by decide +kernel
theorem dX6_nap_20 : decode cX6_nap 20 = .ok (.invokevirtual 52, 3) := by decide +kernel
theorem dX6_nap_23 : decode cX6_nap 23 = .ok (.ireturn, 1) := by decide +kernel
theorem dX6_snip_0 : decode cX6_snip 0 = .ok (.aload_n 0, 1) := by decide +kernel
theorem dX6_snip_1 : decode cX6_snip 1 = .ok (.getfield 22, 3) := by decide +kernel
theorem dX6_snip_4 : decode cX6_snip 4 = .ok (.aload_n 0, 1) := by decide +kernel
theorem dX6_snip_5 : decode cX6_snip 5 = .ok (.getfield 12, 3) := by decide +kernel
theorem dX6_snip_8 : decode cX6_snip 8 = .ok (.invokevirtual 44, 3) := by decide +kernel
theorem dX6_snip_11 : decode cX6_snip 11 = .ok (.aload_n 0, 1) := by decide +kernel
theorem dX6_snip_12 : decode cX6_snip 12 = .ok (.aload_n 0, 1) := by decide +kernel
theorem dX6_snip_13 : decode cX6_snip 13 = .ok (.getfield 12, 3) := by decide +kernel
theorem dX6_snip_16 : decode cX6_snip 16 = .ok (.iload_n 1, 1) := by decide +kernel
theorem dX6_snip_17 : decode cX6_snip 17 = .ok (.iload_n 2, 1) := by decide +kernel
theorem dX6_snip_18 : decode cX6_snip 18 = .ok (.invokevirtual 65, 3) := by decide +kernel
theorem dX6_snip_21 : decode cX6_snip 21 = .ok (.invokevirtual 52, 3) := by decide +kernel
theorem dX6_snip_24 : decode cX6_snip 24 = .ok (.ireturn, 1) := by decide +kernel
theorem dX6_plan_0 : decode cX6_plan 0 = .ok (.aload_n 0, 1) := by decide +kernel
theorem dX6_plan_1 : decode cX6_plan 1 = .ok (.getfield 22, 3) := by decide +kernel
theorem dX6_plan_4 : decode cX6_plan 4 = .ok (.aload_n 0, 1) := by decide +kernel
theorem dX6_plan_5 : decode cX6_plan 5 = .ok (.getfield 12, 3) := by decide +kernel
theorem dX6_plan_8 : decode cX6_plan 8 = .ok (.invokevirtual 44, 3) := by decide +kernel
theorem dX6_plan_11 : decode cX6_plan 11 = .ok (.aload_n 0, 1) := by decide +kernel
theorem dX6_plan_12 : decode cX6_plan 12 = .ok (.aload_n 0, 1) := by decide +kernel
theorem dX6_plan_13 : decode cX6_plan 13 = .ok (.getfield 12, 3) := by decide +kernel
theorem dX6_plan_16 : decode cX6_plan 16 = .ok (.iload_n 1, 1) := by decide +kernel
theorem dX6_plan_17 : decode cX6_plan 17 = .ok (.iload_n 2, 1) := by decide +kernel
theorem dX6_plan_18 : decode cX6_plan 18 = .ok (.iload_n 3, 1) := by decide +kernel
theorem dX6_plan_19 : decode cX6_plan 19 = .ok (.invokevirtual 68, 3) := by decide +kernel
theorem dX6_plan_22 : decode cX6_plan 22 = .ok (.invokevirtual 52, 3) := by decide +kernel
theorem dX6_plan_25 : decode cX6_plan 25 = .ok (.ireturn, 1) := by decide +kernel
theorem dX6_pass_0 : decode cX6_pass 0 = .ok (.aload_n 0, 1) := by decide +kernel
theorem dX6_pass_1 : decode cX6_pass 1 = .ok (.getfield 22, 3) := by decide +kernel
theorem dX6_pass_4 : decode cX6_pass 4 = .ok (.aload_n 0, 1) := by decide +kernel
theorem dX6_pass_5 : decode cX6_pass 5 = .ok (.getfield 12, 3) := by decide +kernel
theorem dX6_pass_8 : decode cX6_pass 8 = .ok (.invokevirtual 44, 3) := by decide +kernel
theorem dX6_pass_11 : decode cX6_pass 11 = .ok (.aload_n 0, 1) := by decide +kernel
theorem dX6_pass_12 : decode cX6_pass 12 = .ok (.aload_n 0, 1) := by decide +kernel
theorem dX6_pass_13 : decode cX6_pass 13 = .ok (.getfield 12, 3) := by decide +kernel
theorem dX6_pass_16 : decode cX6_pass 16 = .ok (.iload_n 1, 1) := by decide +kernel
theorem dX6_pass_17 : decode cX6_pass 17 = .ok (.invokevirtual 72, 3) := by decide +kernel
theorem dX6_pass_20 : decode cX6_pass 20 = .ok (.invokevirtual 52, 3) := by decide +kernel
theorem dX6_pass_23 : decode cX6_pass 23 = .ok (.ireturn, 1) := by decide +kernel
theorem dX6_of_0 : decode cX6_of 0 = .ok (.aload_n 0, 1) := by decide +kernel
theorem dX6_of_1 : decode cX6_of 1 = .ok (.getfield 12, 3) := by decide +kernel
theorem dX6_of_4 : decode cX6_of 4 = .ok (.iload_n 1, 1) := by decide +kernel
theorem dX6_of_5 : decode cX6_of 5 = .ok (.invokevirtual 75, 3) := by decide +kernel
theorem dX6_of_8 : decode cX6_of 8 = .ok (.ifCond .ne 5, 3) := by decide +kernel
theorem dX6_of_11 : decode cX6_of 11 = .ok (.iconst (-1), 1) := by decide +kernel
theorem dX6_of_12 : decode cX6_of 12 = .ok (.ireturn, 1) := by decide +kernel
theorem dX6_of_13 : decode cX6_of 13 = .ok (.iload_n 2, 1) := by decide +kernel
theorem dX6_of_14 : decode cX6_of 14 = .ok (.tableswitch 154 0 9 #[54, 64, 74, 84, 94, 106, 116, 126, 136, 145], 54) := by decide +kernel
theorem dX6_of_68 : decode cX6_of 68 = .ok (.aload_n 0, 1) := by decide +kernel
theorem dX6_of_69 : decode cX6_of 69 = .ok (.getfield 12, 3) := by decide +kernel
theorem dX6_of_72 : decode cX6_of 72 = .ok (.getfield 79, 3) := by decide +kernel
theorem dX6_of_75 : decode cX6_of 75 = .ok (.iload_n 1, 1) := by decide +kernel
theorem dX6_of_76 : decode cX6_of 76 = .ok (.iaload, 1) := by decide +kernel
theorem dX6_of_77 : decode cX6_of 77 = .ok (.ireturn, 1) := by decide +kernel
theorem dX6_of_78 : decode cX6_of 78 = .ok (.aload_n 0, 1) := by decide +kernel
theorem dX6_of_79 : decode cX6_of 79 = .ok (.getfield 12, 3) := by decide +kernel
theorem dX6_of_82 : decode cX6_of 82 = .ok (.getfield 83, 3) := by decide +kernel
theorem dX6_of_85 : decode cX6_of 85 = .ok (.iload_n 1, 1) := by decide +kernel
theorem dX6_of_86 : decode cX6_of 86 = .ok (.iaload, 1) := by decide +kernel
theorem dX6_of_87 : decode cX6_of 87 = .ok (.ireturn, 1) := by decide +kernel
theorem dX6_of_88 : decode cX6_of 88 = .ok (.aload_n 0, 1) := by decide +kernel
theorem dX6_of_89 : decode cX6_of 89 = .ok (.getfield 12, 3) := by decide +kernel
theorem dX6_of_92 : decode cX6_of 92 = .ok (.getfield 86, 3) := by decide +kernel
theorem dX6_of_95 : decode cX6_of 95 = .ok (.iload_n 1, 1) := by decide +kernel
theorem dX6_of_96 : decode cX6_of 96 = .ok (.iaload, 1) := by decide +kernel
theorem dX6_of_97 : decode cX6_of 97 = .ok (.ireturn, 1) := by decide +kernel
theorem dX6_of_98 : decode cX6_of 98 = .ok (.aload_n 0, 1) := by decide +kernel
theorem dX6_of_99 : decode cX6_of 99 = .ok (.getfield 12, 3) := by decide +kernel
theorem dX6_of_102 : decode cX6_of 102 = .ok (.getfield 89, 3) := by decide +kernel
theorem dX6_of_105 : decode cX6_of 105 = .ok (.iload_n 1, 1) := by decide +kernel
theorem dX6_of_106 : decode cX6_of 106 = .ok (.iaload, 1) := by decide +kernel
theorem dX6_of_107 : decode cX6_of 107 = .ok (.ireturn, 1) := by decide +kernel
theorem dX6_of_108 : decode cX6_of 108 = .ok (.aload_n 0, 1) := by decide +kernel
theorem dX6_of_109 : decode cX6_of 109 = .ok (.getfield 12, 3) := by decide +kernel
theorem dX6_of_112 : decode cX6_of 112 = .ok (.getfield 92, 3) := by decide +kernel
theorem dX6_of_115 : decode cX6_of 115 = .ok (.iload_n 1, 1) := by decide +kernel
theorem dX6_of_116 : decode cX6_of 116 = .ok (.invokevirtual 96, 3) := by decide +kernel
theorem dX6_of_119 : decode cX6_of 119 = .ok (.ireturn, 1) := by decide +kernel
theorem dX6_of_120 : decode cX6_of 120 = .ok (.aload_n 0, 1) := by decide +kernel
theorem dX6_of_121 : decode cX6_of 121 = .ok (.getfield 12, 3) := by decide +kernel
theorem dX6_of_124 : decode cX6_of 124 = .ok (.getfield 101, 3) := by decide +kernel
theorem dX6_of_127 : decode cX6_of 127 = .ok (.iload_n 1, 1) := by decide +kernel
theorem dX6_of_128 : decode cX6_of 128 = .ok (.iaload, 1) := by decide +kernel
theorem dX6_of_129 : decode cX6_of 129 = .ok (.ireturn, 1) := by decide +kernel
theorem dX6_of_130 : decode cX6_of 130 = .ok (.aload_n 0, 1) := by decide +kernel
theorem dX6_of_131 : decode cX6_of 131 = .ok (.getfield 12, 3) := by decide +kernel
theorem dX6_of_134 : decode cX6_of 134 = .ok (.getfield 104, 3) := by decide +kernel
theorem dX6_of_137 : decode cX6_of 137 = .ok (.iload_n 1, 1) := by decide +kernel
theorem dX6_of_138 : decode cX6_of 138 = .ok (.iaload, 1) := by decide +kernel
theorem dX6_of_139 : decode cX6_of 139 = .ok (.ireturn, 1) := by decide +kernel
theorem dX6_of_140 : decode cX6_of 140 = .ok (.aload_n 0, 1) := by decide +kernel
theorem dX6_of_141 : decode cX6_of 141 = .ok (.getfield 12, 3) := by decide +kernel
theorem dX6_of_144 : decode cX6_of 144 = .ok (.getfield 107, 3) := by decide +kernel
theorem dX6_of_147 : decode cX6_of 147 = .ok (.iload_n 1, 1) := by decide +kernel
theorem dX6_of_148 : decode cX6_of 148 = .ok (.iaload, 1) := by decide +kernel
theorem dX6_of_149 : decode cX6_of 149 = .ok (.ireturn, 1) := by decide +kernel
theorem dX6_of_150 : decode cX6_of 150 = .ok (.aload_n 0, 1) := by decide +kernel
theorem dX6_of_151 : decode cX6_of 151 = .ok (.getfield 12, 3) := by decide +kernel
theorem dX6_of_154 : decode cX6_of 154 = .ok (.iload_n 1, 1) := by decide +kernel
theorem dX6_of_155 : decode cX6_of 155 = .ok (.invokevirtual 110, 3) := by decide +kernel
theorem dX6_of_158 : decode cX6_of 158 = .ok (.ireturn, 1) := by decide +kernel
theorem dX6_of_159 : decode cX6_of 159 = .ok (.aload_n 0, 1) := by decide +kernel
theorem dX6_of_160 : decode cX6_of 160 = .ok (.getfield 12, 3) := by decide +kernel
theorem dX6_of_163 : decode cX6_of 163 = .ok (.iload_n 1, 1) := by decide +kernel
theorem dX6_of_164 : decode cX6_of 164 = .ok (.invokevirtual 113, 3) := by decide +kernel
theorem dX6_of_167 : decode cX6_of 167 = .ok (.ireturn, 1) := by decide +kernel
theorem dX6_of_168 : decode cX6_of 168 = .ok (.bipush (-2), 2) := by decide +kernel
theorem dX6_of_170 : decode cX6_of 170 = .ok (.ireturn, 1) := by decide +kernel
theorem dX6_ofEdge_0 : decode cX6_ofEdge 0 = .ok (.iload_n 1, 1) := by decide +kernel
theorem dX6_ofEdge_1 : decode cX6_ofEdge 1 = .ok (.invokestatic 116, 3) := by decide +kernel
theorem dX6_ofEdge_4 : decode cX6_ofEdge 4 = .ok (.ifCond .ne 5, 3) := by decide +kernel
theorem dX6_ofEdge_7 : decode cX6_ofEdge 7 = .ok (.iconst (-1), 1) := by decide +kernel
theorem dX6_ofEdge_8 : decode cX6_ofEdge 8 = .ok (.ireturn, 1) := by decide +kernel
theorem dX6_ofEdge_9 : decode cX6_ofEdge 9 = .ok (.iload_n 2, 1) := by decide +kernel
theorem dX6_ofEdge_10 : decode cX6_ofEdge 10 = .ok (.tableswitch 77 0 3 #[30, 42, 54, 66], 30) := by decide +kernel
theorem dX6_ofEdge_40 : decode cX6_ofEdge 40 = .ok (.aload_n 0, 1) := by decide +kernel
theorem dX6_ofEdge_41 : decode cX6_ofEdge 41 = .ok (.getfield 12, 3) := by decide +kernel
theorem dX6_ofEdge_44 : decode cX6_ofEdge 44 = .ok (.getfield 92, 3) := by decide +kernel
theorem dX6_ofEdge_47 : decode cX6_ofEdge 47 = .ok (.iload_n 1, 1) := by decide +kernel
theorem dX6_ofEdge_48 : decode cX6_ofEdge 48 = .ok (.invokevirtual 119, 3) := by decide +kernel
theorem dX6_ofEdge_51 : decode cX6_ofEdge 51 = .ok (.ireturn, 1) := by decide +kernel
theorem dX6_ofEdge_52 : decode cX6_ofEdge 52 = .ok (.aload_n 0, 1) := by decide +kernel
theorem dX6_ofEdge_53 : decode cX6_ofEdge 53 = .ok (.getfield 12, 3) := by decide +kernel
theorem dX6_ofEdge_56 : decode cX6_ofEdge 56 = .ok (.getfield 92, 3) := by decide +kernel
theorem dX6_ofEdge_59 : decode cX6_ofEdge 59 = .ok (.iload_n 1, 1) := by decide +kernel
theorem dX6_ofEdge_60 : decode cX6_ofEdge 60 = .ok (.invokevirtual 122, 3) := by decide +kernel
theorem dX6_ofEdge_63 : decode cX6_ofEdge 63 = .ok (.ireturn, 1) := by decide +kernel
theorem dX6_ofEdge_64 : decode cX6_ofEdge 64 = .ok (.aload_n 0, 1) := by decide +kernel
theorem dX6_ofEdge_65 : decode cX6_ofEdge 65 = .ok (.getfield 12, 3) := by decide +kernel
theorem dX6_ofEdge_68 : decode cX6_ofEdge 68 = .ok (.getfield 92, 3) := by decide +kernel
theorem dX6_ofEdge_71 : decode cX6_ofEdge 71 = .ok (.iload_n 1, 1) := by decide +kernel
theorem dX6_ofEdge_72 : decode cX6_ofEdge 72 = .ok (.invokevirtual 125, 3) := by decide +kernel
theorem dX6_ofEdge_75 : decode cX6_ofEdge 75 = .ok (.ireturn, 1) := by decide +kernel
theorem dX6_ofEdge_76 : decode cX6_ofEdge 76 = .ok (.aload_n 0, 1) := by decide +kernel
theorem dX6_ofEdge_77 : decode cX6_ofEdge 77 = .ok (.getfield 12, 3) := by decide +kernel
theorem dX6_ofEdge_80 : decode cX6_ofEdge 80 = .ok (.iconst 1, 1) := by decide +kernel
theorem dX6_ofEdge_81 : decode cX6_ofEdge 81 = .ok (.iload_n 1, 1) := by decide +kernel
theorem dX6_ofEdge_82 : decode cX6_ofEdge 82 = .ok (.ishl, 1) := by decide +kernel
theorem dX6_ofEdge_83 : decode cX6_ofEdge 83 = .ok (.invokevirtual 128, 3) := by decide +kernel
theorem dX6_ofEdge_86 : decode cX6_ofEdge 86 = .ok (.ireturn, 1) := by decide +kernel
theorem dX6_ofEdge_87 : decode cX6_ofEdge 87 = .ok (.bipush (-2), 2) := by decide +kernel
theorem dX6_ofEdge_89 : decode cX6_ofEdge 89 = .ok (.ireturn, 1) := by decide +kernel
theorem dX6_strand_0 : decode cX6_strand 0 = .ok (.iload_n 1, 1) := by decide +kernel
theorem dX6_strand_1 : decode cX6_strand 1 = .ok (.invokestatic 116, 3) := by decide +kernel
theorem dX6_strand_4 : decode cX6_strand 4 = .ok (.ifCond .ne 5, 3) := by decide +kernel
theorem dX6_strand_7 : decode cX6_strand 7 = .ok (.iconst (-1), 1) := by decide +kernel
theorem dX6_strand_8 : decode cX6_strand 8 = .ok (.ireturn, 1) := by decide +kernel
theorem dX6_strand_9 : decode cX6_strand 9 = .ok (.aload_n 0, 1) := by decide +kernel
theorem dX6_strand_10 : decode cX6_strand 10 = .ok (.getfield 12, 3) := by decide +kernel
theorem dX6_strand_13 : decode cX6_strand 13 = .ok (.getfield 92, 3) := by decide +kernel
theorem dX6_strand_16 : decode cX6_strand 16 = .ok (.iload_n 1, 1) := by decide +kernel
theorem dX6_strand_17 : decode cX6_strand 17 = .ok (.iload_n 2, 1) := by decide +kernel
theorem dX6_strand_18 : decode cX6_strand 18 = .ok (.invokevirtual 131, 3) := by decide +kernel
theorem dX6_strand_21 : decode cX6_strand 21 = .ok (.ireturn, 1) := by decide +kernel
theorem dX6_bound_0 : decode cX6_bound 0 = .ok (.aload_n 0, 1) := by decide +kernel
theorem dX6_bound_1 : decode cX6_bound 1 = .ok (.getfield 12, 3) := by decide +kernel
theorem dX6_bound_4 : decode cX6_bound 4 = .ok (.iload_n 1, 1) := by decide +kernel
theorem dX6_bound_5 : decode cX6_bound 5 = .ok (.invokevirtual 75, 3) := by decide +kernel
theorem dX6_bound_8 : decode cX6_bound 8 = .ok (.ifCond .eq 14, 3) := by decide +kernel
theorem dX6_bound_11 : decode cX6_bound 11 = .ok (.aload_n 0, 1) := by decide +kernel
theorem dX6_bound_12 : decode cX6_bound 12 = .ok (.getfield 12, 3) := by decide +kernel
theorem dX6_bound_15 : decode cX6_bound 15 = .ok (.iload_n 2, 1) := by decide +kernel
theorem dX6_bound_16 : decode cX6_bound 16 = .ok (.invokevirtual 75, 3) := by decide +kernel
theorem dX6_bound_19 : decode cX6_bound 19 = .ok (.ifCond .ne 5, 3) := by decide +kernel
theorem dX6_bound_22 : decode cX6_bound 22 = .ok (.iconst (-1), 1) := by decide +kernel
theorem dX6_bound_23 : decode cX6_bound 23 = .ok (.ireturn, 1) := by decide +kernel
theorem dX6_bound_24 : decode cX6_bound 24 = .ok (.iload_n 1, 1) := by decide +kernel
theorem dX6_bound_25 : decode cX6_bound 25 = .ok (.iload_n 2, 1) := by decide +kernel
theorem dX6_bound_26 : decode cX6_bound 26 = .ok (.if_icmp .ne 6, 3) := by decide +kernel
theorem dX6_bound_29 : decode cX6_bound 29 = .ok (.bipush (-2), 2) := by decide +kernel
theorem dX6_bound_31 : decode cX6_bound 31 = .ok (.ireturn, 1) := by decide +kernel
theorem dX6_bound_32 : decode cX6_bound 32 = .ok (.aload_n 0, 1) := by decide +kernel
theorem dX6_bound_33 : decode cX6_bound 33 = .ok (.getfield 12, 3) := by decide +kernel
theorem dX6_bound_36 : decode cX6_bound 36 = .ok (.getfield 92, 3) := by decide +kernel
theorem dX6_bound_39 : decode cX6_bound 39 = .ok (.iload_n 1, 1) := by decide +kernel
theorem dX6_bound_40 : decode cX6_bound 40 = .ok (.iload_n 2, 1) := by decide +kernel
theorem dX6_bound_41 : decode cX6_bound 41 = .ok (.invokevirtual 134, 3) := by decide +kernel
theorem dX6_bound_44 : decode cX6_bound 44 = .ok (.ireturn, 1) := by decide +kernel
theorem dX6_planned_0 : decode cX6_planned 0 = .ok (.iload_n 1, 1) := by decide +kernel
theorem dX6_planned_1 : decode cX6_planned 1 = .ok (.ifCond .lt 17, 3) := by decide +kernel
theorem dX6_planned_4 : decode cX6_planned 4 = .ok (.iload_n 1, 1) := by decide +kernel
theorem dX6_planned_5 : decode cX6_planned 5 = .ok (.aload_n 0, 1) := by decide +kernel
theorem dX6_planned_6 : decode cX6_planned 6 = .ok (.getfield 12, 3) := by decide +kernel
theorem dX6_planned_9 : decode cX6_planned 9 = .ok (.getfield 137, 3) := by decide +kernel
theorem dX6_planned_12 : decode cX6_planned 12 = .ok (.getfield 141, 3) := by decide +kernel
theorem dX6_planned_15 : decode cX6_planned 15 = .ok (.if_icmp .lt 5, 3) := by decide +kernel
theorem dX6_planned_18 : decode cX6_planned 18 = .ok (.iconst (-1), 1) := by decide +kernel
theorem dX6_planned_19 : decode cX6_planned 19 = .ok (.ireturn, 1) := by decide +kernel
theorem dX6_planned_20 : decode cX6_planned 20 = .ok (.iload_n 2, 1) := by decide +kernel
theorem dX6_planned_21 : decode cX6_planned 21 = .ok (.tableswitch 69 0 2 #[27, 40, 53], 27) := by decide +kernel
theorem dX6_planned_48 : decode cX6_planned 48 = .ok (.aload_n 0, 1) := by decide +kernel
theorem dX6_planned_49 : decode cX6_planned 49 = .ok (.getfield 12, 3) := by decide +kernel
theorem dX6_planned_52 : decode cX6_planned 52 = .ok (.getfield 137, 3) := by decide +kernel
theorem dX6_planned_55 : decode cX6_planned 55 = .ok (.getfield 147, 3) := by decide +kernel
theorem dX6_planned_58 : decode cX6_planned 58 = .ok (.iload_n 1, 1) := by decide +kernel
theorem dX6_planned_59 : decode cX6_planned 59 = .ok (.iaload, 1) := by decide +kernel
theorem dX6_planned_60 : decode cX6_planned 60 = .ok (.ireturn, 1) := by decide +kernel
theorem dX6_planned_61 : decode cX6_planned 61 = .ok (.aload_n 0, 1) := by decide +kernel
theorem dX6_planned_62 : decode cX6_planned 62 = .ok (.getfield 12, 3) := by decide +kernel
theorem dX6_planned_65 : decode cX6_planned 65 = .ok (.getfield 137, 3) := by decide +kernel
theorem dX6_planned_68 : decode cX6_planned 68 = .ok (.getfield 150, 3) := by decide +kernel
theorem dX6_planned_71 : decode cX6_planned 71 = .ok (.iload_n 1, 1) := by decide +kernel
theorem dX6_planned_72 : decode cX6_planned 72 = .ok (.iaload, 1) := by decide +kernel
theorem dX6_planned_73 : decode cX6_planned 73 = .ok (.ireturn, 1) := by decide +kernel
theorem dX6_planned_74 : decode cX6_planned 74 = .ok (.aload_n 0, 1) := by decide +kernel
theorem dX6_planned_75 : decode cX6_planned 75 = .ok (.getfield 12, 3) := by decide +kernel
theorem dX6_planned_78 : decode cX6_planned 78 = .ok (.getfield 137, 3) := by decide +kernel
theorem dX6_planned_81 : decode cX6_planned 81 = .ok (.getfield 153, 3) := by decide +kernel
theorem dX6_planned_84 : decode cX6_planned 84 = .ok (.iload_n 1, 1) := by decide +kernel
theorem dX6_planned_85 : decode cX6_planned 85 = .ok (.iaload, 1) := by decide +kernel
theorem dX6_planned_86 : decode cX6_planned 86 = .ok (.bipush 100, 2) := by decide +kernel
theorem dX6_planned_88 : decode cX6_planned 88 = .ok (.iadd, 1) := by decide +kernel
theorem dX6_planned_89 : decode cX6_planned 89 = .ok (.ireturn, 1) := by decide +kernel
theorem dX6_planned_90 : decode cX6_planned 90 = .ok (.bipush (-2), 2) := by decide +kernel
theorem dX6_planned_92 : decode cX6_planned 92 = .ok (.ireturn, 1) := by decide +kernel
theorem dX6_count_0 : decode cX6_count 0 = .ok (.iload_n 1, 1) := by decide +kernel
theorem dX6_count_1 : decode cX6_count 1 = .ok (.tableswitch 257 0 16 #[83, 91, 99, 107, 118, 133, 148, 163, 174, 182, 190, 201, 211, 221, 231, 241, 249], 83) := by decide +kernel
theorem dX6_count_84 : decode cX6_count 84 = .ok (.aload_n 0, 1) := by decide +kernel
theorem dX6_count_85 : decode cX6_count 85 = .ok (.getfield 12, 3) := by decide +kernel
theorem dX6_count_88 : decode cX6_count 88 = .ok (.getfield 156, 3) := by decide +kernel
theorem dX6_count_91 : decode cX6_count 91 = .ok (.ireturn, 1) := by decide +kernel
theorem dX6_count_92 : decode cX6_count 92 = .ok (.aload_n 0, 1) := by decide +kernel
theorem dX6_count_93 : decode cX6_count 93 = .ok (.getfield 12, 3) := by decide +kernel
theorem dX6_count_96 : decode cX6_count 96 = .ok (.getfield 159, 3) := by decide +kernel
theorem dX6_count_99 : decode cX6_count 99 = .ok (.ireturn, 1) := by decide +kernel
theorem dX6_count_100 : decode cX6_count 100 = .ok (.aload_n 0, 1) := by decide +kernel
theorem dX6_count_101 : decode cX6_count 101 = .ok (.getfield 12, 3) := by decide +kernel
theorem dX6_count_104 : decode cX6_count 104 = .ok (.invokevirtual 161, 3) := by decide +kernel
theorem dX6_count_107 : decode cX6_count 107 = .ok (.ireturn, 1) := by decide +kernel
theorem dX6_count_108 : decode cX6_count 108 = .ok (.aload_n 0, 1) := by decide +kernel
theorem dX6_count_109 : decode cX6_count 109 = .ok (.getfield 12, 3) := by decide +kernel
theorem dX6_count_112 : decode cX6_count 112 = .ok (.getfield 92, 3) := by decide +kernel
theorem dX6_count_115 : decode cX6_count 115 = .ok (.getfield 165, 3) := by decide +kernel
theorem dX6_count_118 : decode cX6_count 118 = .ok (.ireturn, 1) := by decide +kernel
theorem dX6_count_119 : decode cX6_count 119 = .ok (.aload_n 0, 1) := by decide +kernel
theorem dX6_count_120 : decode cX6_count 120 = .ok (.getfield 12, 3) := by decide +kernel
theorem dX6_count_123 : decode cX6_count 123 = .ok (.aload_n 0, 1) := by decide +kernel
theorem dX6_count_124 : decode cX6_count 124 = .ok (.getfield 12, 3) := by decide +kernel
theorem dX6_count_127 : decode cX6_count 127 = .ok (.getfield 101, 3) := by decide +kernel
theorem dX6_count_130 : decode cX6_count 130 = .ok (.invokevirtual 168, 3) := by decide +kernel
theorem dX6_count_133 : decode cX6_count 133 = .ok (.ireturn, 1) := by decide +kernel
theorem dX6_count_134 : decode cX6_count 134 = .ok (.aload_n 0, 1) := by decide +kernel
theorem dX6_count_135 : decode cX6_count 135 = .ok (.getfield 12, 3) := by decide +kernel
theorem dX6_count_138 : decode cX6_count 138 = .ok (.aload_n 0, 1) := by decide +kernel
theorem dX6_count_139 : decode cX6_count 139 = .ok (.getfield 12, 3) := by decide +kernel
theorem dX6_count_142 : decode cX6_count 142 = .ok (.getfield 104, 3) := by decide +kernel
theorem dX6_count_145 : decode cX6_count 145 = .ok (.invokevirtual 168, 3) := by decide +kernel
theorem dX6_count_148 : decode cX6_count 148 = .ok (.ireturn, 1) := by decide +kernel
theorem dX6_count_149 : decode cX6_count 149 = .ok (.aload_n 0, 1) := by decide +kernel
theorem dX6_count_150 : decode cX6_count 150 = .ok (.getfield 12, 3) := by decide +kernel
theorem dX6_count_153 : decode cX6_count 153 = .ok (.aload_n 0, 1) := by decide +kernel
theorem dX6_count_154 : decode cX6_count 154 = .ok (.getfield 12, 3) := by decide +kernel
theorem dX6_count_157 : decode cX6_count 157 = .ok (.getfield 107, 3) := by decide +kernel
theorem dX6_count_160 : decode cX6_count 160 = .ok (.invokevirtual 168, 3) := by decide +kernel
theorem dX6_count_163 : decode cX6_count 163 = .ok (.ireturn, 1) := by decide +kernel
theorem dX6_count_164 : decode cX6_count 164 = .ok (.aload_n 0, 1) := by decide +kernel
theorem dX6_count_165 : decode cX6_count 165 = .ok (.getfield 12, 3) := by decide +kernel
theorem dX6_count_168 : decode cX6_count 168 = .ok (.sipush 32767, 3) := by decide +kernel
theorem dX6_count_171 : decode cX6_count 171 = .ok (.invokevirtual 128, 3) := by decide +kernel
theorem dX6_count_174 : decode cX6_count 174 = .ok (.ireturn, 1) := by decide +kernel
theorem dX6_count_175 : decode cX6_count 175 = .ok (.aload_n 0, 1) := by decide +kernel
theorem dX6_count_176 : decode cX6_count 176 = .ok (.getfield 12, 3) := by decide +kernel
theorem dX6_count_179 : decode cX6_count 179 = .ok (.getfield 172, 3) := by decide +kernel
theorem dX6_count_182 : decode cX6_count 182 = .ok (.ireturn, 1) := by decide +kernel
theorem dX6_count_183 : decode cX6_count 183 = .ok (.aload_n 0, 1) := by decide +kernel
theorem dX6_count_184 : decode cX6_count 184 = .ok (.getfield 12, 3) := by decide +kernel
theorem dX6_count_187 : decode cX6_count 187 = .ok (.getfield 175, 3) := by decide +kernel
theorem dX6_count_190 : decode cX6_count 190 = .ok (.ireturn, 1) := by decide +kernel
theorem dX6_count_191 : decode cX6_count 191 = .ok (.aload_n 0, 1) := by decide +kernel
theorem dX6_count_192 : decode cX6_count 192 = .ok (.getfield 12, 3) := by decide +kernel
theorem dX6_count_195 : decode cX6_count 195 = .ok (.getfield 137, 3) := by decide +kernel
theorem dX6_count_198 : decode cX6_count 198 = .ok (.getfield 141, 3) := by decide +kernel
theorem dX6_count_201 : decode cX6_count 201 = .ok (.ireturn, 1) := by decide +kernel
theorem dX6_count_202 : decode cX6_count 202 = .ok (.aload_n 0, 1) := by decide +kernel
theorem dX6_count_203 : decode cX6_count 203 = .ok (.getfield 12, 3) := by decide +kernel
theorem dX6_count_206 : decode cX6_count 206 = .ok (.getfield 178, 3) := by decide +kernel
theorem dX6_count_209 : decode cX6_count 209 = .ok (.iconst 0, 1) := by decide +kernel
theorem dX6_count_210 : decode cX6_count 210 = .ok (.iaload, 1) := by decide +kernel
theorem dX6_count_211 : decode cX6_count 211 = .ok (.ireturn, 1) := by decide +kernel
theorem dX6_count_212 : decode cX6_count 212 = .ok (.aload_n 0, 1) := by decide +kernel
theorem dX6_count_213 : decode cX6_count 213 = .ok (.getfield 12, 3) := by decide +kernel
theorem dX6_count_216 : decode cX6_count 216 = .ok (.getfield 178, 3) := by decide +kernel
theorem dX6_count_219 : decode cX6_count 219 = .ok (.iconst 1, 1) := by decide +kernel
theorem dX6_count_220 : decode cX6_count 220 = .ok (.iaload, 1) := by decide +kernel
theorem dX6_count_221 : decode cX6_count 221 = .ok (.ireturn, 1) := by decide +kernel
theorem dX6_count_222 : decode cX6_count 222 = .ok (.aload_n 0, 1) := by decide +kernel
theorem dX6_count_223 : decode cX6_count 223 = .ok (.getfield 12, 3) := by decide +kernel
theorem dX6_count_226 : decode cX6_count 226 = .ok (.getfield 178, 3) := by decide +kernel
theorem dX6_count_229 : decode cX6_count 229 = .ok (.iconst 2, 1) := by decide +kernel
theorem dX6_count_230 : decode cX6_count 230 = .ok (.iaload, 1) := by decide +kernel
theorem dX6_count_231 : decode cX6_count 231 = .ok (.ireturn, 1) := by decide +kernel
theorem dX6_count_232 : decode cX6_count 232 = .ok (.aload_n 0, 1) := by decide +kernel
theorem dX6_count_233 : decode cX6_count 233 = .ok (.getfield 12, 3) := by decide +kernel
theorem dX6_count_236 : decode cX6_count 236 = .ok (.getfield 178, 3) := by decide +kernel
theorem dX6_count_239 : decode cX6_count 239 = .ok (.iconst 3, 1) := by decide +kernel
theorem dX6_count_240 : decode cX6_count 240 = .ok (.iaload, 1) := by decide +kernel
theorem dX6_count_241 : decode cX6_count 241 = .ok (.ireturn, 1) := by decide +kernel
theorem dX6_count_242 : decode cX6_count 242 = .ok (.aload_n 0, 1) := by decide +kernel
theorem dX6_count_243 : decode cX6_count 243 = .ok (.getfield 33, 3) := by decide +kernel
theorem dX6_count_246 : decode cX6_count 246 = .ok (.getfield 181, 3) := by decide +kernel
theorem dX6_count_249 : decode cX6_count 249 = .ok (.ireturn, 1) := by decide +kernel
theorem dX6_count_250 : decode cX6_count 250 = .ok (.aload_n 0, 1) := by decide +kernel
theorem dX6_count_251 : decode cX6_count 251 = .ok (.getfield 22, 3) := by decide +kernel
theorem dX6_count_254 : decode cX6_count 254 = .ok (.getfield 184, 3) := by decide +kernel
theorem dX6_count_257 : decode cX6_count 257 = .ok (.ireturn, 1) := by decide +kernel
theorem dX6_count_258 : decode cX6_count 258 = .ok (.bipush (-2), 2) := by decide +kernel
theorem dX6_count_260 : decode cX6_count 260 = .ok (.ireturn, 1) := by decide +kernel
theorem dX6_why_0 : decode cX6_why 0 = .ok (.aload_n 0, 1) := by decide +kernel
theorem dX6_why_1 : decode cX6_why 1 = .ok (.getfield 12, 3) := by decide +kernel
theorem dX6_why_4 : decode cX6_why 4 = .ok (.iload_n 1, 1) := by decide +kernel
theorem dX6_why_5 : decode cX6_why 5 = .ok (.invokevirtual 75, 3) := by decide +kernel
theorem dX6_why_8 : decode cX6_why 8 = .ok (.ifCond .ne 5, 3) := by decide +kernel
theorem dX6_why_11 : decode cX6_why 11 = .ok (.iconst (-1), 1) := by decide +kernel
theorem dX6_why_12 : decode cX6_why 12 = .ok (.ireturn, 1) := by decide +kernel
theorem dX6_why_13 : decode cX6_why 13 = .ok (.iload_n 2, 1) := by decide +kernel
theorem dX6_why_14 : decode cX6_why 14 = .ok (.invokestatic 185, 3) := by decide +kernel
theorem dX6_why_17 : decode cX6_why 17 = .ok (.ifCond .ne 6, 3) := by decide +kernel
theorem dX6_why_20 : decode cX6_why 20 = .ok (.bipush (-2), 2) := by decide +kernel
theorem dX6_why_22 : decode cX6_why 22 = .ok (.ireturn, 1) := by decide +kernel
theorem dX6_why_23 : decode cX6_why 23 = .ok (.aload_n 0, 1) := by decide +kernel
theorem dX6_why_24 : decode cX6_why 24 = .ok (.getfield 12, 3) := by decide +kernel
theorem dX6_why_27 : decode cX6_why 27 = .ok (.iload_n 1, 1) := by decide +kernel
theorem dX6_why_28 : decode cX6_why 28 = .ok (.iload_n 2, 1) := by decide +kernel
theorem dX6_why_29 : decode cX6_why 29 = .ok (.invokevirtual 188, 3) := by decide +kernel
theorem dX6_why_32 : decode cX6_why 32 = .ok (.ireturn, 1) := by decide +kernel
theorem dX6_ifLeapt_0 : decode cX6_ifLeapt 0 = .ok (.aload_n 0, 1) := by decide +kernel
theorem dX6_ifLeapt_1 : decode cX6_ifLeapt 1 = .ok (.getfield 12, 3) := by decide +kernel
theorem dX6_ifLeapt_4 : decode cX6_ifLeapt 4 = .ok (.iload_n 1, 1) := by decide +kernel
theorem dX6_ifLeapt_5 : decode cX6_ifLeapt 5 = .ok (.invokevirtual 75, 3) := by decide +kernel
theorem dX6_ifLeapt_8 : decode cX6_ifLeapt 8 = .ok (.ifCond .ne 5, 3) := by decide +kernel
theorem dX6_ifLeapt_11 : decode cX6_ifLeapt 11 = .ok (.iconst (-1), 1) := by decide +kernel
theorem dX6_ifLeapt_12 : decode cX6_ifLeapt 12 = .ok (.ireturn, 1) := by decide +kernel
theorem dX6_ifLeapt_13 : decode cX6_ifLeapt 13 = .ok (.iload_n 2, 1) := by decide +kernel
theorem dX6_ifLeapt_14 : decode cX6_ifLeapt 14 = .ok (.invokestatic 185, 3) := by decide +kernel
theorem dX6_ifLeapt_17 : decode cX6_ifLeapt 17 = .ok (.ifCond .eq 12, 3) := by decide +kernel
theorem dX6_ifLeapt_20 : decode cX6_ifLeapt 20 = .ok (.iload_n 3, 1) := by decide +kernel
theorem dX6_ifLeapt_21 : decode cX6_ifLeapt 21 = .ok (.ifCond .lt 8, 3) := by decide +kernel
theorem dX6_ifLeapt_24 : decode cX6_ifLeapt 24 = .ok (.iload_n 3, 1) := by decide +kernel
theorem dX6_ifLeapt_25 : decode cX6_ifLeapt 25 = .ok (.iconst 3, 1) := by decide +kernel
theorem dX6_ifLeapt_26 : decode cX6_ifLeapt 26 = .ok (.if_icmp .le 6, 3) := by decide +kernel
theorem dX6_ifLeapt_29 : decode cX6_ifLeapt 29 = .ok (.bipush (-2), 2) := by decide +kernel
theorem dX6_ifLeapt_31 : decode cX6_ifLeapt 31 = .ok (.ireturn, 1) := by decide +kernel
theorem dX6_ifLeapt_32 : decode cX6_ifLeapt 32 = .ok (.aload_n 0, 1) := by decide +kernel
theorem dX6_ifLeapt_33 : decode cX6_ifLeapt 33 = .ok (.getfield 12, 3) := by decide +kernel
theorem dX6_ifLeapt_36 : decode cX6_ifLeapt 36 = .ok (.iload_n 1, 1) := by decide +kernel
theorem dX6_ifLeapt_37 : decode cX6_ifLeapt 37 = .ok (.iload_n 2, 1) := by decide +kernel
theorem dX6_ifLeapt_38 : decode cX6_ifLeapt 38 = .ok (.invokevirtual 188, 3) := by decide +kernel
theorem dX6_ifLeapt_41 : decode cX6_ifLeapt 41 = .ok (.ifCond .eq 6, 3) := by decide +kernel
theorem dX6_ifLeapt_44 : decode cX6_ifLeapt 44 = .ok (.bipush (-5), 2) := by decide +kernel
theorem dX6_ifLeapt_46 : decode cX6_ifLeapt 46 = .ok (.ireturn, 1) := by decide +kernel
theorem dX6_ifLeapt_47 : decode cX6_ifLeapt 47 = .ok (.aload_n 0, 1) := by decide +kernel
theorem dX6_ifLeapt_48 : decode cX6_ifLeapt 48 = .ok (.getfield 16, 3) := by decide +kernel
theorem dX6_ifLeapt_51 : decode cX6_ifLeapt 51 = .ok (.aload_n 0, 1) := by decide +kernel
theorem dX6_ifLeapt_52 : decode cX6_ifLeapt 52 = .ok (.getfield 12, 3) := by decide +kernel
theorem dX6_ifLeapt_55 : decode cX6_ifLeapt 55 = .ok (.invokevirtual 191, 3) := by decide +kernel
theorem dX6_ifLeapt_58 : decode cX6_ifLeapt 58 = .ok (.aload_n 0, 1) := by decide +kernel
theorem dX6_ifLeapt_59 : decode cX6_ifLeapt 59 = .ok (.getfield 16, 3) := by decide +kernel
theorem dX6_ifLeapt_62 : decode cX6_ifLeapt 62 = .ok (.iload_n 1, 1) := by decide +kernel
theorem dX6_ifLeapt_63 : decode cX6_ifLeapt 63 = .ok (.iload_n 2, 1) := by decide +kernel
theorem dX6_ifLeapt_64 : decode cX6_ifLeapt 64 = .ok (.invokevirtual 194, 3) := by decide +kernel
theorem dX6_ifLeapt_67 : decode cX6_ifLeapt 67 = .ok (.iload_n 3, 1) := by decide +kernel
theorem dX6_ifLeapt_68 : decode cX6_ifLeapt 68 = .ok (.tableswitch 88 0 2 #[28, 48, 68], 28) := by decide +kernel
theorem dX6_ifLeapt_96 : decode cX6_ifLeapt 96 = .ok (.aload_n 0, 1) := by decide +kernel
theorem dX6_ifLeapt_97 : decode cX6_ifLeapt 97 = .ok (.getfield 16, 3) := by decide +kernel
theorem dX6_ifLeapt_100 : decode cX6_ifLeapt 100 = .ok (.getfield 101, 3) := by decide +kernel
theorem dX6_ifLeapt_103 : decode cX6_ifLeapt 103 = .ok (.iload_n 1, 1) := by decide +kernel
theorem dX6_ifLeapt_104 : decode cX6_ifLeapt 104 = .ok (.iaload, 1) := by decide +kernel
theorem dX6_ifLeapt_105 : decode cX6_ifLeapt 105 = .ok (.aload_n 0, 1) := by decide +kernel
theorem dX6_ifLeapt_106 : decode cX6_ifLeapt 106 = .ok (.getfield 12, 3) := by decide +kernel
theorem dX6_ifLeapt_109 : decode cX6_ifLeapt 109 = .ok (.getfield 101, 3) := by decide +kernel
theorem dX6_ifLeapt_112 : decode cX6_ifLeapt 112 = .ok (.iload_n 1, 1) := by decide +kernel
theorem dX6_ifLeapt_113 : decode cX6_ifLeapt 113 = .ok (.iaload, 1) := by decide +kernel
theorem dX6_ifLeapt_114 : decode cX6_ifLeapt 114 = .ok (.isub, 1) := by decide +kernel
theorem dX6_ifLeapt_115 : decode cX6_ifLeapt 115 = .ok (.ireturn, 1) := by decide +kernel
theorem dX6_ifLeapt_116 : decode cX6_ifLeapt 116 = .ok (.aload_n 0, 1) := by decide +kernel
theorem dX6_ifLeapt_117 : decode cX6_ifLeapt 117 = .ok (.getfield 16, 3) := by decide +kernel
theorem dX6_ifLeapt_120 : decode cX6_ifLeapt 120 = .ok (.getfield 104, 3) := by decide +kernel
theorem dX6_ifLeapt_123 : decode cX6_ifLeapt 123 = .ok (.iload_n 1, 1) := by decide +kernel
theorem dX6_ifLeapt_124 : decode cX6_ifLeapt 124 = .ok (.iaload, 1) := by decide +kernel
theorem dX6_ifLeapt_125 : decode cX6_ifLeapt 125 = .ok (.aload_n 0, 1) := by decide +kernel
theorem dX6_ifLeapt_126 : decode cX6_ifLeapt 126 = .ok (.getfield 12, 3) := by decide +kernel
theorem dX6_ifLeapt_129 : decode cX6_ifLeapt 129 = .ok (.getfield 104, 3) := by decide +kernel
theorem dX6_ifLeapt_132 : decode cX6_ifLeapt 132 = .ok (.iload_n 1, 1) := by decide +kernel
theorem dX6_ifLeapt_133 : decode cX6_ifLeapt 133 = .ok (.iaload, 1) := by decide +kernel
theorem dX6_ifLeapt_134 : decode cX6_ifLeapt 134 = .ok (.isub, 1) := by decide +kernel
theorem dX6_ifLeapt_135 : decode cX6_ifLeapt 135 = .ok (.ireturn, 1) := by decide +kernel
theorem dX6_ifLeapt_136 : decode cX6_ifLeapt 136 = .ok (.aload_n 0, 1) := by decide +kernel
theorem dX6_ifLeapt_137 : decode cX6_ifLeapt 137 = .ok (.getfield 16, 3) := by decide +kernel
theorem dX6_ifLeapt_140 : decode cX6_ifLeapt 140 = .ok (.iload_n 1, 1) := by decide +kernel
theorem dX6_ifLeapt_141 : decode cX6_ifLeapt 141 = .ok (.invokevirtual 110, 3) := by decide +kernel
theorem dX6_ifLeapt_144 : decode cX6_ifLeapt 144 = .ok (.aload_n 0, 1) := by decide +kernel
theorem dX6_ifLeapt_145 : decode cX6_ifLeapt 145 = .ok (.getfield 12, 3) := by decide +kernel
theorem dX6_ifLeapt_148 : decode cX6_ifLeapt 148 = .ok (.iload_n 1, 1) := by decide +kernel
theorem dX6_ifLeapt_149 : decode cX6_ifLeapt 149 = .ok (.invokevirtual 110, 3) := by decide +kernel
theorem dX6_ifLeapt_152 : decode cX6_ifLeapt 152 = .ok (.iconst (-1), 1) := by decide +kernel
theorem dX6_ifLeapt_153 : decode cX6_ifLeapt 153 = .ok (.ixor, 1) := by decide +kernel
theorem dX6_ifLeapt_154 : decode cX6_ifLeapt 154 = .ok (.iand, 1) := by decide +kernel
theorem dX6_ifLeapt_155 : decode cX6_ifLeapt 155 = .ok (.ireturn, 1) := by decide +kernel
theorem dX6_ifLeapt_156 : decode cX6_ifLeapt 156 = .ok (.aload_n 0, 1) := by decide +kernel
theorem dX6_ifLeapt_157 : decode cX6_ifLeapt 157 = .ok (.getfield 12, 3) := by decide +kernel
theorem dX6_ifLeapt_160 : decode cX6_ifLeapt 160 = .ok (.iload_n 1, 1) := by decide +kernel
theorem dX6_ifLeapt_161 : decode cX6_ifLeapt 161 = .ok (.invokevirtual 110, 3) := by decide +kernel
theorem dX6_ifLeapt_164 : decode cX6_ifLeapt 164 = .ok (.aload_n 0, 1) := by decide +kernel
theorem dX6_ifLeapt_165 : decode cX6_ifLeapt 165 = .ok (.getfield 16, 3) := by decide +kernel
theorem dX6_ifLeapt_168 : decode cX6_ifLeapt 168 = .ok (.iload_n 1, 1) := by decide +kernel
theorem dX6_ifLeapt_169 : decode cX6_ifLeapt 169 = .ok (.invokevirtual 110, 3) := by decide +kernel
theorem dX6_ifLeapt_172 : decode cX6_ifLeapt 172 = .ok (.iconst (-1), 1) := by decide +kernel
theorem dX6_ifLeapt_173 : decode cX6_ifLeapt 173 = .ok (.ixor, 1) := by decide +kernel
theorem dX6_ifLeapt_174 : decode cX6_ifLeapt 174 = .ok (.iand, 1) := by decide +kernel
theorem dX6_ifLeapt_175 : decode cX6_ifLeapt 175 = .ok (.ireturn, 1) := by decide +kernel
theorem dX6_frees_0 : decode cX6_frees 0 = .ok (.aload_n 0, 1) := by decide +kernel
theorem dX6_frees_1 : decode cX6_frees 1 = .ok (.getfield 12, 3) := by decide +kernel
theorem dX6_frees_4 : decode cX6_frees 4 = .ok (.iload_n 1, 1) := by decide +kernel
theorem dX6_frees_5 : decode cX6_frees 5 = .ok (.invokevirtual 75, 3) := by decide +kernel
theorem dX6_frees_8 : decode cX6_frees 8 = .ok (.ifCond .eq 14, 3) := by decide +kernel
theorem dX6_frees_11 : decode cX6_frees 11 = .ok (.aload_n 0, 1) := by decide +kernel
theorem dX6_frees_12 : decode cX6_frees 12 = .ok (.getfield 12, 3) := by decide +kernel
theorem dX6_frees_15 : decode cX6_frees 15 = .ok (.iload_n 2, 1) := by decide +kernel
theorem dX6_frees_16 : decode cX6_frees 16 = .ok (.invokevirtual 75, 3) := by decide +kernel
theorem dX6_frees_19 : decode cX6_frees 19 = .ok (.ifCond .ne 5, 3) := by decide +kernel
theorem dX6_frees_22 : decode cX6_frees 22 = .ok (.iconst (-1), 1) := by decide +kernel
theorem dX6_frees_23 : decode cX6_frees 23 = .ok (.ireturn, 1) := by decide +kernel
theorem dX6_frees_24 : decode cX6_frees 24 = .ok (.iload_n 1, 1) := by decide +kernel
theorem dX6_frees_25 : decode cX6_frees 25 = .ok (.iload_n 2, 1) := by decide +kernel
theorem dX6_frees_26 : decode cX6_frees 26 = .ok (.if_icmp .ne 6, 3) := by decide +kernel
theorem dX6_frees_29 : decode cX6_frees 29 = .ok (.bipush (-2), 2) := by decide +kernel
theorem dX6_frees_31 : decode cX6_frees 31 = .ok (.ireturn, 1) := by decide +kernel
theorem dX6_frees_32 : decode cX6_frees 32 = .ok (.iconst 0, 1) := by decide +kernel
theorem dX6_frees_33 : decode cX6_frees 33 = .ok (.istore_n 3, 1) := by decide +kernel
theorem dX6_frees_34 : decode cX6_frees 34 = .ok (.iconst 0, 1) := by decide +kernel
theorem dX6_frees_35 : decode cX6_frees 35 = .ok (.istore 4, 2) := by decide +kernel
theorem dX6_frees_37 : decode cX6_frees 37 = .ok (.iload 4, 2) := by decide +kernel
theorem dX6_frees_39 : decode cX6_frees 39 = .ok (.bipush 15, 2) := by decide +kernel
theorem dX6_frees_41 : decode cX6_frees 41 = .ok (.if_icmp .ge 26, 3) := by decide +kernel
theorem dX6_frees_44 : decode cX6_frees 44 = .ok (.iload_n 3, 1) := by decide +kernel
theorem dX6_frees_45 : decode cX6_frees 45 = .ok (.aload_n 0, 1) := by decide +kernel
theorem dX6_frees_46 : decode cX6_frees 46 = .ok (.getfield 12, 3) := by decide +kernel
theorem dX6_frees_49 : decode cX6_frees 49 = .ok (.getfield 92, 3) := by decide +kernel
theorem dX6_frees_52 : decode cX6_frees 52 = .ok (.iload 4, 2) := by decide +kernel
theorem dX6_frees_54 : decode cX6_frees 54 = .ok (.iload_n 1, 1) := by decide +kernel
theorem dX6_frees_55 : decode cX6_frees 55 = .ok (.iload_n 2, 1) := by decide +kernel
theorem dX6_frees_56 : decode cX6_frees 56 = .ok (.invokevirtual 198, 3) := by decide +kernel
theorem dX6_frees_59 : decode cX6_frees 59 = .ok (.iadd, 1) := by decide +kernel
theorem dX6_frees_60 : decode cX6_frees 60 = .ok (.istore_n 3, 1) := by decide +kernel
theorem dX6_frees_61 : decode cX6_frees 61 = .ok (.iinc 4 1, 3) := by decide +kernel
theorem dX6_frees_64 : decode cX6_frees 64 = .ok (.goto (-27), 3) := by decide +kernel
theorem dX6_frees_67 : decode cX6_frees 67 = .ok (.iload_n 3, 1) := by decide +kernel
theorem dX6_frees_68 : decode cX6_frees 68 = .ok (.ireturn, 1) := by decide +kernel
theorem dX6_quietIn_0 : decode cX6_quietIn 0 = .ok (.aload_n 0, 1) := by decide +kernel
theorem dX6_quietIn_1 : decode cX6_quietIn 1 = .ok (.getfield 12, 3) := by decide +kernel
theorem dX6_quietIn_4 : decode cX6_quietIn 4 = .ok (.invokevirtual 201, 3) := by decide +kernel
theorem dX6_quietIn_7 : decode cX6_quietIn 7 = .ok (.aload_n 0, 1) := by decide +kernel
theorem dX6_quietIn_8 : decode cX6_quietIn 8 = .ok (.getfield 12, 3) := by decide +kernel
theorem dX6_quietIn_11 : decode cX6_quietIn 11 = .ok (.getfield 137, 3) := by decide +kernel
theorem dX6_quietIn_14 : decode cX6_quietIn 14 = .ok (.invokevirtual 204, 3) := by decide +kernel
theorem dX6_quietIn_17 : decode cX6_quietIn 17 = .ok (.invokestatic 207, 3) := by decide +kernel
theorem dX6_quietIn_20 : decode cX6_quietIn 20 = .ok (.istore_n 1, 1) := by decide +kernel
theorem dX6_quietIn_21 : decode cX6_quietIn 21 = .ok (.iload_n 1, 1) := by decide +kernel
theorem dX6_quietIn_22 : decode cX6_quietIn 22 = .ok (.aload_n 0, 1) := by decide +kernel
theorem dX6_quietIn_23 : decode cX6_quietIn 23 = .ok (.getfield 12, 3) := by decide +kernel
theorem dX6_quietIn_26 : decode cX6_quietIn 26 = .ok (.getfield 156, 3) := by decide +kernel
theorem dX6_quietIn_29 : decode cX6_quietIn 29 = .ok (.isub, 1) := by decide +kernel
theorem dX6_quietIn_30 : decode cX6_quietIn 30 = .ok (.iconst 0, 1) := by decide +kernel
theorem dX6_quietIn_31 : decode cX6_quietIn 31 = .ok (.invokestatic 207, 3) := by decide +kernel
theorem dX6_quietIn_34 : decode cX6_quietIn 34 = .ok (.ireturn, 1) := by decide +kernel
theorem dX6_stepIn_0 : decode cX6_stepIn 0 = .ok (.aload_n 0, 1) := by decide +kernel
theorem dX6_stepIn_1 : decode cX6_stepIn 1 = .ok (.getfield 12, 3) := by decide +kernel
theorem dX6_stepIn_4 : decode cX6_stepIn 4 = .ok (.iload_n 1, 1) := by decide +kernel
theorem dX6_stepIn_5 : decode cX6_stepIn 5 = .ok (.invokevirtual 75, 3) := by decide +kernel
theorem dX6_stepIn_8 : decode cX6_stepIn 8 = .ok (.ifCond .ne 5, 3) := by decide +kernel
theorem dX6_stepIn_11 : decode cX6_stepIn 11 = .ok (.iconst (-1), 1) := by decide +kernel
theorem dX6_stepIn_12 : decode cX6_stepIn 12 = .ok (.ireturn, 1) := by decide +kernel
theorem dX6_stepIn_13 : decode cX6_stepIn 13 = .ok (.iload_n 2, 1) := by decide +kernel
theorem dX6_stepIn_14 : decode cX6_stepIn 14 = .ok (.iconst 1, 1) := by decide +kernel
theorem dX6_stepIn_15 : decode cX6_stepIn 15 = .ok (.if_icmp .lt 9, 3) := by decide +kernel
theorem dX6_stepIn_18 : decode cX6_stepIn 18 = .ok (.iload_n 2, 1) := by decide +kernel
theorem dX6_stepIn_19 : decode cX6_stepIn 19 = .ok (.bipush 99, 2) := by decide +kernel
theorem dX6_stepIn_21 : decode cX6_stepIn 21 = .ok (.if_icmp .le 6, 3) := by decide +kernel
theorem dX6_stepIn_24 : decode cX6_stepIn 24 = .ok (.bipush (-2), 2) := by decide +kernel
theorem dX6_stepIn_26 : decode cX6_stepIn 26 = .ok (.ireturn, 1) := by decide +kernel
theorem dX6_stepIn_27 : decode cX6_stepIn 27 = .ok (.aload_n 0, 1) := by decide +kernel
theorem dX6_stepIn_28 : decode cX6_stepIn 28 = .ok (.getfield 16, 3) := by decide +kernel
theorem dX6_stepIn_31 : decode cX6_stepIn 31 = .ok (.aload_n 0, 1) := by decide +kernel
theorem dX6_stepIn_32 : decode cX6_stepIn 32 = .ok (.getfield 12, 3) := by decide +kernel
theorem dX6_stepIn_35 : decode cX6_stepIn 35 = .ok (.invokevirtual 191, 3) := by decide +kernel
theorem dX6_stepIn_38 : decode cX6_stepIn 38 = .ok (.iconst 0, 1) := by decide +kernel
theorem dX6_stepIn_39 : decode cX6_stepIn 39 = .ok (.istore_n 3, 1) := by decide +kernel
theorem dX6_stepIn_40 : decode cX6_stepIn 40 = .ok (.iload_n 3, 1) := by decide +kernel
theorem dX6_stepIn_41 : decode cX6_stepIn 41 = .ok (.iload_n 2, 1) := by decide +kernel
theorem dX6_stepIn_42 : decode cX6_stepIn 42 = .ok (.if_icmp .ge 17, 3) := by decide +kernel
theorem dX6_stepIn_45 : decode cX6_stepIn 45 = .ok (.aload_n 0, 1) := by decide +kernel
theorem dX6_stepIn_46 : decode cX6_stepIn 46 = .ok (.getfield 16, 3) := by decide +kernel
theorem dX6_stepIn_49 : decode cX6_stepIn 49 = .ok (.invokevirtual 212, 3) := by decide +kernel
theorem dX6_stepIn_52 : decode cX6_stepIn 52 = .ok (.pop, 1) := by decide +kernel
theorem dX6_stepIn_53 : decode cX6_stepIn 53 = .ok (.iinc 3 1, 3) := by decide +kernel
theorem dX6_stepIn_56 : decode cX6_stepIn 56 = .ok (.goto (-16), 3) := by decide +kernel
theorem dX6_stepIn_59 : decode cX6_stepIn 59 = .ok (.aload_n 0, 1) := by decide +kernel
theorem dX6_stepIn_60 : decode cX6_stepIn 60 = .ok (.getfield 16, 3) := by decide +kernel
theorem dX6_stepIn_63 : decode cX6_stepIn 63 = .ok (.getfield 79, 3) := by decide +kernel
theorem dX6_stepIn_66 : decode cX6_stepIn 66 = .ok (.iload_n 1, 1) := by decide +kernel
theorem dX6_stepIn_67 : decode cX6_stepIn 67 = .ok (.iaload, 1) := by decide +kernel
theorem dX6_stepIn_68 : decode cX6_stepIn 68 = .ok (.ireturn, 1) := by decide +kernel
theorem dX6_thickest_0 : decode cX6_thickest 0 = .ok (.bipush (-6), 2) := by decide +kernel
theorem dX6_thickest_2 : decode cX6_thickest 2 = .ok (.istore_n 1, 1) := by decide +kernel
theorem dX6_thickest_3 : decode cX6_thickest 3 = .ok (.iconst 0, 1) := by decide +kernel
theorem dX6_thickest_4 : decode cX6_thickest 4 = .ok (.istore_n 2, 1) := by decide +kernel
theorem dX6_thickest_5 : decode cX6_thickest 5 = .ok (.iconst 0, 1) := by decide +kernel
theorem dX6_thickest_6 : decode cX6_thickest 6 = .ok (.istore_n 3, 1) := by decide +kernel
theorem dX6_thickest_7 : decode cX6_thickest 7 = .ok (.iload_n 3, 1) := by decide +kernel
theorem dX6_thickest_8 : decode cX6_thickest 8 = .ok (.bipush 15, 2) := by decide +kernel
theorem dX6_thickest_10 : decode cX6_thickest 10 = .ok (.if_icmp .ge 33, 3) := by decide +kernel
theorem dX6_thickest_13 : decode cX6_thickest 13 = .ok (.aload_n 0, 1) := by decide +kernel
theorem dX6_thickest_14 : decode cX6_thickest 14 = .ok (.getfield 12, 3) := by decide +kernel
theorem dX6_thickest_17 : decode cX6_thickest 17 = .ok (.getfield 92, 3) := by decide +kernel
theorem dX6_thickest_20 : decode cX6_thickest 20 = .ok (.iload_n 3, 1) := by decide +kernel
theorem dX6_thickest_21 : decode cX6_thickest 21 = .ok (.invokevirtual 119, 3) := by decide +kernel
theorem dX6_thickest_24 : decode cX6_thickest 24 = .ok (.istore 4, 2) := by decide +kernel
theorem dX6_thickest_26 : decode cX6_thickest 26 = .ok (.iload 4, 2) := by decide +kernel
theorem dX6_thickest_28 : decode cX6_thickest 28 = .ok (.iload_n 2, 1) := by decide +kernel
theorem dX6_thickest_29 : decode cX6_thickest 29 = .ok (.if_icmp .le 8, 3) := by decide +kernel
theorem dX6_thickest_32 : decode cX6_thickest 32 = .ok (.iload 4, 2) := by decide +kernel
theorem dX6_thickest_34 : decode cX6_thickest 34 = .ok (.istore_n 2, 1) := by decide +kernel
theorem dX6_thickest_35 : decode cX6_thickest 35 = .ok (.iload_n 3, 1) := by decide +kernel
theorem dX6_thickest_36 : decode cX6_thickest 36 = .ok (.istore_n 1, 1) := by decide +kernel
theorem dX6_thickest_37 : decode cX6_thickest 37 = .ok (.iinc 3 1, 3) := by decide +kernel
theorem dX6_thickest_40 : decode cX6_thickest 40 = .ok (.goto (-33), 3) := by decide +kernel
theorem dX6_thickest_43 : decode cX6_thickest 43 = .ok (.iload_n 1, 1) := by decide +kernel
theorem dX6_thickest_44 : decode cX6_thickest 44 = .ok (.ireturn, 1) := by decide +kernel
theorem dX6_undo_0 : decode cX6_undo 0 = .ok (.aload_n 0, 1) := by decide +kernel
theorem dX6_undo_1 : decode cX6_undo 1 = .ok (.getfield 22, 3) := by decide +kernel
theorem dX6_undo_4 : decode cX6_undo 4 = .ok (.getfield 184, 3) := by decide +kernel
theorem dX6_undo_7 : decode cX6_undo 7 = .ok (.ifCond .ne 6, 3) := by decide +kernel
theorem dX6_undo_10 : decode cX6_undo 10 = .ok (.bipush (-5), 2) := by decide +kernel
theorem dX6_undo_12 : decode cX6_undo 12 = .ok (.ireturn, 1) := by decide +kernel
theorem dX6_undo_13 : decode cX6_undo 13 = .ok (.aload_n 0, 1) := by decide +kernel
theorem dX6_undo_14 : decode cX6_undo 14 = .ok (.getfield 22, 3) := by decide +kernel
theorem dX6_undo_17 : decode cX6_undo 17 = .ok (.aload_n 0, 1) := by decide +kernel
theorem dX6_undo_18 : decode cX6_undo 18 = .ok (.getfield 12, 3) := by decide +kernel
theorem dX6_undo_21 : decode cX6_undo 21 = .ok (.invokevirtual 230, 3) := by decide +kernel
theorem dX6_undo_24 : decode cX6_undo 24 = .ok (.aload_n 0, 1) := by decide +kernel
theorem dX6_undo_25 : decode cX6_undo 25 = .ok (.getfield 22, 3) := by decide +kernel
theorem dX6_undo_28 : decode cX6_undo 28 = .ok (.getfield 184, 3) := by decide +kernel
theorem dX6_undo_31 : decode cX6_undo 31 = .ok (.ireturn, 1) := by decide +kernel
theorem dX6_settled_0 : decode cX6_settled 0 = .ok (.iload_n 1, 1) := by decide +kernel
theorem dX6_settled_1 : decode cX6_settled 1 = .ok (.ifCond .lt 10, 3) := by decide +kernel
theorem dX6_settled_4 : decode cX6_settled 4 = .ok (.aload_n 0, 1) := by decide +kernel
theorem dX6_settled_5 : decode cX6_settled 5 = .ok (.getfield 22, 3) := by decide +kernel
theorem dX6_settled_8 : decode cX6_settled 8 = .ok (.invokevirtual 237, 3) := by decide +kernel
theorem dX6_settled_11 : decode cX6_settled 11 = .ok (.iload_n 1, 1) := by decide +kernel
theorem dX6_settled_12 : decode cX6_settled 12 = .ok (.ireturn, 1) := by decide +kernel
theorem dX6_isEdge_0 : decode cX6_isEdge 0 = .ok (.iload_n 0, 1) := by decide +kernel
theorem dX6_isEdge_1 : decode cX6_isEdge 1 = .ok (.ifCond .lt 13, 3) := by decide +kernel
theorem dX6_isEdge_4 : decode cX6_isEdge 4 = .ok (.iload_n 0, 1) := by decide +kernel
theorem dX6_isEdge_5 : decode cX6_isEdge 5 = .ok (.bipush 15, 2) := by decide +kernel
theorem dX6_isEdge_7 : decode cX6_isEdge 7 = .ok (.if_icmp .ge 7, 3) := by decide +kernel
theorem dX6_isEdge_10 : decode cX6_isEdge 10 = .ok (.iconst 1, 1) := by decide +kernel
theorem dX6_isEdge_11 : decode cX6_isEdge 11 = .ok (.goto 4, 3) := by decide +kernel
theorem dX6_isEdge_14 : decode cX6_isEdge 14 = .ok (.iconst 0, 1) := by decide +kernel
theorem dX6_isEdge_15 : decode cX6_isEdge 15 = .ok (.ireturn, 1) := by decide +kernel
theorem dX6_isLeap_0 : decode cX6_isLeap 0 = .ok (.iload_n 0, 1) := by decide +kernel
theorem dX6_isLeap_1 : decode cX6_isLeap 1 = .ok (.bipush (-15), 2) := by decide +kernel
theorem dX6_isLeap_3 : decode cX6_isLeap 3 = .ok (.if_icmp .lt 17, 3) := by decide +kernel
theorem dX6_isLeap_6 : decode cX6_isLeap 6 = .ok (.iload_n 0, 1) := by decide +kernel
theorem dX6_isLeap_7 : decode cX6_isLeap 7 = .ok (.bipush 15, 2) := by decide +kernel
theorem dX6_isLeap_9 : decode cX6_isLeap 9 = .ok (.if_icmp .gt 11, 3) := by decide +kernel
theorem dX6_isLeap_12 : decode cX6_isLeap 12 = .ok (.iload_n 0, 1) := by decide +kernel
theorem dX6_isLeap_13 : decode cX6_isLeap 13 = .ok (.ifCond .eq 7, 3) := by decide +kernel
theorem dX6_isLeap_16 : decode cX6_isLeap 16 = .ok (.iconst 1, 1) := by decide +kernel
theorem dX6_isLeap_17 : decode cX6_isLeap 17 = .ok (.goto 4, 3) := by decide +kernel
theorem dX6_isLeap_20 : decode cX6_isLeap 20 = .ok (.iconst 0, 1) := by decide +kernel
theorem dX6_isLeap_21 : decode cX6_isLeap 21 = .ok (.ireturn, 1) := by decide +kernel
theorem dX6_roomAt_0 : decode cX6_roomAt 0 = .ok (.aload_n 0, 1) := by decide +kernel
theorem dX6_roomAt_1 : decode cX6_roomAt 1 = .ok (.iload_n 1, 1) := by decide +kernel
theorem dX6_roomAt_2 : decode cX6_roomAt 2 = .ok (.aaload, 1) := by decide +kernel
theorem dX6_roomAt_3 : decode cX6_roomAt 3 = .ok (.astore_n 2, 1) := by decide +kernel
theorem dX6_roomAt_4 : decode cX6_roomAt 4 = .ok (.aload_n 2, 1) := by decide +kernel
theorem dX6_roomAt_5 : decode cX6_roomAt 5 = .ok (.ifnonnull 15, 3) := by decide +kernel
theorem dX6_roomAt_8 : decode cX6_roomAt 8 = .ok (.new 9, 3) := by decide +kernel
theorem dX6_roomAt_11 : decode cX6_roomAt 11 = .ok (.dup, 1) := by decide +kernel
theorem dX6_roomAt_12 : decode cX6_roomAt 12 = .ok (.invokespecial 11, 3) := by decide +kernel
theorem dX6_roomAt_15 : decode cX6_roomAt 15 = .ok (.astore_n 2, 1) := by decide +kernel
theorem dX6_roomAt_16 : decode cX6_roomAt 16 = .ok (.aload_n 0, 1) := by decide +kernel
theorem dX6_roomAt_17 : decode cX6_roomAt 17 = .ok (.iload_n 1, 1) := by decide +kernel
theorem dX6_roomAt_18 : decode cX6_roomAt 18 = .ok (.aload_n 2, 1) := by decide +kernel
theorem dX6_roomAt_19 : decode cX6_roomAt 19 = .ok (.aastore, 1) := by decide +kernel
theorem dX6_roomAt_20 : decode cX6_roomAt 20 = .ok (.aload_n 2, 1) := by decide +kernel
theorem dX6_roomAt_21 : decode cX6_roomAt 21 = .ok (.areturn, 1) := by decide +kernel
