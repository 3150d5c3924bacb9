theorem dX7_init_0 : decode cX7_init 0 = .ok (.aload_n 0, 1) := by decide +kernel
theorem dX7_init_1 : decode cX7_init 1 = .ok (.invokespecial 1, 3) := by decide +kernel
theorem dX7_init_4 : decode cX7_init 4 = .ok (.aload_n 0, 1) := by decide +kernel
theorem dX7_init_5 : decode cX7_init 5 = .ok (.sipush 3400, 3) := by decide +kernel
theorem dX7_init_8 : decode cX7_init 8 = .ok (.newarray .int, 2) := by decide +kernel
theorem dX7_init_10 : decode cX7_init 10 = .ok (.putfield 7, 3) := by decide +kernel
theorem dX7_init_13 : decode cX7_init 13 = .ok (.aload_n 0, 1) := by decide +kernel
theorem dX7_init_14 : decode cX7_init 14 = .ok (.iconst 2, 1) := by decide +kernel
theorem dX7_init_15 : decode cX7_init 15 = .ok (.newarray .boolean, 2) := by decide +kernel
theorem dX7_init_17 : decode cX7_init 17 = .ok (.putfield 13, 3) := by decide +kernel
theorem dX7_init_20 : decode cX7_init 20 = .ok (.aload_n 0, 1) := by decide +kernel
theorem dX7_init_21 : decode cX7_init 21 = .ok (.bipush 80, 2) := by decide +kernel
theorem dX7_init_23 : decode cX7_init 23 = .ok (.newarray .int, 2) := by decide +kernel
theorem dX7_init_25 : decode cX7_init 25 = .ok (.putfield 17, 3) := by decide +kernel
theorem dX7_init_28 : decode cX7_init 28 = .ok (.aload_n 0, 1) := by decide +kernel
theorem dX7_init_29 : decode cX7_init 29 = .ok (.getfield 7, 3) := by decide +kernel
theorem dX7_init_32 : decode cX7_init 32 = .ok (.iconst 0, 1) := by decide +kernel
theorem dX7_init_33 : decode cX7_init 33 = .ok (.iconst 3, 1) := by decide +kernel
theorem dX7_init_34 : decode cX7_init 34 = .ok (.iastore, 1) := by decide +kernel
theorem dX7_init_35 : decode cX7_init 35 = .ok (.aload_n 0, 1) := by decide +kernel
theorem dX7_init_36 : decode cX7_init 36 = .ok (.getfield 7, 3) := by decide +kernel
theorem dX7_init_39 : decode cX7_init 39 = .ok (.iconst 1, 1) := by decide +kernel
theorem dX7_init_40 : decode cX7_init 40 = .ok (.iconst 4, 1) := by decide +kernel
theorem dX7_init_41 : decode cX7_init 41 = .ok (.iastore, 1) := by decide +kernel
theorem dX7_init_42 : decode cX7_init 42 = .ok (.aload_n 0, 1) := by decide +kernel
theorem dX7_init_43 : decode cX7_init 43 = .ok (.getfield 7, 3) := by decide +kernel
theorem dX7_init_46 : decode cX7_init 46 = .ok (.iconst 2, 1) := by decide +kernel
theorem dX7_init_47 : decode cX7_init 47 = .ok (.iconst 5, 1) := by decide +kernel
theorem dX7_init_48 : decode cX7_init 48 = .ok (.iastore, 1) := by decide +kernel
theorem dX7_init_49 : decode cX7_init 49 = .ok (.aload_n 0, 1) := by decide +kernel
theorem dX7_init_50 : decode cX7_init 50 = .ok (.getfield 7, 3) := by decide +kernel
theorem dX7_init_53 : decode cX7_init 53 = .ok (.iconst 3, 1) := by decide +kernel
theorem dX7_init_54 : decode cX7_init 54 = .ok (.bipush 14, 2) := by decide +kernel
theorem dX7_init_56 : decode cX7_init 56 = .ok (.iastore, 1) := by decide +kernel
theorem dX7_init_57 : decode cX7_init 57 = .ok (.return_, 1) := by decide +kernel
theorem dX7_in_0 : decode cX7_in 0 = .ok (.lload_n 0, 1) := by decide +kernel
theorem dX7_in_1 : decode cX7_in 1 = .ok (.lload_n 2, 1) := by decide +kernel
theorem dX7_in_2 : decode cX7_in 2 = .ok (.lcmp, 1) := by decide +kernel
theorem dX7_in_3 : decode cX7_in 3 = .ok (.ifCond .lt 14, 3) := by decide +kernel
theorem dX7_in_6 : decode cX7_in 6 = .ok (.lload_n 0, 1) := by decide +kernel
theorem dX7_in_7 : decode cX7_in 7 = .ok (.lload 4, 2) := by decide +kernel
theorem dX7_in_9 : decode cX7_in 9 = .ok (.lcmp, 1) := by decide +kernel
theorem dX7_in_10 : decode cX7_in 10 = .ok (.ifCond .gt 7, 3) := by decide +kernel
theorem dX7_in_13 : decode cX7_in 13 = .ok (.iconst 1, 1) := by decide +kernel
theorem dX7_in_14 : decode cX7_in 14 = .ok (.goto 4, 3) := by decide +kernel
theorem dX7_in_17 : decode cX7_in 17 = .ok (.iconst 0, 1) := by decide +kernel
theorem dX7_in_18 : decode cX7_in 18 = .ok (.ireturn, 1) := by decide +kernel
theorem dX7_copies_0 : decode cX7_copies 0 = .ok (.iconst 0, 1) := by decide +kernel
theorem dX7_copies_1 : decode cX7_copies 1 = .ok (.istore_n 3, 1) := by decide +kernel
theorem dX7_copies_2 : decode cX7_copies 2 = .ok (.iload_n 3, 1) := by decide +kernel
theorem dX7_copies_3 : decode cX7_copies 3 = .ok (.sipush 340, 3) := by decide +kernel
theorem dX7_copies_6 : decode cX7_copies 6 = .ok (.if_icmp .ge 33, 3) := by decide +kernel
theorem dX7_copies_9 : decode cX7_copies 9 = .ok (.aload_n 0, 1) := by decide +kernel
theorem dX7_copies_10 : decode cX7_copies 10 = .ok (.getfield 7, 3) := by decide +kernel
theorem dX7_copies_13 : decode cX7_copies 13 = .ok (.sipush 340, 3) := by decide +kernel
theorem dX7_copies_16 : decode cX7_copies 16 = .ok (.iload_n 2, 1) := by decide +kernel
theorem dX7_copies_17 : decode cX7_copies 17 = .ok (.imul, 1) := by decide +kernel
theorem dX7_copies_18 : decode cX7_copies 18 = .ok (.iload_n 3, 1) := by decide +kernel
theorem dX7_copies_19 : decode cX7_copies 19 = .ok (.iadd, 1) := by decide +kernel
theorem dX7_copies_20 : decode cX7_copies 20 = .ok (.aload_n 0, 1) := by decide +kernel
theorem dX7_copies_21 : decode cX7_copies 21 = .ok (.getfield 7, 3) := by decide +kernel
theorem dX7_copies_24 : decode cX7_copies 24 = .ok (.sipush 340, 3) := by decide +kernel
theorem dX7_copies_27 : decode cX7_copies 27 = .ok (.iload_n 1, 1) := by decide +kernel
theorem dX7_copies_28 : decode cX7_copies 28 = .ok (.imul, 1) := by decide +kernel
theorem dX7_copies_29 : decode cX7_copies 29 = .ok (.iload_n 3, 1) := by decide +kernel
theorem dX7_copies_30 : decode cX7_copies 30 = .ok (.iadd, 1) := by decide +kernel
theorem dX7_copies_31 : decode cX7_copies 31 = .ok (.iaload, 1) := by decide +kernel
theorem dX7_copies_32 : decode cX7_copies 32 = .ok (.iastore, 1) := by decide +kernel
theorem dX7_copies_33 : decode cX7_copies 33 = .ok (.iinc 3 1, 3) := by decide +kernel
theorem dX7_copies_36 : decode cX7_copies 36 = .ok (.goto (-34), 3) := by decide +kernel
theorem dX7_copies_39 : decode cX7_copies 39 = .ok (.return_, 1) := by decide +kernel
theorem dX7_changes_0 : decode cX7_changes 0 = .ok (.aload_n 0, 1) := by decide +kernel
theorem dX7_changes_1 : decode cX7_changes 1 = .ok (.getfield 20, 3) := by decide +kernel
theorem dX7_changes_4 : decode cX7_changes 4 = .ok (.bipush 6, 2) := by decide +kernel
theorem dX7_changes_6 : decode cX7_changes 6 = .ok (.if_icmp .ne 35, 3) := by decide +kernel
theorem dX7_changes_9 : decode cX7_changes 9 = .ok (.iconst 1, 1) := by decide +kernel
theorem dX7_changes_10 : decode cX7_changes 10 = .ok (.istore_n 1, 1) := by decide +kernel
theorem dX7_changes_11 : decode cX7_changes 11 = .ok (.iload_n 1, 1) := by decide +kernel
theorem dX7_changes_12 : decode cX7_changes 12 = .ok (.bipush 6, 2) := by decide +kernel
theorem dX7_changes_14 : decode cX7_changes 14 = .ok (.if_icmp .ge 17, 3) := by decide +kernel
theorem dX7_changes_17 : decode cX7_changes 17 = .ok (.aload_n 0, 1) := by decide +kernel
theorem dX7_changes_18 : decode cX7_changes 18 = .ok (.iload_n 1, 1) := by decide +kernel
theorem dX7_changes_19 : decode cX7_changes 19 = .ok (.iconst 1, 1) := by decide +kernel
theorem dX7_changes_20 : decode cX7_changes 20 = .ok (.iadd, 1) := by decide +kernel
theorem dX7_changes_21 : decode cX7_changes 21 = .ok (.iload_n 1, 1) := by decide +kernel
theorem dX7_changes_22 : decode cX7_changes 22 = .ok (.invokevirtual 24, 3) := by decide +kernel
theorem dX7_changes_25 : decode cX7_changes 25 = .ok (.iinc 1 1, 3) := by decide +kernel
theorem dX7_changes_28 : decode cX7_changes 28 = .ok (.goto (-17), 3) := by decide +kernel
theorem dX7_changes_31 : decode cX7_changes 31 = .ok (.aload_n 0, 1) := by decide +kernel
theorem dX7_changes_32 : decode cX7_changes 32 = .ok (.dup, 1) := by decide +kernel
theorem dX7_changes_33 : decode cX7_changes 33 = .ok (.getfield 20, 3) := by decide +kernel
theorem dX7_changes_36 : decode cX7_changes 36 = .ok (.iconst 1, 1) := by decide +kernel
theorem dX7_changes_37 : decode cX7_changes 37 = .ok (.isub, 1) := by decide +kernel
theorem dX7_changes_38 : decode cX7_changes 38 = .ok (.putfield 20, 3) := by decide +kernel
theorem dX7_changes_41 : decode cX7_changes 41 = .ok (.aload_n 0, 1) := by decide +kernel
theorem dX7_changes_42 : decode cX7_changes 42 = .ok (.dup, 1) := by decide +kernel
theorem dX7_changes_43 : decode cX7_changes 43 = .ok (.getfield 20, 3) := by decide +kernel
theorem dX7_changes_46 : decode cX7_changes 46 = .ok (.iconst 1, 1) := by decide +kernel
theorem dX7_changes_47 : decode cX7_changes 47 = .ok (.iadd, 1) := by decide +kernel
theorem dX7_changes_48 : decode cX7_changes 48 = .ok (.putfield 20, 3) := by decide +kernel
theorem dX7_changes_51 : decode cX7_changes 51 = .ok (.aload_n 0, 1) := by decide +kernel
theorem dX7_changes_52 : decode cX7_changes 52 = .ok (.iconst 0, 1) := by decide +kernel
theorem dX7_changes_53 : decode cX7_changes 53 = .ok (.aload_n 0, 1) := by decide +kernel
theorem dX7_changes_54 : decode cX7_changes 54 = .ok (.getfield 20, 3) := by decide +kernel
theorem dX7_changes_57 : decode cX7_changes 57 = .ok (.invokevirtual 24, 3) := by decide +kernel
theorem dX7_changes_60 : decode cX7_changes 60 = .ok (.return_, 1) := by decide +kernel
theorem dX7_size_0 : decode cX7_size 0 = .ok (.iload_n 0, 1) := by decide +kernel
theorem dX7_size_1 : decode cX7_size 1 = .ok (.ifCond .ge 8, 3) := by decide +kernel
theorem dX7_size_4 : decode cX7_size 4 = .ok (.iload_n 0, 1) := by decide +kernel
theorem dX7_size_5 : decode cX7_size 5 = .ok (.ineg, 1) := by decide +kernel
theorem dX7_size_6 : decode cX7_size 6 = .ok (.goto 4, 3) := by decide +kernel
theorem dX7_size_9 : decode cX7_size 9 = .ok (.iload_n 0, 1) := by decide +kernel
theorem dX7_size_10 : decode cX7_size 10 = .ok (.ireturn, 1) := by decide +kernel
theorem dX7_kittenAt_0 : decode cX7_kittenAt 0 = .ok (.iload_n 0, 1) := by decide +kernel
theorem dX7_kittenAt_1 : decode cX7_kittenAt 1 = .ok (.bipush 10, 2) := by decide +kernel
theorem dX7_kittenAt_3 : decode cX7_kittenAt 3 = .ok (.iadd, 1) := by decide +kernel
theorem dX7_kittenAt_4 : decode cX7_kittenAt 4 = .ok (.bipush 7, 2) := by decide +kernel
theorem dX7_kittenAt_6 : decode cX7_kittenAt 6 = .ok (.iload_n 1, 1) := by decide +kernel
theorem dX7_kittenAt_7 : decode cX7_kittenAt 7 = .ok (.imul, 1) := by decide +kernel
theorem dX7_kittenAt_8 : decode cX7_kittenAt 8 = .ok (.iadd, 1) := by decide +kernel
theorem dX7_kittenAt_9 : decode cX7_kittenAt 9 = .ok (.ireturn, 1) := by decide +kernel
theorem dX7_planAt_0 : decode cX7_planAt 0 = .ok (.iload_n 0, 1) := by decide +kernel
theorem dX7_planAt_1 : decode cX7_planAt 1 = .ok (.bipush 52, 2) := by decide +kernel
theorem dX7_planAt_3 : decode cX7_planAt 3 = .ok (.iadd, 1) := by decide +kernel
theorem dX7_planAt_4 : decode cX7_planAt 4 = .ok (.iconst 3, 1) := by decide +kernel
theorem dX7_planAt_5 : decode cX7_planAt 5 = .ok (.iload_n 1, 1) := by decide +kernel
theorem dX7_planAt_6 : decode cX7_planAt 6 = .ok (.imul, 1) := by decide +kernel
theorem dX7_planAt_7 : decode cX7_planAt 7 = .ok (.iadd, 1) := by decide +kernel
theorem dX7_planAt_8 : decode cX7_planAt 8 = .ok (.ireturn, 1) := by decide +kernel
theorem dX7_naps_0 : decode cX7_naps 0 = .ok (.aload_n 0, 1) := by decide +kernel
theorem dX7_naps_1 : decode cX7_naps 1 = .ok (.getfield 7, 3) := by decide +kernel
theorem dX7_naps_4 : decode cX7_naps 4 = .ok (.iload_n 1, 1) := by decide +kernel
theorem dX7_naps_5 : decode cX7_naps 5 = .ok (.iload_n 2, 1) := by decide +kernel
theorem dX7_naps_6 : decode cX7_naps 6 = .ok (.invokestatic 28, 3) := by decide +kernel
theorem dX7_naps_9 : decode cX7_naps 9 = .ok (.iconst 2, 1) := by decide +kernel
theorem dX7_naps_10 : decode cX7_naps 10 = .ok (.iadd, 1) := by decide +kernel
theorem dX7_naps_11 : decode cX7_naps 11 = .ok (.iaload, 1) := by decide +kernel
theorem dX7_naps_12 : decode cX7_naps 12 = .ok (.bipush (-6), 2) := by decide +kernel
theorem dX7_naps_14 : decode cX7_naps 14 = .ok (.if_icmp .eq 7, 3) := by decide +kernel
theorem dX7_naps_17 : decode cX7_naps 17 = .ok (.iconst 1, 1) := by decide +kernel
theorem dX7_naps_18 : decode cX7_naps 18 = .ok (.goto 4, 3) := by decide +kernel
theorem dX7_naps_21 : decode cX7_naps 21 = .ok (.iconst 0, 1) := by decide +kernel
theorem dX7_naps_22 : decode cX7_naps 22 = .ok (.ireturn, 1) := by decide +kernel
theorem dX7_ownerAt_0 : decode cX7_ownerAt 0 = .ok (.aload_n 0, 1) := by decide +kernel
theorem dX7_ownerAt_1 : decode cX7_ownerAt 1 = .ok (.getfield 7, 3) := by decide +kernel
theorem dX7_ownerAt_4 : decode cX7_ownerAt 4 = .ok (.iload_n 1, 1) := by decide +kernel
theorem dX7_ownerAt_5 : decode cX7_ownerAt 5 = .ok (.bipush 100, 2) := by decide +kernel
theorem dX7_ownerAt_7 : decode cX7_ownerAt 7 = .ok (.iadd, 1) := by decide +kernel
theorem dX7_ownerAt_8 : decode cX7_ownerAt 8 = .ok (.iload_n 2, 1) := by decide +kernel
theorem dX7_ownerAt_9 : decode cX7_ownerAt 9 = .ok (.iadd, 1) := by decide +kernel
theorem dX7_ownerAt_10 : decode cX7_ownerAt 10 = .ok (.iaload, 1) := by decide +kernel
theorem dX7_ownerAt_11 : decode cX7_ownerAt 11 = .ok (.istore 4, 2) := by decide +kernel
theorem dX7_ownerAt_13 : decode cX7_ownerAt 13 = .ok (.iload 4, 2) := by decide +kernel
theorem dX7_ownerAt_15 : decode cX7_ownerAt 15 = .ok (.bipush 16, 2) := by decide +kernel
theorem dX7_ownerAt_17 : decode cX7_ownerAt 17 = .ok (.irem, 1) := by decide +kernel
theorem dX7_ownerAt_18 : decode cX7_ownerAt 18 = .ok (.iload_n 3, 1) := by decide +kernel
theorem dX7_ownerAt_19 : decode cX7_ownerAt 19 = .ok (.if_icmp .ne 11, 3) := by decide +kernel
theorem dX7_ownerAt_22 : decode cX7_ownerAt 22 = .ok (.iload 4, 2) := by decide +kernel
theorem dX7_ownerAt_24 : decode cX7_ownerAt 24 = .ok (.bipush 16, 2) := by decide +kernel
theorem dX7_ownerAt_26 : decode cX7_ownerAt 26 = .ok (.idiv, 1) := by decide +kernel
theorem dX7_ownerAt_27 : decode cX7_ownerAt 27 = .ok (.goto 5, 3) := by decide +kernel
theorem dX7_ownerAt_30 : decode cX7_ownerAt 30 = .ok (.bipush (-6), 2) := by decide +kernel
theorem dX7_ownerAt_32 : decode cX7_ownerAt 32 = .ok (.ireturn, 1) := by decide +kernel
theorem dX7_top_0 : decode cX7_top 0 = .ok (.bipush (-6), 2) := by decide +kernel
theorem dX7_top_2 : decode cX7_top 2 = .ok (.istore_n 3, 1) := by decide +kernel
theorem dX7_top_3 : decode cX7_top 3 = .ok (.iconst 0, 1) := by decide +kernel
theorem dX7_top_4 : decode cX7_top 4 = .ok (.istore 4, 2) := by decide +kernel
theorem dX7_top_6 : decode cX7_top 6 = .ok (.iload 4, 2) := by decide +kernel
theorem dX7_top_8 : decode cX7_top 8 = .ok (.aload_n 0, 1) := by decide +kernel
theorem dX7_top_9 : decode cX7_top 9 = .ok (.getfield 7, 3) := by decide +kernel
theorem dX7_top_12 : decode cX7_top 12 = .ok (.iload_n 1, 1) := by decide +kernel
theorem dX7_top_13 : decode cX7_top 13 = .ok (.bipush 8, 2) := by decide +kernel
theorem dX7_top_15 : decode cX7_top 15 = .ok (.iadd, 1) := by decide +kernel
theorem dX7_top_16 : decode cX7_top 16 = .ok (.iaload, 1) := by decide +kernel
theorem dX7_top_17 : decode cX7_top 17 = .ok (.if_icmp .ge 29, 3) := by decide +kernel
theorem dX7_top_20 : decode cX7_top 20 = .ok (.aload_n 0, 1) := by decide +kernel
theorem dX7_top_21 : decode cX7_top 21 = .ok (.iload_n 1, 1) := by decide +kernel
theorem dX7_top_22 : decode cX7_top 22 = .ok (.iload 4, 2) := by decide +kernel
theorem dX7_top_24 : decode cX7_top 24 = .ok (.iload_n 2, 1) := by decide +kernel
theorem dX7_top_25 : decode cX7_top 25 = .ok (.invokevirtual 32, 3) := by decide +kernel
theorem dX7_top_28 : decode cX7_top 28 = .ok (.bipush (-6), 2) := by decide +kernel
theorem dX7_top_30 : decode cX7_top 30 = .ok (.if_icmp .ne 7, 3) := by decide +kernel
theorem dX7_top_33 : decode cX7_top 33 = .ok (.iload_n 3, 1) := by decide +kernel
theorem dX7_top_34 : decode cX7_top 34 = .ok (.goto 5, 3) := by decide +kernel
theorem dX7_top_37 : decode cX7_top 37 = .ok (.iload 4, 2) := by decide +kernel
theorem dX7_top_39 : decode cX7_top 39 = .ok (.istore_n 3, 1) := by decide +kernel
theorem dX7_top_40 : decode cX7_top 40 = .ok (.iinc 4 1, 3) := by decide +kernel
theorem dX7_top_43 : decode cX7_top 43 = .ok (.goto (-37), 3) := by decide +kernel
theorem dX7_top_46 : decode cX7_top 46 = .ok (.iload_n 3, 1) := by decide +kernel
theorem dX7_top_47 : decode cX7_top 47 = .ok (.ireturn, 1) := by decide +kernel
theorem dX7_removesStrand_0 : decode cX7_removesStrand 0 = .ok (.aload_n 0, 1) := by decide +kernel
theorem dX7_removesStrand_1 : decode cX7_removesStrand 1 = .ok (.getfield 7, 3) := by decide +kernel
theorem dX7_removesStrand_4 : decode cX7_removesStrand 4 = .ok (.iload_n 1, 1) := by decide +kernel
theorem dX7_removesStrand_5 : decode cX7_removesStrand 5 = .ok (.bipush 8, 2) := by decide +kernel
theorem dX7_removesStrand_7 : decode cX7_removesStrand 7 = .ok (.iadd, 1) := by decide +kernel
theorem dX7_removesStrand_8 : decode cX7_removesStrand 8 = .ok (.dup2, 1) := by decide +kernel
theorem dX7_removesStrand_9 : decode cX7_removesStrand 9 = .ok (.iaload, 1) := by decide +kernel
theorem dX7_removesStrand_10 : decode cX7_removesStrand 10 = .ok (.iconst 1, 1) := by decide +kernel
theorem dX7_removesStrand_11 : decode cX7_removesStrand 11 = .ok (.isub, 1) := by decide +kernel
theorem dX7_removesStrand_12 : decode cX7_removesStrand 12 = .ok (.iastore, 1) := by decide +kernel
theorem dX7_removesStrand_13 : decode cX7_removesStrand 13 = .ok (.iload_n 2, 1) := by decide +kernel
theorem dX7_removesStrand_14 : decode cX7_removesStrand 14 = .ok (.istore_n 3, 1) := by decide +kernel
theorem dX7_removesStrand_15 : decode cX7_removesStrand 15 = .ok (.iload_n 3, 1) := by decide +kernel
theorem dX7_removesStrand_16 : decode cX7_removesStrand 16 = .ok (.aload_n 0, 1) := by decide +kernel
theorem dX7_removesStrand_17 : decode cX7_removesStrand 17 = .ok (.getfield 7, 3) := by decide +kernel
theorem dX7_removesStrand_20 : decode cX7_removesStrand 20 = .ok (.iload_n 1, 1) := by decide +kernel
theorem dX7_removesStrand_21 : decode cX7_removesStrand 21 = .ok (.bipush 8, 2) := by decide +kernel
theorem dX7_removesStrand_23 : decode cX7_removesStrand 23 = .ok (.iadd, 1) := by decide +kernel
theorem dX7_removesStrand_24 : decode cX7_removesStrand 24 = .ok (.iaload, 1) := by decide +kernel
theorem dX7_removesStrand_25 : decode cX7_removesStrand 25 = .ok (.if_icmp .ge 33, 3) := by decide +kernel
theorem dX7_removesStrand_28 : decode cX7_removesStrand 28 = .ok (.aload_n 0, 1) := by decide +kernel
theorem dX7_removesStrand_29 : decode cX7_removesStrand 29 = .ok (.getfield 7, 3) := by decide +kernel
theorem dX7_removesStrand_32 : decode cX7_removesStrand 32 = .ok (.iload_n 1, 1) := by decide +kernel
theorem dX7_removesStrand_33 : decode cX7_removesStrand 33 = .ok (.bipush 100, 2) := by decide +kernel
theorem dX7_removesStrand_35 : decode cX7_removesStrand 35 = .ok (.iadd, 1) := by decide +kernel
theorem dX7_removesStrand_36 : decode cX7_removesStrand 36 = .ok (.iload_n 3, 1) := by decide +kernel
theorem dX7_removesStrand_37 : decode cX7_removesStrand 37 = .ok (.iadd, 1) := by decide +kernel
theorem dX7_removesStrand_38 : decode cX7_removesStrand 38 = .ok (.aload_n 0, 1) := by decide +kernel
theorem dX7_removesStrand_39 : decode cX7_removesStrand 39 = .ok (.getfield 7, 3) := by decide +kernel
theorem dX7_removesStrand_42 : decode cX7_removesStrand 42 = .ok (.iload_n 1, 1) := by decide +kernel
theorem dX7_removesStrand_43 : decode cX7_removesStrand 43 = .ok (.bipush 100, 2) := by decide +kernel
theorem dX7_removesStrand_45 : decode cX7_removesStrand 45 = .ok (.iadd, 1) := by decide +kernel
theorem dX7_removesStrand_46 : decode cX7_removesStrand 46 = .ok (.iload_n 3, 1) := by decide +kernel
theorem dX7_removesStrand_47 : decode cX7_removesStrand 47 = .ok (.iadd, 1) := by decide +kernel
theorem dX7_removesStrand_48 : decode cX7_removesStrand 48 = .ok (.iconst 1, 1) := by decide +kernel
theorem dX7_removesStrand_49 : decode cX7_removesStrand 49 = .ok (.iadd, 1) := by decide +kernel
theorem dX7_removesStrand_50 : decode cX7_removesStrand 50 = .ok (.iaload, 1) := by decide +kernel
theorem dX7_removesStrand_51 : decode cX7_removesStrand 51 = .ok (.iastore, 1) := by decide +kernel
theorem dX7_removesStrand_52 : decode cX7_removesStrand 52 = .ok (.iinc 3 1, 3) := by decide +kernel
theorem dX7_removesStrand_55 : decode cX7_removesStrand 55 = .ok (.goto (-40), 3) := by decide +kernel
theorem dX7_removesStrand_58 : decode cX7_removesStrand 58 = .ok (.return_, 1) := by decide +kernel
theorem dX7_windsBack_0 : decode cX7_windsBack 0 = .ok (.aload_n 0, 1) := by decide +kernel
theorem dX7_windsBack_1 : decode cX7_windsBack 1 = .ok (.iload_n 1, 1) := by decide +kernel
theorem dX7_windsBack_2 : decode cX7_windsBack 2 = .ok (.iload_n 3, 1) := by decide +kernel
theorem dX7_windsBack_3 : decode cX7_windsBack 3 = .ok (.invokevirtual 36, 3) := by decide +kernel
theorem dX7_windsBack_6 : decode cX7_windsBack 6 = .ok (.istore 4, 2) := by decide +kernel
theorem dX7_windsBack_8 : decode cX7_windsBack 8 = .ok (.iload 4, 2) := by decide +kernel
theorem dX7_windsBack_10 : decode cX7_windsBack 10 = .ok (.bipush (-6), 2) := by decide +kernel
theorem dX7_windsBack_12 : decode cX7_windsBack 12 = .ok (.if_icmp .eq 19, 3) := by decide +kernel
theorem dX7_windsBack_15 : decode cX7_windsBack 15 = .ok (.aload_n 0, 1) := by decide +kernel
theorem dX7_windsBack_16 : decode cX7_windsBack 16 = .ok (.iload_n 1, 1) := by decide +kernel
theorem dX7_windsBack_17 : decode cX7_windsBack 17 = .ok (.iload 4, 2) := by decide +kernel
theorem dX7_windsBack_19 : decode cX7_windsBack 19 = .ok (.iload_n 3, 1) := by decide +kernel
theorem dX7_windsBack_20 : decode cX7_windsBack 20 = .ok (.invokevirtual 32, 3) := by decide +kernel
theorem dX7_windsBack_23 : decode cX7_windsBack 23 = .ok (.iload_n 2, 1) := by decide +kernel
theorem dX7_windsBack_24 : decode cX7_windsBack 24 = .ok (.if_icmp .ne 7, 3) := by decide +kernel
theorem dX7_windsBack_27 : decode cX7_windsBack 27 = .ok (.iconst 1, 1) := by decide +kernel
theorem dX7_windsBack_28 : decode cX7_windsBack 28 = .ok (.goto 4, 3) := by decide +kernel
theorem dX7_windsBack_31 : decode cX7_windsBack 31 = .ok (.iconst 0, 1) := by decide +kernel
theorem dX7_windsBack_32 : decode cX7_windsBack 32 = .ok (.ireturn, 1) := by decide +kernel
theorem dX7_crosses_0 : decode cX7_crosses 0 = .ok (.iload_n 1, 1) := by decide +kernel
theorem dX7_crosses_1 : decode cX7_crosses 1 = .ok (.iload_n 2, 1) := by decide +kernel
theorem dX7_crosses_2 : decode cX7_crosses 2 = .ok (.invokestatic 28, 3) := by decide +kernel
theorem dX7_crosses_5 : decode cX7_crosses 5 = .ok (.istore 4, 2) := by decide +kernel
theorem dX7_crosses_7 : decode cX7_crosses 7 = .ok (.aload_n 0, 1) := by decide +kernel
theorem dX7_crosses_8 : decode cX7_crosses 8 = .ok (.iload_n 1, 1) := by decide +kernel
theorem dX7_crosses_9 : decode cX7_crosses 9 = .ok (.iload_n 2, 1) := by decide +kernel
theorem dX7_crosses_10 : decode cX7_crosses 10 = .ok (.iload_n 3, 1) := by decide +kernel
theorem dX7_crosses_11 : decode cX7_crosses 11 = .ok (.invokevirtual 39, 3) := by decide +kernel
theorem dX7_crosses_14 : decode cX7_crosses 14 = .ok (.ifCond .eq 41, 3) := by decide +kernel
theorem dX7_crosses_17 : decode cX7_crosses 17 = .ok (.aload_n 0, 1) := by decide +kernel
theorem dX7_crosses_18 : decode cX7_crosses 18 = .ok (.iload_n 1, 1) := by decide +kernel
theorem dX7_crosses_19 : decode cX7_crosses 19 = .ok (.aload_n 0, 1) := by decide +kernel
theorem dX7_crosses_20 : decode cX7_crosses 20 = .ok (.iload_n 1, 1) := by decide +kernel
theorem dX7_crosses_21 : decode cX7_crosses 21 = .ok (.iload_n 3, 1) := by decide +kernel
theorem dX7_crosses_22 : decode cX7_crosses 22 = .ok (.invokevirtual 36, 3) := by decide +kernel
theorem dX7_crosses_25 : decode cX7_crosses 25 = .ok (.invokevirtual 43, 3) := by decide +kernel
theorem dX7_crosses_28 : decode cX7_crosses 28 = .ok (.aload_n 0, 1) := by decide +kernel
theorem dX7_crosses_29 : decode cX7_crosses 29 = .ok (.getfield 7, 3) := by decide +kernel
theorem dX7_crosses_32 : decode cX7_crosses 32 = .ok (.iload 4, 2) := by decide +kernel
theorem dX7_crosses_34 : decode cX7_crosses 34 = .ok (.iconst 3, 1) := by decide +kernel
theorem dX7_crosses_35 : decode cX7_crosses 35 = .ok (.iadd, 1) := by decide +kernel
theorem dX7_crosses_36 : decode cX7_crosses 36 = .ok (.dup2, 1) := by decide +kernel
theorem dX7_crosses_37 : decode cX7_crosses 37 = .ok (.iaload, 1) := by decide +kernel
theorem dX7_crosses_38 : decode cX7_crosses 38 = .ok (.iconst 1, 1) := by decide +kernel
theorem dX7_crosses_39 : decode cX7_crosses 39 = .ok (.iadd, 1) := by decide +kernel
theorem dX7_crosses_40 : decode cX7_crosses 40 = .ok (.iastore, 1) := by decide +kernel
theorem dX7_crosses_41 : decode cX7_crosses 41 = .ok (.aload_n 0, 1) := by decide +kernel
theorem dX7_crosses_42 : decode cX7_crosses 42 = .ok (.getfield 7, 3) := by decide +kernel
theorem dX7_crosses_45 : decode cX7_crosses 45 = .ok (.iload 4, 2) := by decide +kernel
theorem dX7_crosses_47 : decode cX7_crosses 47 = .ok (.iconst 5, 1) := by decide +kernel
theorem dX7_crosses_48 : decode cX7_crosses 48 = .ok (.iadd, 1) := by decide +kernel
theorem dX7_crosses_49 : decode cX7_crosses 49 = .ok (.dup2, 1) := by decide +kernel
theorem dX7_crosses_50 : decode cX7_crosses 50 = .ok (.iaload, 1) := by decide +kernel
theorem dX7_crosses_51 : decode cX7_crosses 51 = .ok (.iconst 1, 1) := by decide +kernel
theorem dX7_crosses_52 : decode cX7_crosses 52 = .ok (.iadd, 1) := by decide +kernel
theorem dX7_crosses_53 : decode cX7_crosses 53 = .ok (.iastore, 1) := by decide +kernel
theorem dX7_crosses_54 : decode cX7_crosses 54 = .ok (.return_, 1) := by decide +kernel
theorem dX7_crosses_55 : decode cX7_crosses 55 = .ok (.aload_n 0, 1) := by decide +kernel
theorem dX7_crosses_56 : decode cX7_crosses 56 = .ok (.getfield 7, 3) := by decide +kernel
theorem dX7_crosses_59 : decode cX7_crosses 59 = .ok (.iload_n 1, 1) := by decide +kernel
theorem dX7_crosses_60 : decode cX7_crosses 60 = .ok (.bipush 100, 2) := by decide +kernel
theorem dX7_crosses_62 : decode cX7_crosses 62 = .ok (.iadd, 1) := by decide +kernel
theorem dX7_crosses_63 : decode cX7_crosses 63 = .ok (.aload_n 0, 1) := by decide +kernel
theorem dX7_crosses_64 : decode cX7_crosses 64 = .ok (.getfield 7, 3) := by decide +kernel
theorem dX7_crosses_67 : decode cX7_crosses 67 = .ok (.iload_n 1, 1) := by decide +kernel
theorem dX7_crosses_68 : decode cX7_crosses 68 = .ok (.bipush 8, 2) := by decide +kernel
theorem dX7_crosses_70 : decode cX7_crosses 70 = .ok (.iadd, 1) := by decide +kernel
theorem dX7_crosses_71 : decode cX7_crosses 71 = .ok (.iaload, 1) := by decide +kernel
theorem dX7_crosses_72 : decode cX7_crosses 72 = .ok (.iadd, 1) := by decide +kernel
theorem dX7_crosses_73 : decode cX7_crosses 73 = .ok (.bipush 16, 2) := by decide +kernel
theorem dX7_crosses_75 : decode cX7_crosses 75 = .ok (.iload_n 2, 1) := by decide +kernel
theorem dX7_crosses_76 : decode cX7_crosses 76 = .ok (.imul, 1) := by decide +kernel
theorem dX7_crosses_77 : decode cX7_crosses 77 = .ok (.iload_n 3, 1) := by decide +kernel
theorem dX7_crosses_78 : decode cX7_crosses 78 = .ok (.iadd, 1) := by decide +kernel
theorem dX7_crosses_79 : decode cX7_crosses 79 = .ok (.iastore, 1) := by decide +kernel
theorem dX7_crosses_80 : decode cX7_crosses 80 = .ok (.aload_n 0, 1) := by decide +kernel
theorem dX7_crosses_81 : decode cX7_crosses 81 = .ok (.getfield 7, 3) := by decide +kernel
theorem dX7_crosses_84 : decode cX7_crosses 84 = .ok (.iload_n 1, 1) := by decide +kernel
theorem dX7_crosses_85 : decode cX7_crosses 85 = .ok (.bipush 8, 2) := by decide +kernel
theorem dX7_crosses_87 : decode cX7_crosses 87 = .ok (.iadd, 1) := by decide +kernel
theorem dX7_crosses_88 : decode cX7_crosses 88 = .ok (.dup2, 1) := by decide +kernel
theorem dX7_crosses_89 : decode cX7_crosses 89 = .ok (.iaload, 1) := by decide +kernel
theorem dX7_crosses_90 : decode cX7_crosses 90 = .ok (.iconst 1, 1) := by decide +kernel
theorem dX7_crosses_91 : decode cX7_crosses 91 = .ok (.iadd, 1) := by decide +kernel
theorem dX7_crosses_92 : decode cX7_crosses 92 = .ok (.iastore, 1) := by decide +kernel
theorem dX7_crosses_93 : decode cX7_crosses 93 = .ok (.aload_n 0, 1) := by decide +kernel
theorem dX7_crosses_94 : decode cX7_crosses 94 = .ok (.getfield 7, 3) := by decide +kernel
theorem dX7_crosses_97 : decode cX7_crosses 97 = .ok (.iload 4, 2) := by decide +kernel
theorem dX7_crosses_99 : decode cX7_crosses 99 = .ok (.iconst 3, 1) := by decide +kernel
theorem dX7_crosses_100 : decode cX7_crosses 100 = .ok (.iadd, 1) := by decide +kernel
theorem dX7_crosses_101 : decode cX7_crosses 101 = .ok (.dup2, 1) := by decide +kernel
theorem dX7_crosses_102 : decode cX7_crosses 102 = .ok (.iaload, 1) := by decide +kernel
theorem dX7_crosses_103 : decode cX7_crosses 103 = .ok (.iconst 1, 1) := by decide +kernel
theorem dX7_crosses_104 : decode cX7_crosses 104 = .ok (.isub, 1) := by decide +kernel
theorem dX7_crosses_105 : decode cX7_crosses 105 = .ok (.iastore, 1) := by decide +kernel
theorem dX7_crosses_106 : decode cX7_crosses 106 = .ok (.aload_n 0, 1) := by decide +kernel
theorem dX7_crosses_107 : decode cX7_crosses 107 = .ok (.getfield 7, 3) := by decide +kernel
theorem dX7_crosses_110 : decode cX7_crosses 110 = .ok (.iload 4, 2) := by decide +kernel
theorem dX7_crosses_112 : decode cX7_crosses 112 = .ok (.iconst 4, 1) := by decide +kernel
theorem dX7_crosses_113 : decode cX7_crosses 113 = .ok (.iadd, 1) := by decide +kernel
theorem dX7_crosses_114 : decode cX7_crosses 114 = .ok (.dup2, 1) := by decide +kernel
theorem dX7_crosses_115 : decode cX7_crosses 115 = .ok (.iaload, 1) := by decide +kernel
theorem dX7_crosses_116 : decode cX7_crosses 116 = .ok (.iconst 1, 1) := by decide +kernel
theorem dX7_crosses_117 : decode cX7_crosses 117 = .ok (.iadd, 1) := by decide +kernel
theorem dX7_crosses_118 : decode cX7_crosses 118 = .ok (.iastore, 1) := by decide +kernel
theorem dX7_crosses_119 : decode cX7_crosses 119 = .ok (.return_, 1) := by decide +kernel
theorem dX7_areBoundAt_0 : decode cX7_areBoundAt 0 = .ok (.bipush (-6), 2) := by decide +kernel
theorem dX7_areBoundAt_2 : decode cX7_areBoundAt 2 = .ok (.istore 5, 2) := by decide +kernel
theorem dX7_areBoundAt_4 : decode cX7_areBoundAt 4 = .ok (.iconst 0, 1) := by decide +kernel
theorem dX7_areBoundAt_5 : decode cX7_areBoundAt 5 = .ok (.istore 6, 2) := by decide +kernel
theorem dX7_areBoundAt_7 : decode cX7_areBoundAt 7 = .ok (.iconst 0, 1) := by decide +kernel
theorem dX7_areBoundAt_8 : decode cX7_areBoundAt 8 = .ok (.istore 7, 2) := by decide +kernel
theorem dX7_areBoundAt_10 : decode cX7_areBoundAt 10 = .ok (.iload 7, 2) := by decide +kernel
theorem dX7_areBoundAt_12 : decode cX7_areBoundAt 12 = .ok (.aload_n 0, 1) := by decide +kernel
theorem dX7_areBoundAt_13 : decode cX7_areBoundAt 13 = .ok (.getfield 7, 3) := by decide +kernel
theorem dX7_areBoundAt_16 : decode cX7_areBoundAt 16 = .ok (.iload_n 1, 1) := by decide +kernel
theorem dX7_areBoundAt_17 : decode cX7_areBoundAt 17 = .ok (.bipush 8, 2) := by decide +kernel
theorem dX7_areBoundAt_19 : decode cX7_areBoundAt 19 = .ok (.iadd, 1) := by decide +kernel
theorem dX7_areBoundAt_20 : decode cX7_areBoundAt 20 = .ok (.iaload, 1) := by decide +kernel
theorem dX7_areBoundAt_21 : decode cX7_areBoundAt 21 = .ok (.if_icmp .ge 53, 3) := by decide +kernel
theorem dX7_areBoundAt_24 : decode cX7_areBoundAt 24 = .ok (.aload_n 0, 1) := by decide +kernel
theorem dX7_areBoundAt_25 : decode cX7_areBoundAt 25 = .ok (.iload_n 1, 1) := by decide +kernel
theorem dX7_areBoundAt_26 : decode cX7_areBoundAt 26 = .ok (.iload 7, 2) := by decide +kernel
theorem dX7_areBoundAt_28 : decode cX7_areBoundAt 28 = .ok (.iload_n 2, 1) := by decide +kernel
theorem dX7_areBoundAt_29 : decode cX7_areBoundAt 29 = .ok (.invokevirtual 32, 3) := by decide +kernel
theorem dX7_areBoundAt_32 : decode cX7_areBoundAt 32 = .ok (.istore 8, 2) := by decide +kernel
theorem dX7_areBoundAt_34 : decode cX7_areBoundAt 34 = .ok (.iload 8, 2) := by decide +kernel
theorem dX7_areBoundAt_36 : decode cX7_areBoundAt 36 = .ok (.iload_n 3, 1) := by decide +kernel
theorem dX7_areBoundAt_37 : decode cX7_areBoundAt 37 = .ok (.if_icmp .eq 10, 3) := by decide +kernel
theorem dX7_areBoundAt_40 : decode cX7_areBoundAt 40 = .ok (.iload 8, 2) := by decide +kernel
theorem dX7_areBoundAt_42 : decode cX7_areBoundAt 42 = .ok (.iload 4, 2) := by decide +kernel
theorem dX7_areBoundAt_44 : decode cX7_areBoundAt 44 = .ok (.if_icmp .ne 24, 3) := by decide +kernel
theorem dX7_areBoundAt_47 : decode cX7_areBoundAt 47 = .ok (.iload 6, 2) := by decide +kernel
theorem dX7_areBoundAt_49 : decode cX7_areBoundAt 49 = .ok (.iload 8, 2) := by decide +kernel
theorem dX7_areBoundAt_51 : decode cX7_areBoundAt 51 = .ok (.iload 5, 2) := by decide +kernel
theorem dX7_areBoundAt_53 : decode cX7_areBoundAt 53 = .ok (.if_icmp .ne 7, 3) := by decide +kernel
theorem dX7_areBoundAt_56 : decode cX7_areBoundAt 56 = .ok (.iconst 0, 1) := by decide +kernel
theorem dX7_areBoundAt_57 : decode cX7_areBoundAt 57 = .ok (.goto 4, 3) := by decide +kernel
theorem dX7_areBoundAt_60 : decode cX7_areBoundAt 60 = .ok (.iconst 1, 1) := by decide +kernel
theorem dX7_areBoundAt_61 : decode cX7_areBoundAt 61 = .ok (.iadd, 1) := by decide +kernel
theorem dX7_areBoundAt_62 : decode cX7_areBoundAt 62 = .ok (.istore 6, 2) := by decide +kernel
theorem dX7_areBoundAt_64 : decode cX7_areBoundAt 64 = .ok (.iload 8, 2) := by decide +kernel
theorem dX7_areBoundAt_66 : decode cX7_areBoundAt 66 = .ok (.istore 5, 2) := by decide +kernel
theorem dX7_areBoundAt_68 : decode cX7_areBoundAt 68 = .ok (.iinc 7 1, 3) := by decide +kernel
theorem dX7_areBoundAt_71 : decode cX7_areBoundAt 71 = .ok (.goto (-61), 3) := by decide +kernel
theorem dX7_areBoundAt_74 : decode cX7_areBoundAt 74 = .ok (.iload 6, 2) := by decide +kernel
theorem dX7_areBoundAt_76 : decode cX7_areBoundAt 76 = .ok (.iconst 2, 1) := by decide +kernel
theorem dX7_areBoundAt_77 : decode cX7_areBoundAt 77 = .ok (.if_icmp .le 7, 3) := by decide +kernel
theorem dX7_areBoundAt_80 : decode cX7_areBoundAt 80 = .ok (.iconst 1, 1) := by decide +kernel
theorem dX7_areBoundAt_81 : decode cX7_areBoundAt 81 = .ok (.goto 4, 3) := by decide +kernel
theorem dX7_areBoundAt_84 : decode cX7_areBoundAt 84 = .ok (.iconst 0, 1) := by decide +kernel
theorem dX7_areBoundAt_85 : decode cX7_areBoundAt 85 = .ok (.ireturn, 1) := by decide +kernel
theorem dX7_boundEdges_0 : decode cX7_boundEdges 0 = .ok (.iconst 0, 1) := by decide +kernel
theorem dX7_boundEdges_1 : decode cX7_boundEdges 1 = .ok (.istore 4, 2) := by decide +kernel
theorem dX7_boundEdges_3 : decode cX7_boundEdges 3 = .ok (.iconst 0, 1) := by decide +kernel
theorem dX7_boundEdges_4 : decode cX7_boundEdges 4 = .ok (.istore 5, 2) := by decide +kernel
theorem dX7_boundEdges_6 : decode cX7_boundEdges 6 = .ok (.iload 5, 2) := by decide +kernel
theorem dX7_boundEdges_8 : decode cX7_boundEdges 8 = .ok (.bipush 15, 2) := by decide +kernel
theorem dX7_boundEdges_10 : decode cX7_boundEdges 10 = .ok (.if_icmp .ge 34, 3) := by decide +kernel
theorem dX7_boundEdges_13 : decode cX7_boundEdges 13 = .ok (.iload 4, 2) := by decide +kernel
theorem dX7_boundEdges_15 : decode cX7_boundEdges 15 = .ok (.aload_n 0, 1) := by decide +kernel
theorem dX7_boundEdges_16 : decode cX7_boundEdges 16 = .ok (.iload_n 1, 1) := by decide +kernel
theorem dX7_boundEdges_17 : decode cX7_boundEdges 17 = .ok (.iload 5, 2) := by decide +kernel
theorem dX7_boundEdges_19 : decode cX7_boundEdges 19 = .ok (.iload_n 2, 1) := by decide +kernel
theorem dX7_boundEdges_20 : decode cX7_boundEdges 20 = .ok (.iload_n 3, 1) := by decide +kernel
theorem dX7_boundEdges_21 : decode cX7_boundEdges 21 = .ok (.invokevirtual 46, 3) := by decide +kernel
theorem dX7_boundEdges_24 : decode cX7_boundEdges 24 = .ok (.ifCond .eq 10, 3) := by decide +kernel
theorem dX7_boundEdges_27 : decode cX7_boundEdges 27 = .ok (.iconst 1, 1) := by decide +kernel
theorem dX7_boundEdges_28 : decode cX7_boundEdges 28 = .ok (.iload 5, 2) := by decide +kernel
theorem dX7_boundEdges_30 : decode cX7_boundEdges 30 = .ok (.ishl, 1) := by decide +kernel
theorem dX7_boundEdges_31 : decode cX7_boundEdges 31 = .ok (.goto 4, 3) := by decide +kernel
theorem dX7_boundEdges_34 : decode cX7_boundEdges 34 = .ok (.iconst 0, 1) := by decide +kernel
theorem dX7_boundEdges_35 : decode cX7_boundEdges 35 = .ok (.ior, 1) := by decide +kernel
theorem dX7_boundEdges_36 : decode cX7_boundEdges 36 = .ok (.istore 4, 2) := by decide +kernel
theorem dX7_boundEdges_38 : decode cX7_boundEdges 38 = .ok (.iinc 5 1, 3) := by decide +kernel
theorem dX7_boundEdges_41 : decode cX7_boundEdges 41 = .ok (.goto (-35), 3) := by decide +kernel
theorem dX7_boundEdges_44 : decode cX7_boundEdges 44 = .ok (.iload 4, 2) := by decide +kernel
theorem dX7_boundEdges_46 : decode cX7_boundEdges 46 = .ok (.ireturn, 1) := by decide +kernel
theorem dX7_boundTo_0 : decode cX7_boundTo 0 = .ok (.iconst 0, 1) := by decide +kernel
theorem dX7_boundTo_1 : decode cX7_boundTo 1 = .ok (.istore_n 3, 1) := by decide +kernel
theorem dX7_boundTo_2 : decode cX7_boundTo 2 = .ok (.iconst 0, 1) := by decide +kernel
theorem dX7_boundTo_3 : decode cX7_boundTo 3 = .ok (.istore 4, 2) := by decide +kernel
theorem dX7_boundTo_5 : decode cX7_boundTo 5 = .ok (.iload 4, 2) := by decide +kernel
theorem dX7_boundTo_7 : decode cX7_boundTo 7 = .ok (.aload_n 0, 1) := by decide +kernel
theorem dX7_boundTo_8 : decode cX7_boundTo 8 = .ok (.getfield 7, 3) := by decide +kernel
theorem dX7_boundTo_11 : decode cX7_boundTo 11 = .ok (.iload_n 1, 1) := by decide +kernel
theorem dX7_boundTo_12 : decode cX7_boundTo 12 = .ok (.iconst 5, 1) := by decide +kernel
theorem dX7_boundTo_13 : decode cX7_boundTo 13 = .ok (.iadd, 1) := by decide +kernel
theorem dX7_boundTo_14 : decode cX7_boundTo 14 = .ok (.iaload, 1) := by decide +kernel
theorem dX7_boundTo_15 : decode cX7_boundTo 15 = .ok (.if_icmp .ge 37, 3) := by decide +kernel
theorem dX7_boundTo_18 : decode cX7_boundTo 18 = .ok (.iload_n 3, 1) := by decide +kernel
theorem dX7_boundTo_19 : decode cX7_boundTo 19 = .ok (.iload 4, 2) := by decide +kernel
theorem dX7_boundTo_21 : decode cX7_boundTo 21 = .ok (.iload_n 2, 1) := by decide +kernel
theorem dX7_boundTo_22 : decode cX7_boundTo 22 = .ok (.if_icmp .eq 21, 3) := by decide +kernel
theorem dX7_boundTo_25 : decode cX7_boundTo 25 = .ok (.aload_n 0, 1) := by decide +kernel
theorem dX7_boundTo_26 : decode cX7_boundTo 26 = .ok (.iload_n 1, 1) := by decide +kernel
theorem dX7_boundTo_27 : decode cX7_boundTo 27 = .ok (.iload_n 2, 1) := by decide +kernel
theorem dX7_boundTo_28 : decode cX7_boundTo 28 = .ok (.iload 4, 2) := by decide +kernel
theorem dX7_boundTo_30 : decode cX7_boundTo 30 = .ok (.invokevirtual 50, 3) := by decide +kernel
theorem dX7_boundTo_33 : decode cX7_boundTo 33 = .ok (.ifCond .eq 10, 3) := by decide +kernel
theorem dX7_boundTo_36 : decode cX7_boundTo 36 = .ok (.iconst 1, 1) := by decide +kernel
theorem dX7_boundTo_37 : decode cX7_boundTo 37 = .ok (.iload 4, 2) := by decide +kernel
theorem dX7_boundTo_39 : decode cX7_boundTo 39 = .ok (.ishl, 1) := by decide +kernel
theorem dX7_boundTo_40 : decode cX7_boundTo 40 = .ok (.goto 4, 3) := by decide +kernel
theorem dX7_boundTo_43 : decode cX7_boundTo 43 = .ok (.iconst 0, 1) := by decide +kernel
theorem dX7_boundTo_44 : decode cX7_boundTo 44 = .ok (.ior, 1) := by decide +kernel
theorem dX7_boundTo_45 : decode cX7_boundTo 45 = .ok (.istore_n 3, 1) := by decide +kernel
theorem dX7_boundTo_46 : decode cX7_boundTo 46 = .ok (.iinc 4 1, 3) := by decide +kernel
theorem dX7_boundTo_49 : decode cX7_boundTo 49 = .ok (.goto (-44), 3) := by decide +kernel
theorem dX7_boundTo_52 : decode cX7_boundTo 52 = .ok (.iload_n 3, 1) := by decide +kernel
theorem dX7_boundTo_53 : decode cX7_boundTo 53 = .ok (.ireturn, 1) := by decide +kernel
theorem dX7_edgeOf_0 : decode cX7_edgeOf 0 = .ok (.aload_n 0, 1) := by decide +kernel
theorem dX7_edgeOf_1 : decode cX7_edgeOf 1 = .ok (.getfield 7, 3) := by decide +kernel
theorem dX7_edgeOf_4 : decode cX7_edgeOf 4 = .ok (.iload_n 1, 1) := by decide +kernel
theorem dX7_edgeOf_5 : decode cX7_edgeOf 5 = .ok (.iload_n 2, 1) := by decide +kernel
theorem dX7_edgeOf_6 : decode cX7_edgeOf 6 = .ok (.invokestatic 28, 3) := by decide +kernel
theorem dX7_edgeOf_9 : decode cX7_edgeOf 9 = .ok (.iaload, 1) := by decide +kernel
theorem dX7_edgeOf_10 : decode cX7_edgeOf 10 = .ok (.istore 5, 2) := by decide +kernel
theorem dX7_edgeOf_12 : decode cX7_edgeOf 12 = .ok (.iload_n 3, 1) := by decide +kernel
theorem dX7_edgeOf_13 : decode cX7_edgeOf 13 = .ok (.ifCond .le 11, 3) := by decide +kernel
theorem dX7_edgeOf_16 : decode cX7_edgeOf 16 = .ok (.iload 5, 2) := by decide +kernel
theorem dX7_edgeOf_18 : decode cX7_edgeOf 18 = .ok (.iload 4, 2) := by decide +kernel
theorem dX7_edgeOf_20 : decode cX7_edgeOf 20 = .ok (.iadd, 1) := by decide +kernel
theorem dX7_edgeOf_21 : decode cX7_edgeOf 21 = .ok (.goto 10, 3) := by decide +kernel
theorem dX7_edgeOf_24 : decode cX7_edgeOf 24 = .ok (.iload 5, 2) := by decide +kernel
theorem dX7_edgeOf_26 : decode cX7_edgeOf 26 = .ok (.iconst 1, 1) := by decide +kernel
theorem dX7_edgeOf_27 : decode cX7_edgeOf 27 = .ok (.isub, 1) := by decide +kernel
theorem dX7_edgeOf_28 : decode cX7_edgeOf 28 = .ok (.iload 4, 2) := by decide +kernel
theorem dX7_edgeOf_30 : decode cX7_edgeOf 30 = .ok (.isub, 1) := by decide +kernel
theorem dX7_edgeOf_31 : decode cX7_edgeOf 31 = .ok (.ireturn, 1) := by decide +kernel
theorem dX7_cost_0 : decode cX7_cost 0 = .ok (.iload_n 0, 1) := by decide +kernel
theorem dX7_cost_1 : decode cX7_cost 1 = .ok (.ifCond .le 9, 3) := by decide +kernel
theorem dX7_cost_4 : decode cX7_cost 4 = .ok (.iconst 2, 1) := by decide +kernel
theorem dX7_cost_5 : decode cX7_cost 5 = .ok (.iload_n 0, 1) := by decide +kernel
theorem dX7_cost_6 : decode cX7_cost 6 = .ok (.imul, 1) := by decide +kernel
theorem dX7_cost_7 : decode cX7_cost 7 = .ok (.goto 5, 3) := by decide +kernel
theorem dX7_cost_10 : decode cX7_cost 10 = .ok (.iload_n 0, 1) := by decide +kernel
theorem dX7_cost_11 : decode cX7_cost 11 = .ok (.ineg, 1) := by decide +kernel
theorem dX7_cost_12 : decode cX7_cost 12 = .ok (.ireturn, 1) := by decide +kernel
theorem dX7_isHeldBack_0 : decode cX7_isHeldBack 0 = .ok (.aload_n 0, 1) := by decide +kernel
theorem dX7_isHeldBack_1 : decode cX7_isHeldBack 1 = .ok (.iload_n 1, 1) := by decide +kernel
theorem dX7_isHeldBack_2 : decode cX7_isHeldBack 2 = .ok (.iload_n 2, 1) := by decide +kernel
theorem dX7_isHeldBack_3 : decode cX7_isHeldBack 3 = .ok (.invokevirtual 53, 3) := by decide +kernel
theorem dX7_isHeldBack_6 : decode cX7_isHeldBack 6 = .ok (.istore 4, 2) := by decide +kernel
theorem dX7_isHeldBack_8 : decode cX7_isHeldBack 8 = .ok (.aload_n 0, 1) := by decide +kernel
theorem dX7_isHeldBack_9 : decode cX7_isHeldBack 9 = .ok (.getfield 7, 3) := by decide +kernel
theorem dX7_isHeldBack_12 : decode cX7_isHeldBack 12 = .ok (.iload_n 1, 1) := by decide +kernel
theorem dX7_isHeldBack_13 : decode cX7_isHeldBack 13 = .ok (.iload_n 2, 1) := by decide +kernel
theorem dX7_isHeldBack_14 : decode cX7_isHeldBack 14 = .ok (.invokestatic 28, 3) := by decide +kernel
theorem dX7_isHeldBack_17 : decode cX7_isHeldBack 17 = .ok (.iaload, 1) := by decide +kernel
theorem dX7_isHeldBack_18 : decode cX7_isHeldBack 18 = .ok (.istore 5, 2) := by decide +kernel
theorem dX7_isHeldBack_20 : decode cX7_isHeldBack 20 = .ok (.iconst 0, 1) := by decide +kernel
theorem dX7_isHeldBack_21 : decode cX7_isHeldBack 21 = .ok (.istore 6, 2) := by decide +kernel
theorem dX7_isHeldBack_23 : decode cX7_isHeldBack 23 = .ok (.iconst 0, 1) := by decide +kernel
theorem dX7_isHeldBack_24 : decode cX7_isHeldBack 24 = .ok (.istore 7, 2) := by decide +kernel
theorem dX7_isHeldBack_26 : decode cX7_isHeldBack 26 = .ok (.iload 7, 2) := by decide +kernel
theorem dX7_isHeldBack_28 : decode cX7_isHeldBack 28 = .ok (.aload_n 0, 1) := by decide +kernel
theorem dX7_isHeldBack_29 : decode cX7_isHeldBack 29 = .ok (.getfield 7, 3) := by decide +kernel
theorem dX7_isHeldBack_32 : decode cX7_isHeldBack 32 = .ok (.iload_n 1, 1) := by decide +kernel
theorem dX7_isHeldBack_33 : decode cX7_isHeldBack 33 = .ok (.iconst 5, 1) := by decide +kernel
theorem dX7_isHeldBack_34 : decode cX7_isHeldBack 34 = .ok (.iadd, 1) := by decide +kernel
theorem dX7_isHeldBack_35 : decode cX7_isHeldBack 35 = .ok (.iaload, 1) := by decide +kernel
theorem dX7_isHeldBack_36 : decode cX7_isHeldBack 36 = .ok (.if_icmp .ge 92, 3) := by decide +kernel
theorem dX7_isHeldBack_39 : decode cX7_isHeldBack 39 = .ok (.iload 5, 2) := by decide +kernel
theorem dX7_isHeldBack_41 : decode cX7_isHeldBack 41 = .ok (.aload_n 0, 1) := by decide +kernel
theorem dX7_isHeldBack_42 : decode cX7_isHeldBack 42 = .ok (.getfield 7, 3) := by decide +kernel
theorem dX7_isHeldBack_45 : decode cX7_isHeldBack 45 = .ok (.iload_n 1, 1) := by decide +kernel
theorem dX7_isHeldBack_46 : decode cX7_isHeldBack 46 = .ok (.iload 7, 2) := by decide +kernel
theorem dX7_isHeldBack_48 : decode cX7_isHeldBack 48 = .ok (.invokestatic 28, 3) := by decide +kernel
theorem dX7_isHeldBack_51 : decode cX7_isHeldBack 51 = .ok (.iaload, 1) := by decide +kernel
theorem dX7_isHeldBack_52 : decode cX7_isHeldBack 52 = .ok (.isub, 1) := by decide +kernel
theorem dX7_isHeldBack_53 : decode cX7_isHeldBack 53 = .ok (.invokestatic 56, 3) := by decide +kernel
theorem dX7_isHeldBack_56 : decode cX7_isHeldBack 56 = .ok (.istore 8, 2) := by decide +kernel
theorem dX7_isHeldBack_58 : decode cX7_isHeldBack 58 = .ok (.iload 5, 2) := by decide +kernel
theorem dX7_isHeldBack_60 : decode cX7_isHeldBack 60 = .ok (.iload_n 3, 1) := by decide +kernel
theorem dX7_isHeldBack_61 : decode cX7_isHeldBack 61 = .ok (.iadd, 1) := by decide +kernel
theorem dX7_isHeldBack_62 : decode cX7_isHeldBack 62 = .ok (.aload_n 0, 1) := by decide +kernel
theorem dX7_isHeldBack_63 : decode cX7_isHeldBack 63 = .ok (.getfield 7, 3) := by decide +kernel
theorem dX7_isHeldBack_66 : decode cX7_isHeldBack 66 = .ok (.iload_n 1, 1) := by decide +kernel
theorem dX7_isHeldBack_67 : decode cX7_isHeldBack 67 = .ok (.iload 7, 2) := by decide +kernel
theorem dX7_isHeldBack_69 : decode cX7_isHeldBack 69 = .ok (.invokestatic 28, 3) := by decide +kernel
theorem dX7_isHeldBack_72 : decode cX7_isHeldBack 72 = .ok (.iaload, 1) := by decide +kernel
theorem dX7_isHeldBack_73 : decode cX7_isHeldBack 73 = .ok (.isub, 1) := by decide +kernel
theorem dX7_isHeldBack_74 : decode cX7_isHeldBack 74 = .ok (.invokestatic 56, 3) := by decide +kernel
theorem dX7_isHeldBack_77 : decode cX7_isHeldBack 77 = .ok (.istore 9, 2) := by decide +kernel
theorem dX7_isHeldBack_79 : decode cX7_isHeldBack 79 = .ok (.iload 6, 2) := by decide +kernel
theorem dX7_isHeldBack_81 : decode cX7_isHeldBack 81 = .ok (.ifCond .ne 34, 3) := by decide +kernel
theorem dX7_isHeldBack_84 : decode cX7_isHeldBack 84 = .ok (.iload 4, 2) := by decide +kernel
theorem dX7_isHeldBack_86 : decode cX7_isHeldBack 86 = .ok (.iload 7, 2) := by decide +kernel
theorem dX7_isHeldBack_88 : decode cX7_isHeldBack 88 = .ok (.ishr, 1) := by decide +kernel
theorem dX7_isHeldBack_89 : decode cX7_isHeldBack 89 = .ok (.iconst 1, 1) := by decide +kernel
theorem dX7_isHeldBack_90 : decode cX7_isHeldBack 90 = .ok (.iand, 1) := by decide +kernel
theorem dX7_isHeldBack_91 : decode cX7_isHeldBack 91 = .ok (.iconst 1, 1) := by decide +kernel
theorem dX7_isHeldBack_92 : decode cX7_isHeldBack 92 = .ok (.if_icmp .ne 27, 3) := by decide +kernel
theorem dX7_isHeldBack_95 : decode cX7_isHeldBack 95 = .ok (.iload 9, 2) := by decide +kernel
theorem dX7_isHeldBack_97 : decode cX7_isHeldBack 97 = .ok (.aload_n 0, 1) := by decide +kernel
theorem dX7_isHeldBack_98 : decode cX7_isHeldBack 98 = .ok (.getfield 7, 3) := by decide +kernel
theorem dX7_isHeldBack_101 : decode cX7_isHeldBack 101 = .ok (.iload_n 1, 1) := by decide +kernel
theorem dX7_isHeldBack_102 : decode cX7_isHeldBack 102 = .ok (.iconst 1, 1) := by decide +kernel
theorem dX7_isHeldBack_103 : decode cX7_isHeldBack 103 = .ok (.iadd, 1) := by decide +kernel
theorem dX7_isHeldBack_104 : decode cX7_isHeldBack 104 = .ok (.iaload, 1) := by decide +kernel
theorem dX7_isHeldBack_105 : decode cX7_isHeldBack 105 = .ok (.if_icmp .le 14, 3) := by decide +kernel
theorem dX7_isHeldBack_108 : decode cX7_isHeldBack 108 = .ok (.iload 9, 2) := by decide +kernel
theorem dX7_isHeldBack_110 : decode cX7_isHeldBack 110 = .ok (.iload 8, 2) := by decide +kernel
theorem dX7_isHeldBack_112 : decode cX7_isHeldBack 112 = .ok (.if_icmp .le 7, 3) := by decide +kernel
theorem dX7_isHeldBack_115 : decode cX7_isHeldBack 115 = .ok (.iconst 1, 1) := by decide +kernel
theorem dX7_isHeldBack_116 : decode cX7_isHeldBack 116 = .ok (.goto 4, 3) := by decide +kernel
theorem dX7_isHeldBack_119 : decode cX7_isHeldBack 119 = .ok (.iconst 0, 1) := by decide +kernel
theorem dX7_isHeldBack_120 : decode cX7_isHeldBack 120 = .ok (.istore 6, 2) := by decide +kernel
theorem dX7_isHeldBack_122 : decode cX7_isHeldBack 122 = .ok (.iinc 7 1, 3) := by decide +kernel
theorem dX7_isHeldBack_125 : decode cX7_isHeldBack 125 = .ok (.goto (-99), 3) := by decide +kernel
theorem dX7_isHeldBack_128 : decode cX7_isHeldBack 128 = .ok (.iload 6, 2) := by decide +kernel
theorem dX7_isHeldBack_130 : decode cX7_isHeldBack 130 = .ok (.ireturn, 1) := by decide +kernel
theorem dX7_isTooShort_0 : decode cX7_isTooShort 0 = .ok (.aload_n 0, 1) := by decide +kernel
theorem dX7_isTooShort_1 : decode cX7_isTooShort 1 = .ok (.getfield 7, 3) := by decide +kernel
theorem dX7_isTooShort_4 : decode cX7_isTooShort 4 = .ok (.iload_n 1, 1) := by decide +kernel
theorem dX7_isTooShort_5 : decode cX7_isTooShort 5 = .ok (.iload_n 2, 1) := by decide +kernel
theorem dX7_isTooShort_6 : decode cX7_isTooShort 6 = .ok (.invokestatic 28, 3) := by decide +kernel
theorem dX7_isTooShort_9 : decode cX7_isTooShort 9 = .ok (.iconst 3, 1) := by decide +kernel
theorem dX7_isTooShort_10 : decode cX7_isTooShort 10 = .ok (.iadd, 1) := by decide +kernel
theorem dX7_isTooShort_11 : decode cX7_isTooShort 11 = .ok (.iaload, 1) := by decide +kernel
theorem dX7_isTooShort_12 : decode cX7_isTooShort 12 = .ok (.istore 4, 2) := by decide +kernel
theorem dX7_isTooShort_14 : decode cX7_isTooShort 14 = .ok (.iconst 0, 1) := by decide +kernel
theorem dX7_isTooShort_15 : decode cX7_isTooShort 15 = .ok (.istore 5, 2) := by decide +kernel
theorem dX7_isTooShort_17 : decode cX7_isTooShort 17 = .ok (.iconst 0, 1) := by decide +kernel
theorem dX7_isTooShort_18 : decode cX7_isTooShort 18 = .ok (.istore 6, 2) := by decide +kernel
theorem dX7_isTooShort_20 : decode cX7_isTooShort 20 = .ok (.iload 6, 2) := by decide +kernel
theorem dX7_isTooShort_22 : decode cX7_isTooShort 22 = .ok (.iload_n 3, 1) := by decide +kernel
theorem dX7_isTooShort_23 : decode cX7_isTooShort 23 = .ok (.invokestatic 56, 3) := by decide +kernel
theorem dX7_isTooShort_26 : decode cX7_isTooShort 26 = .ok (.if_icmp .ge 54, 3) := by decide +kernel
theorem dX7_isTooShort_29 : decode cX7_isTooShort 29 = .ok (.iload 4, 2) := by decide +kernel
theorem dX7_isTooShort_31 : decode cX7_isTooShort 31 = .ok (.aload_n 0, 1) := by decide +kernel
theorem dX7_isTooShort_32 : decode cX7_isTooShort 32 = .ok (.iload_n 1, 1) := by decide +kernel
theorem dX7_isTooShort_33 : decode cX7_isTooShort 33 = .ok (.iload_n 2, 1) := by decide +kernel
theorem dX7_isTooShort_34 : decode cX7_isTooShort 34 = .ok (.aload_n 0, 1) := by decide +kernel
theorem dX7_isTooShort_35 : decode cX7_isTooShort 35 = .ok (.iload_n 1, 1) := by decide +kernel
theorem dX7_isTooShort_36 : decode cX7_isTooShort 36 = .ok (.iload_n 2, 1) := by decide +kernel
theorem dX7_isTooShort_37 : decode cX7_isTooShort 37 = .ok (.iload_n 3, 1) := by decide +kernel
theorem dX7_isTooShort_38 : decode cX7_isTooShort 38 = .ok (.iload 6, 2) := by decide +kernel
theorem dX7_isTooShort_40 : decode cX7_isTooShort 40 = .ok (.invokevirtual 60, 3) := by decide +kernel
theorem dX7_isTooShort_43 : decode cX7_isTooShort 43 = .ok (.invokevirtual 39, 3) := by decide +kernel
theorem dX7_isTooShort_46 : decode cX7_isTooShort 46 = .ok (.ifCond .eq 7, 3) := by decide +kernel
theorem dX7_isTooShort_49 : decode cX7_isTooShort 49 = .ok (.iconst 1, 1) := by decide +kernel
theorem dX7_isTooShort_50 : decode cX7_isTooShort 50 = .ok (.goto 4, 3) := by decide +kernel
theorem dX7_isTooShort_53 : decode cX7_isTooShort 53 = .ok (.iconst (-1), 1) := by decide +kernel
theorem dX7_isTooShort_54 : decode cX7_isTooShort 54 = .ok (.iadd, 1) := by decide +kernel
theorem dX7_isTooShort_55 : decode cX7_isTooShort 55 = .ok (.istore 4, 2) := by decide +kernel
theorem dX7_isTooShort_57 : decode cX7_isTooShort 57 = .ok (.iload 5, 2) := by decide +kernel
theorem dX7_isTooShort_59 : decode cX7_isTooShort 59 = .ok (.ifCond .ne 8, 3) := by decide +kernel
theorem dX7_isTooShort_62 : decode cX7_isTooShort 62 = .ok (.iload 4, 2) := by decide +kernel
theorem dX7_isTooShort_64 : decode cX7_isTooShort 64 = .ok (.ifCond .ge 7, 3) := by decide +kernel
theorem dX7_isTooShort_67 : decode cX7_isTooShort 67 = .ok (.iconst 1, 1) := by decide +kernel
theorem dX7_isTooShort_68 : decode cX7_isTooShort 68 = .ok (.goto 4, 3) := by decide +kernel
theorem dX7_isTooShort_71 : decode cX7_isTooShort 71 = .ok (.iconst 0, 1) := by decide +kernel
theorem dX7_isTooShort_72 : decode cX7_isTooShort 72 = .ok (.istore 5, 2) := by decide +kernel
theorem dX7_isTooShort_74 : decode cX7_isTooShort 74 = .ok (.iinc 6 1, 3) := by decide +kernel
theorem dX7_isTooShort_77 : decode cX7_isTooShort 77 = .ok (.goto (-57), 3) := by decide +kernel
theorem dX7_isTooShort_80 : decode cX7_isTooShort 80 = .ok (.iload 5, 2) := by decide +kernel
theorem dX7_isTooShort_82 : decode cX7_isTooShort 82 = .ok (.ireturn, 1) := by decide +kernel
theorem dX7_reason_0 : decode cX7_reason 0 = .ok (.iload_n 1, 1) := by decide +kernel
theorem dX7_reason_1 : decode cX7_reason 1 = .ok (.iload_n 2, 1) := by decide +kernel
theorem dX7_reason_2 : decode cX7_reason 2 = .ok (.invokestatic 28, 3) := by decide +kernel
theorem dX7_reason_5 : decode cX7_reason 5 = .ok (.istore 4, 2) := by decide +kernel
theorem dX7_reason_7 : decode cX7_reason 7 = .ok (.aload_n 0, 1) := by decide +kernel
theorem dX7_reason_8 : decode cX7_reason 8 = .ok (.iload_n 1, 1) := by decide +kernel
theorem dX7_reason_9 : decode cX7_reason 9 = .ok (.iload_n 2, 1) := by decide +kernel
theorem dX7_reason_10 : decode cX7_reason 10 = .ok (.invokevirtual 64, 3) := by decide +kernel
theorem dX7_reason_13 : decode cX7_reason 13 = .ok (.ifCond .eq 5, 3) := by decide +kernel
theorem dX7_reason_16 : decode cX7_reason 16 = .ok (.iconst 1, 1) := by decide +kernel
theorem dX7_reason_17 : decode cX7_reason 17 = .ok (.ireturn, 1) := by decide +kernel
theorem dX7_reason_18 : decode cX7_reason 18 = .ok (.aload_n 0, 1) := by decide +kernel
theorem dX7_reason_19 : decode cX7_reason 19 = .ok (.getfield 7, 3) := by decide +kernel
theorem dX7_reason_22 : decode cX7_reason 22 = .ok (.iload 4, 2) := by decide +kernel
theorem dX7_reason_24 : decode cX7_reason 24 = .ok (.iaload, 1) := by decide +kernel
theorem dX7_reason_25 : decode cX7_reason 25 = .ok (.iload_n 3, 1) := by decide +kernel
theorem dX7_reason_26 : decode cX7_reason 26 = .ok (.iadd, 1) := by decide +kernel
theorem dX7_reason_27 : decode cX7_reason 27 = .ok (.i2l, 1) := by decide +kernel
theorem dX7_reason_28 : decode cX7_reason 28 = .ok (.lconst 0, 1) := by decide +kernel
theorem dX7_reason_29 : decode cX7_reason 29 = .ok (.ldc2_w 68, 3) := by decide +kernel
theorem dX7_reason_32 : decode cX7_reason 32 = .ok (.invokestatic 70, 3) := by decide +kernel
theorem dX7_reason_35 : decode cX7_reason 35 = .ok (.ifCond .ne 5, 3) := by decide +kernel
theorem dX7_reason_38 : decode cX7_reason 38 = .ok (.iconst 2, 1) := by decide +kernel
theorem dX7_reason_39 : decode cX7_reason 39 = .ok (.ireturn, 1) := by decide +kernel
theorem dX7_reason_40 : decode cX7_reason 40 = .ok (.iload_n 3, 1) := by decide +kernel
theorem dX7_reason_41 : decode cX7_reason 41 = .ok (.aload_n 0, 1) := by decide +kernel
theorem dX7_reason_42 : decode cX7_reason 42 = .ok (.getfield 7, 3) := by decide +kernel
theorem dX7_reason_45 : decode cX7_reason 45 = .ok (.iload_n 1, 1) := by decide +kernel
theorem dX7_reason_46 : decode cX7_reason 46 = .ok (.iconst 0, 1) := by decide +kernel
theorem dX7_reason_47 : decode cX7_reason 47 = .ok (.iadd, 1) := by decide +kernel
theorem dX7_reason_48 : decode cX7_reason 48 = .ok (.iaload, 1) := by decide +kernel
theorem dX7_reason_49 : decode cX7_reason 49 = .ok (.if_icmp .gt 18, 3) := by decide +kernel
theorem dX7_reason_52 : decode cX7_reason 52 = .ok (.iload_n 3, 1) := by decide +kernel
theorem dX7_reason_53 : decode cX7_reason 53 = .ok (.ineg, 1) := by decide +kernel
theorem dX7_reason_54 : decode cX7_reason 54 = .ok (.iconst 2, 1) := by decide +kernel
theorem dX7_reason_55 : decode cX7_reason 55 = .ok (.aload_n 0, 1) := by decide +kernel
theorem dX7_reason_56 : decode cX7_reason 56 = .ok (.getfield 7, 3) := by decide +kernel
theorem dX7_reason_59 : decode cX7_reason 59 = .ok (.iload_n 1, 1) := by decide +kernel
theorem dX7_reason_60 : decode cX7_reason 60 = .ok (.iconst 0, 1) := by decide +kernel
theorem dX7_reason_61 : decode cX7_reason 61 = .ok (.iadd, 1) := by decide +kernel
theorem dX7_reason_62 : decode cX7_reason 62 = .ok (.iaload, 1) := by decide +kernel
theorem dX7_reason_63 : decode cX7_reason 63 = .ok (.imul, 1) := by decide +kernel
theorem dX7_reason_64 : decode cX7_reason 64 = .ok (.if_icmp .le 5, 3) := by decide +kernel
theorem dX7_reason_67 : decode cX7_reason 67 = .ok (.iconst 3, 1) := by decide +kernel
theorem dX7_reason_68 : decode cX7_reason 68 = .ok (.ireturn, 1) := by decide +kernel
theorem dX7_reason_69 : decode cX7_reason 69 = .ok (.aload_n 0, 1) := by decide +kernel
theorem dX7_reason_70 : decode cX7_reason 70 = .ok (.getfield 7, 3) := by decide +kernel
theorem dX7_reason_73 : decode cX7_reason 73 = .ok (.iload 4, 2) := by decide +kernel
theorem dX7_reason_75 : decode cX7_reason 75 = .ok (.iconst 1, 1) := by decide +kernel
theorem dX7_reason_76 : decode cX7_reason 76 = .ok (.iadd, 1) := by decide +kernel
theorem dX7_reason_77 : decode cX7_reason 77 = .ok (.iaload, 1) := by decide +kernel
theorem dX7_reason_78 : decode cX7_reason 78 = .ok (.iload_n 3, 1) := by decide +kernel
theorem dX7_reason_79 : decode cX7_reason 79 = .ok (.invokestatic 74, 3) := by decide +kernel
theorem dX7_reason_82 : decode cX7_reason 82 = .ok (.if_icmp .ge 5, 3) := by decide +kernel
theorem dX7_reason_85 : decode cX7_reason 85 = .ok (.iconst 4, 1) := by decide +kernel
theorem dX7_reason_86 : decode cX7_reason 86 = .ok (.ireturn, 1) := by decide +kernel
theorem dX7_reason_87 : decode cX7_reason 87 = .ok (.aload_n 0, 1) := by decide +kernel
theorem dX7_reason_88 : decode cX7_reason 88 = .ok (.iload_n 1, 1) := by decide +kernel
theorem dX7_reason_89 : decode cX7_reason 89 = .ok (.iload_n 2, 1) := by decide +kernel
theorem dX7_reason_90 : decode cX7_reason 90 = .ok (.iload_n 3, 1) := by decide +kernel
theorem dX7_reason_91 : decode cX7_reason 91 = .ok (.invokevirtual 77, 3) := by decide +kernel
theorem dX7_reason_94 : decode cX7_reason 94 = .ok (.ifCond .eq 5, 3) := by decide +kernel
theorem dX7_reason_97 : decode cX7_reason 97 = .ok (.iconst 5, 1) := by decide +kernel
theorem dX7_reason_98 : decode cX7_reason 98 = .ok (.ireturn, 1) := by decide +kernel
theorem dX7_reason_99 : decode cX7_reason 99 = .ok (.aload_n 0, 1) := by decide +kernel
theorem dX7_reason_100 : decode cX7_reason 100 = .ok (.iload_n 1, 1) := by decide +kernel
theorem dX7_reason_101 : decode cX7_reason 101 = .ok (.iload_n 2, 1) := by decide +kernel
theorem dX7_reason_102 : decode cX7_reason 102 = .ok (.iload_n 3, 1) := by decide +kernel
theorem dX7_reason_103 : decode cX7_reason 103 = .ok (.invokevirtual 80, 3) := by decide +kernel
theorem dX7_reason_106 : decode cX7_reason 106 = .ok (.ifCond .eq 8, 3) := by decide +kernel
theorem dX7_reason_109 : decode cX7_reason 109 = .ok (.bipush 6, 2) := by decide +kernel
theorem dX7_reason_111 : decode cX7_reason 111 = .ok (.goto 4, 3) := by decide +kernel
theorem dX7_reason_114 : decode cX7_reason 114 = .ok (.iconst 0, 1) := by decide +kernel
theorem dX7_reason_115 : decode cX7_reason 115 = .ok (.ireturn, 1) := by decide +kernel
theorem dX7_leaps_0 : decode cX7_leaps 0 = .ok (.iload_n 1, 1) := by decide +kernel
theorem dX7_leaps_1 : decode cX7_leaps 1 = .ok (.iload_n 2, 1) := by decide +kernel
theorem dX7_leaps_2 : decode cX7_leaps 2 = .ok (.invokestatic 28, 3) := by decide +kernel
theorem dX7_leaps_5 : decode cX7_leaps 5 = .ok (.istore 4, 2) := by decide +kernel
theorem dX7_leaps_7 : decode cX7_leaps 7 = .ok (.aload_n 0, 1) := by decide +kernel
theorem dX7_leaps_8 : decode cX7_leaps 8 = .ok (.getfield 7, 3) := by decide +kernel
theorem dX7_leaps_11 : decode cX7_leaps 11 = .ok (.iload 4, 2) := by decide +kernel
theorem dX7_leaps_13 : decode cX7_leaps 13 = .ok (.iaload, 1) := by decide +kernel
theorem dX7_leaps_14 : decode cX7_leaps 14 = .ok (.istore 5, 2) := by decide +kernel
theorem dX7_leaps_16 : decode cX7_leaps 16 = .ok (.iconst 0, 1) := by decide +kernel
theorem dX7_leaps_17 : decode cX7_leaps 17 = .ok (.istore 6, 2) := by decide +kernel
theorem dX7_leaps_19 : decode cX7_leaps 19 = .ok (.iload 6, 2) := by decide +kernel
theorem dX7_leaps_21 : decode cX7_leaps 21 = .ok (.iload_n 3, 1) := by decide +kernel
theorem dX7_leaps_22 : decode cX7_leaps 22 = .ok (.invokestatic 56, 3) := by decide +kernel
theorem dX7_leaps_25 : decode cX7_leaps 25 = .ok (.if_icmp .ge 34, 3) := by decide +kernel
theorem dX7_leaps_28 : decode cX7_leaps 28 = .ok (.aload_n 0, 1) := by decide +kernel
theorem dX7_leaps_29 : decode cX7_leaps 29 = .ok (.iload_n 1, 1) := by decide +kernel
theorem dX7_leaps_30 : decode cX7_leaps 30 = .ok (.iload_n 2, 1) := by decide +kernel
theorem dX7_leaps_31 : decode cX7_leaps 31 = .ok (.iload_n 3, 1) := by decide +kernel
theorem dX7_leaps_32 : decode cX7_leaps 32 = .ok (.ifCond .le 11, 3) := by decide +kernel
theorem dX7_leaps_35 : decode cX7_leaps 35 = .ok (.iload 5, 2) := by decide +kernel
theorem dX7_leaps_37 : decode cX7_leaps 37 = .ok (.iload 6, 2) := by decide +kernel
theorem dX7_leaps_39 : decode cX7_leaps 39 = .ok (.iadd, 1) := by decide +kernel
theorem dX7_leaps_40 : decode cX7_leaps 40 = .ok (.goto 10, 3) := by decide +kernel
theorem dX7_leaps_43 : decode cX7_leaps 43 = .ok (.iload 5, 2) := by decide +kernel
theorem dX7_leaps_45 : decode cX7_leaps 45 = .ok (.iconst 1, 1) := by decide +kernel
theorem dX7_leaps_46 : decode cX7_leaps 46 = .ok (.isub, 1) := by decide +kernel
theorem dX7_leaps_47 : decode cX7_leaps 47 = .ok (.iload 6, 2) := by decide +kernel
theorem dX7_leaps_49 : decode cX7_leaps 49 = .ok (.isub, 1) := by decide +kernel
theorem dX7_leaps_50 : decode cX7_leaps 50 = .ok (.invokevirtual 83, 3) := by decide +kernel
theorem dX7_leaps_53 : decode cX7_leaps 53 = .ok (.iinc 6 1, 3) := by decide +kernel
theorem dX7_leaps_56 : decode cX7_leaps 56 = .ok (.goto (-37), 3) := by decide +kernel
theorem dX7_leaps_59 : decode cX7_leaps 59 = .ok (.aload_n 0, 1) := by decide +kernel
theorem dX7_leaps_60 : decode cX7_leaps 60 = .ok (.getfield 7, 3) := by decide +kernel
theorem dX7_leaps_63 : decode cX7_leaps 63 = .ok (.iload 4, 2) := by decide +kernel
theorem dX7_leaps_65 : decode cX7_leaps 65 = .ok (.iload 5, 2) := by decide +kernel
theorem dX7_leaps_67 : decode cX7_leaps 67 = .ok (.iload_n 3, 1) := by decide +kernel
theorem dX7_leaps_68 : decode cX7_leaps 68 = .ok (.iadd, 1) := by decide +kernel
theorem dX7_leaps_69 : decode cX7_leaps 69 = .ok (.iastore, 1) := by decide +kernel
theorem dX7_leaps_70 : decode cX7_leaps 70 = .ok (.aload_n 0, 1) := by decide +kernel
theorem dX7_leaps_71 : decode cX7_leaps 71 = .ok (.getfield 7, 3) := by decide +kernel
theorem dX7_leaps_74 : decode cX7_leaps 74 = .ok (.iload 4, 2) := by decide +kernel
theorem dX7_leaps_76 : decode cX7_leaps 76 = .ok (.iconst 1, 1) := by decide +kernel
theorem dX7_leaps_77 : decode cX7_leaps 77 = .ok (.iadd, 1) := by decide +kernel
theorem dX7_leaps_78 : decode cX7_leaps 78 = .ok (.dup2, 1) := by decide +kernel
theorem dX7_leaps_79 : decode cX7_leaps 79 = .ok (.iaload, 1) := by decide +kernel
theorem dX7_leaps_80 : decode cX7_leaps 80 = .ok (.iload_n 3, 1) := by decide +kernel
theorem dX7_leaps_81 : decode cX7_leaps 81 = .ok (.invokestatic 74, 3) := by decide +kernel
theorem dX7_leaps_84 : decode cX7_leaps 84 = .ok (.isub, 1) := by decide +kernel
theorem dX7_leaps_85 : decode cX7_leaps 85 = .ok (.iastore, 1) := by decide +kernel
theorem dX7_leaps_86 : decode cX7_leaps 86 = .ok (.aload_n 0, 1) := by decide +kernel
theorem dX7_leaps_87 : decode cX7_leaps 87 = .ok (.getfield 7, 3) := by decide +kernel
theorem dX7_leaps_90 : decode cX7_leaps 90 = .ok (.iload_n 1, 1) := by decide +kernel
theorem dX7_leaps_91 : decode cX7_leaps 91 = .ok (.bipush 6, 2) := by decide +kernel
theorem dX7_leaps_93 : decode cX7_leaps 93 = .ok (.iadd, 1) := by decide +kernel
theorem dX7_leaps_94 : decode cX7_leaps 94 = .ok (.dup2, 1) := by decide +kernel
theorem dX7_leaps_95 : decode cX7_leaps 95 = .ok (.iaload, 1) := by decide +kernel
theorem dX7_leaps_96 : decode cX7_leaps 96 = .ok (.iconst 1, 1) := by decide +kernel
theorem dX7_leaps_97 : decode cX7_leaps 97 = .ok (.iadd, 1) := by decide +kernel
theorem dX7_leaps_98 : decode cX7_leaps 98 = .ok (.iastore, 1) := by decide +kernel
theorem dX7_leaps_99 : decode cX7_leaps 99 = .ok (.aload_n 0, 1) := by decide +kernel
theorem dX7_leaps_100 : decode cX7_leaps 100 = .ok (.getfield 7, 3) := by decide +kernel
theorem dX7_leaps_103 : decode cX7_leaps 103 = .ok (.iload 4, 2) := by decide +kernel
theorem dX7_leaps_105 : decode cX7_leaps 105 = .ok (.iaload, 1) := by decide +kernel
theorem dX7_leaps_106 : decode cX7_leaps 106 = .ok (.ireturn, 1) := by decide +kernel
theorem dX7_turn_0 : decode cX7_turn 0 = .ok (.aload_n 0, 1) := by decide +kernel
theorem dX7_turn_1 : decode cX7_turn 1 = .ok (.getfield 7, 3) := by decide +kernel
theorem dX7_turn_4 : decode cX7_turn 4 = .ok (.iload_n 1, 1) := by decide +kernel
theorem dX7_turn_5 : decode cX7_turn 5 = .ok (.iconst 4, 1) := by decide +kernel
theorem dX7_turn_6 : decode cX7_turn 6 = .ok (.iadd, 1) := by decide +kernel
theorem dX7_turn_7 : decode cX7_turn 7 = .ok (.dup2, 1) := by decide +kernel
theorem dX7_turn_8 : decode cX7_turn 8 = .ok (.iaload, 1) := by decide +kernel
theorem dX7_turn_9 : decode cX7_turn 9 = .ok (.iconst 1, 1) := by decide +kernel
theorem dX7_turn_10 : decode cX7_turn 10 = .ok (.iadd, 1) := by decide +kernel
theorem dX7_turn_11 : decode cX7_turn 11 = .ok (.iastore, 1) := by decide +kernel
theorem dX7_turn_12 : decode cX7_turn 12 = .ok (.iconst 0, 1) := by decide +kernel
theorem dX7_turn_13 : decode cX7_turn 13 = .ok (.istore_n 2, 1) := by decide +kernel
theorem dX7_turn_14 : decode cX7_turn 14 = .ok (.iload_n 2, 1) := by decide +kernel
theorem dX7_turn_15 : decode cX7_turn 15 = .ok (.aload_n 0, 1) := by decide +kernel
theorem dX7_turn_16 : decode cX7_turn 16 = .ok (.getfield 7, 3) := by decide +kernel
theorem dX7_turn_19 : decode cX7_turn 19 = .ok (.iload_n 1, 1) := by decide +kernel
theorem dX7_turn_20 : decode cX7_turn 20 = .ok (.iconst 5, 1) := by decide +kernel
theorem dX7_turn_21 : decode cX7_turn 21 = .ok (.iadd, 1) := by decide +kernel
theorem dX7_turn_22 : decode cX7_turn 22 = .ok (.iaload, 1) := by decide +kernel
theorem dX7_turn_23 : decode cX7_turn 23 = .ok (.if_icmp .ge 60, 3) := by decide +kernel
theorem dX7_turn_26 : decode cX7_turn 26 = .ok (.iload_n 1, 1) := by decide +kernel
theorem dX7_turn_27 : decode cX7_turn 27 = .ok (.iload_n 2, 1) := by decide +kernel
theorem dX7_turn_28 : decode cX7_turn 28 = .ok (.invokestatic 28, 3) := by decide +kernel
theorem dX7_turn_31 : decode cX7_turn 31 = .ok (.istore_n 3, 1) := by decide +kernel
theorem dX7_turn_32 : decode cX7_turn 32 = .ok (.aload_n 0, 1) := by decide +kernel
theorem dX7_turn_33 : decode cX7_turn 33 = .ok (.getfield 7, 3) := by decide +kernel
theorem dX7_turn_36 : decode cX7_turn 36 = .ok (.iload_n 3, 1) := by decide +kernel
theorem dX7_turn_37 : decode cX7_turn 37 = .ok (.iconst 2, 1) := by decide +kernel
theorem dX7_turn_38 : decode cX7_turn 38 = .ok (.iadd, 1) := by decide +kernel
theorem dX7_turn_39 : decode cX7_turn 39 = .ok (.iaload, 1) := by decide +kernel
theorem dX7_turn_40 : decode cX7_turn 40 = .ok (.aload_n 0, 1) := by decide +kernel
theorem dX7_turn_41 : decode cX7_turn 41 = .ok (.getfield 7, 3) := by decide +kernel
theorem dX7_turn_44 : decode cX7_turn 44 = .ok (.iload_n 1, 1) := by decide +kernel
theorem dX7_turn_45 : decode cX7_turn 45 = .ok (.iconst 4, 1) := by decide +kernel
theorem dX7_turn_46 : decode cX7_turn 46 = .ok (.iadd, 1) := by decide +kernel
theorem dX7_turn_47 : decode cX7_turn 47 = .ok (.iaload, 1) := by decide +kernel
theorem dX7_turn_48 : decode cX7_turn 48 = .ok (.if_icmp .ne 29, 3) := by decide +kernel
theorem dX7_turn_51 : decode cX7_turn 51 = .ok (.aload_n 0, 1) := by decide +kernel
theorem dX7_turn_52 : decode cX7_turn 52 = .ok (.getfield 7, 3) := by decide +kernel
theorem dX7_turn_55 : decode cX7_turn 55 = .ok (.iload_n 3, 1) := by decide +kernel
theorem dX7_turn_56 : decode cX7_turn 56 = .ok (.iconst 2, 1) := by decide +kernel
theorem dX7_turn_57 : decode cX7_turn 57 = .ok (.iadd, 1) := by decide +kernel
theorem dX7_turn_58 : decode cX7_turn 58 = .ok (.bipush (-6), 2) := by decide +kernel
theorem dX7_turn_60 : decode cX7_turn 60 = .ok (.iastore, 1) := by decide +kernel
theorem dX7_turn_61 : decode cX7_turn 61 = .ok (.aload_n 0, 1) := by decide +kernel
theorem dX7_turn_62 : decode cX7_turn 62 = .ok (.getfield 7, 3) := by decide +kernel
theorem dX7_turn_65 : decode cX7_turn 65 = .ok (.iload_n 3, 1) := by decide +kernel
theorem dX7_turn_66 : decode cX7_turn 66 = .ok (.iconst 1, 1) := by decide +kernel
theorem dX7_turn_67 : decode cX7_turn 67 = .ok (.iadd, 1) := by decide +kernel
theorem dX7_turn_68 : decode cX7_turn 68 = .ok (.aload_n 0, 1) := by decide +kernel
theorem dX7_turn_69 : decode cX7_turn 69 = .ok (.getfield 7, 3) := by decide +kernel
theorem dX7_turn_72 : decode cX7_turn 72 = .ok (.iload_n 1, 1) := by decide +kernel
theorem dX7_turn_73 : decode cX7_turn 73 = .ok (.iconst 3, 1) := by decide +kernel
theorem dX7_turn_74 : decode cX7_turn 74 = .ok (.iadd, 1) := by decide +kernel
theorem dX7_turn_75 : decode cX7_turn 75 = .ok (.iaload, 1) := by decide +kernel
theorem dX7_turn_76 : decode cX7_turn 76 = .ok (.iastore, 1) := by decide +kernel
theorem dX7_turn_77 : decode cX7_turn 77 = .ok (.iinc 2 1, 3) := by decide +kernel
theorem dX7_turn_80 : decode cX7_turn 80 = .ok (.goto (-66), 3) := by decide +kernel
theorem dX7_turn_83 : decode cX7_turn 83 = .ok (.iconst 0, 1) := by decide +kernel
theorem dX7_turn_84 : decode cX7_turn 84 = .ok (.istore_n 2, 1) := by decide +kernel
theorem dX7_turn_85 : decode cX7_turn 85 = .ok (.aload_n 0, 1) := by decide +kernel
theorem dX7_turn_86 : decode cX7_turn 86 = .ok (.getfield 7, 3) := by decide +kernel
theorem dX7_turn_89 : decode cX7_turn 89 = .ok (.iload_n 1, 1) := by decide +kernel
theorem dX7_turn_90 : decode cX7_turn 90 = .ok (.bipush 9, 2) := by decide +kernel
theorem dX7_turn_92 : decode cX7_turn 92 = .ok (.iadd, 1) := by decide +kernel
theorem dX7_turn_93 : decode cX7_turn 93 = .ok (.iaload, 1) := by decide +kernel
theorem dX7_turn_94 : decode cX7_turn 94 = .ok (.ifCond .le 187, 3) := by decide +kernel
theorem dX7_turn_97 : decode cX7_turn 97 = .ok (.aload_n 0, 1) := by decide +kernel
theorem dX7_turn_98 : decode cX7_turn 98 = .ok (.getfield 7, 3) := by decide +kernel
theorem dX7_turn_101 : decode cX7_turn 101 = .ok (.iload_n 1, 1) := by decide +kernel
theorem dX7_turn_102 : decode cX7_turn 102 = .ok (.iconst 0, 1) := by decide +kernel
theorem dX7_turn_103 : decode cX7_turn 103 = .ok (.invokestatic 87, 3) := by decide +kernel
theorem dX7_turn_106 : decode cX7_turn 106 = .ok (.iaload, 1) := by decide +kernel
theorem dX7_turn_107 : decode cX7_turn 107 = .ok (.aload_n 0, 1) := by decide +kernel
theorem dX7_turn_108 : decode cX7_turn 108 = .ok (.getfield 7, 3) := by decide +kernel
theorem dX7_turn_111 : decode cX7_turn 111 = .ok (.iload_n 1, 1) := by decide +kernel
theorem dX7_turn_112 : decode cX7_turn 112 = .ok (.iconst 4, 1) := by decide +kernel
theorem dX7_turn_113 : decode cX7_turn 113 = .ok (.iadd, 1) := by decide +kernel
theorem dX7_turn_114 : decode cX7_turn 114 = .ok (.iaload, 1) := by decide +kernel
theorem dX7_turn_115 : decode cX7_turn 115 = .ok (.if_icmp .ne 166, 3) := by decide +kernel
theorem dX7_turn_118 : decode cX7_turn 118 = .ok (.aload_n 0, 1) := by decide +kernel
theorem dX7_turn_119 : decode cX7_turn 119 = .ok (.getfield 7, 3) := by decide +kernel
theorem dX7_turn_122 : decode cX7_turn 122 = .ok (.iload_n 1, 1) := by decide +kernel
theorem dX7_turn_123 : decode cX7_turn 123 = .ok (.iconst 0, 1) := by decide +kernel
theorem dX7_turn_124 : decode cX7_turn 124 = .ok (.invokestatic 87, 3) := by decide +kernel
theorem dX7_turn_127 : decode cX7_turn 127 = .ok (.iconst 1, 1) := by decide +kernel
theorem dX7_turn_128 : decode cX7_turn 128 = .ok (.iadd, 1) := by decide +kernel
theorem dX7_turn_129 : decode cX7_turn 129 = .ok (.iaload, 1) := by decide +kernel
theorem dX7_turn_130 : decode cX7_turn 130 = .ok (.istore_n 3, 1) := by decide +kernel
theorem dX7_turn_131 : decode cX7_turn 131 = .ok (.aload_n 0, 1) := by decide +kernel
theorem dX7_turn_132 : decode cX7_turn 132 = .ok (.getfield 7, 3) := by decide +kernel
theorem dX7_turn_135 : decode cX7_turn 135 = .ok (.iload_n 1, 1) := by decide +kernel
theorem dX7_turn_136 : decode cX7_turn 136 = .ok (.iconst 0, 1) := by decide +kernel
theorem dX7_turn_137 : decode cX7_turn 137 = .ok (.invokestatic 87, 3) := by decide +kernel
theorem dX7_turn_140 : decode cX7_turn 140 = .ok (.iconst 2, 1) := by decide +kernel
theorem dX7_turn_141 : decode cX7_turn 141 = .ok (.iadd, 1) := by decide +kernel
theorem dX7_turn_142 : decode cX7_turn 142 = .ok (.iaload, 1) := by decide +kernel
theorem dX7_turn_143 : decode cX7_turn 143 = .ok (.istore 4, 2) := by decide +kernel
theorem dX7_turn_145 : decode cX7_turn 145 = .ok (.aload_n 0, 1) := by decide +kernel
theorem dX7_turn_146 : decode cX7_turn 146 = .ok (.iload_n 1, 1) := by decide +kernel
theorem dX7_turn_147 : decode cX7_turn 147 = .ok (.iload_n 3, 1) := by decide +kernel
theorem dX7_turn_148 : decode cX7_turn 148 = .ok (.iload 4, 2) := by decide +kernel
theorem dX7_turn_150 : decode cX7_turn 150 = .ok (.invokevirtual 90, 3) := by decide +kernel
theorem dX7_turn_153 : decode cX7_turn 153 = .ok (.ifCond .ne 7, 3) := by decide +kernel
theorem dX7_turn_156 : decode cX7_turn 156 = .ok (.iconst 1, 1) := by decide +kernel
theorem dX7_turn_157 : decode cX7_turn 157 = .ok (.goto 4, 3) := by decide +kernel
theorem dX7_turn_160 : decode cX7_turn 160 = .ok (.iconst 0, 1) := by decide +kernel
theorem dX7_turn_161 : decode cX7_turn 161 = .ok (.istore 5, 2) := by decide +kernel
theorem dX7_turn_163 : decode cX7_turn 163 = .ok (.iload 5, 2) := by decide +kernel
theorem dX7_turn_165 : decode cX7_turn 165 = .ok (.ifCond .eq 14, 3) := by decide +kernel
theorem dX7_turn_168 : decode cX7_turn 168 = .ok (.aload_n 0, 1) := by decide +kernel
theorem dX7_turn_169 : decode cX7_turn 169 = .ok (.iload_n 1, 1) := by decide +kernel
theorem dX7_turn_170 : decode cX7_turn 170 = .ok (.iload_n 3, 1) := by decide +kernel
theorem dX7_turn_171 : decode cX7_turn 171 = .ok (.iload 4, 2) := by decide +kernel
theorem dX7_turn_173 : decode cX7_turn 173 = .ok (.invokevirtual 93, 3) := by decide +kernel
theorem dX7_turn_176 : decode cX7_turn 176 = .ok (.goto 5, 3) := by decide +kernel
theorem dX7_turn_179 : decode cX7_turn 179 = .ok (.bipush (-6), 2) := by decide +kernel
theorem dX7_turn_181 : decode cX7_turn 181 = .ok (.istore 6, 2) := by decide +kernel
theorem dX7_turn_183 : decode cX7_turn 183 = .ok (.iload_n 2, 1) := by decide +kernel
theorem dX7_turn_184 : decode cX7_turn 184 = .ok (.iload 5, 2) := by decide +kernel
theorem dX7_turn_186 : decode cX7_turn 186 = .ok (.ifCond .eq 7, 3) := by decide +kernel
theorem dX7_turn_189 : decode cX7_turn 189 = .ok (.iconst 1, 1) := by decide +kernel
theorem dX7_turn_190 : decode cX7_turn 190 = .ok (.goto 4, 3) := by decide +kernel
theorem dX7_turn_193 : decode cX7_turn 193 = .ok (.iconst 0, 1) := by decide +kernel
theorem dX7_turn_194 : decode cX7_turn 194 = .ok (.iadd, 1) := by decide +kernel
theorem dX7_turn_195 : decode cX7_turn 195 = .ok (.istore_n 2, 1) := by decide +kernel
theorem dX7_turn_196 : decode cX7_turn 196 = .ok (.aload_n 0, 1) := by decide +kernel
theorem dX7_turn_197 : decode cX7_turn 197 = .ok (.getfield 7, 3) := by decide +kernel
theorem dX7_turn_200 : decode cX7_turn 200 = .ok (.iload_n 1, 1) := by decide +kernel
theorem dX7_turn_201 : decode cX7_turn 201 = .ok (.bipush 7, 2) := by decide +kernel
theorem dX7_turn_203 : decode cX7_turn 203 = .ok (.iadd, 1) := by decide +kernel
theorem dX7_turn_204 : decode cX7_turn 204 = .ok (.dup2, 1) := by decide +kernel
theorem dX7_turn_205 : decode cX7_turn 205 = .ok (.iaload, 1) := by decide +kernel
theorem dX7_turn_206 : decode cX7_turn 206 = .ok (.iload 5, 2) := by decide +kernel
theorem dX7_turn_208 : decode cX7_turn 208 = .ok (.ifCond .eq 7, 3) := by decide +kernel
theorem dX7_turn_211 : decode cX7_turn 211 = .ok (.iconst 0, 1) := by decide +kernel
theorem dX7_turn_212 : decode cX7_turn 212 = .ok (.goto 4, 3) := by decide +kernel
theorem dX7_turn_215 : decode cX7_turn 215 = .ok (.iconst 1, 1) := by decide +kernel
theorem dX7_turn_216 : decode cX7_turn 216 = .ok (.iadd, 1) := by decide +kernel
theorem dX7_turn_217 : decode cX7_turn 217 = .ok (.iastore, 1) := by decide +kernel
theorem dX7_turn_218 : decode cX7_turn 218 = .ok (.aload_n 0, 1) := by decide +kernel
theorem dX7_turn_219 : decode cX7_turn 219 = .ok (.getfield 7, 3) := by decide +kernel
theorem dX7_turn_222 : decode cX7_turn 222 = .ok (.iload_n 1, 1) := by decide +kernel
theorem dX7_turn_223 : decode cX7_turn 223 = .ok (.bipush 9, 2) := by decide +kernel
theorem dX7_turn_225 : decode cX7_turn 225 = .ok (.iadd, 1) := by decide +kernel
theorem dX7_turn_226 : decode cX7_turn 226 = .ok (.dup2, 1) := by decide +kernel
theorem dX7_turn_227 : decode cX7_turn 227 = .ok (.iaload, 1) := by decide +kernel
theorem dX7_turn_228 : decode cX7_turn 228 = .ok (.iconst 1, 1) := by decide +kernel
theorem dX7_turn_229 : decode cX7_turn 229 = .ok (.isub, 1) := by decide +kernel
theorem dX7_turn_230 : decode cX7_turn 230 = .ok (.iastore, 1) := by decide +kernel
theorem dX7_turn_231 : decode cX7_turn 231 = .ok (.iload_n 1, 1) := by decide +kernel
theorem dX7_turn_232 : decode cX7_turn 232 = .ok (.iconst 0, 1) := by decide +kernel
theorem dX7_turn_233 : decode cX7_turn 233 = .ok (.invokestatic 87, 3) := by decide +kernel
theorem dX7_turn_236 : decode cX7_turn 236 = .ok (.istore 7, 2) := by decide +kernel
theorem dX7_turn_238 : decode cX7_turn 238 = .ok (.iload 7, 2) := by decide +kernel
theorem dX7_turn_240 : decode cX7_turn 240 = .ok (.iload_n 1, 1) := by decide +kernel
theorem dX7_turn_241 : decode cX7_turn 241 = .ok (.aload_n 0, 1) := by decide +kernel
theorem dX7_turn_242 : decode cX7_turn 242 = .ok (.getfield 7, 3) := by decide +kernel
theorem dX7_turn_245 : decode cX7_turn 245 = .ok (.iload_n 1, 1) := by decide +kernel
theorem dX7_turn_246 : decode cX7_turn 246 = .ok (.bipush 9, 2) := by decide +kernel
theorem dX7_turn_248 : decode cX7_turn 248 = .ok (.iadd, 1) := by decide +kernel
theorem dX7_turn_249 : decode cX7_turn 249 = .ok (.iaload, 1) := by decide +kernel
theorem dX7_turn_250 : decode cX7_turn 250 = .ok (.invokestatic 87, 3) := by decide +kernel
theorem dX7_turn_253 : decode cX7_turn 253 = .ok (.if_icmp .ge 25, 3) := by decide +kernel
theorem dX7_turn_256 : decode cX7_turn 256 = .ok (.aload_n 0, 1) := by decide +kernel
theorem dX7_turn_257 : decode cX7_turn 257 = .ok (.getfield 7, 3) := by decide +kernel
theorem dX7_turn_260 : decode cX7_turn 260 = .ok (.iload 7, 2) := by decide +kernel
theorem dX7_turn_262 : decode cX7_turn 262 = .ok (.aload_n 0, 1) := by decide +kernel
theorem dX7_turn_263 : decode cX7_turn 263 = .ok (.getfield 7, 3) := by decide +kernel
theorem dX7_turn_266 : decode cX7_turn 266 = .ok (.iload 7, 2) := by decide +kernel
theorem dX7_turn_268 : decode cX7_turn 268 = .ok (.iconst 3, 1) := by decide +kernel
theorem dX7_turn_269 : decode cX7_turn 269 = .ok (.iadd, 1) := by decide +kernel
theorem dX7_turn_270 : decode cX7_turn 270 = .ok (.iaload, 1) := by decide +kernel
theorem dX7_turn_271 : decode cX7_turn 271 = .ok (.iastore, 1) := by decide +kernel
theorem dX7_turn_272 : decode cX7_turn 272 = .ok (.iinc 7 1, 3) := by decide +kernel
theorem dX7_turn_275 : decode cX7_turn 275 = .ok (.goto (-37), 3) := by decide +kernel
theorem dX7_turn_278 : decode cX7_turn 278 = .ok (.goto (-193), 3) := by decide +kernel
theorem dX7_turn_281 : decode cX7_turn 281 = .ok (.iconst 0, 1) := by decide +kernel
theorem dX7_turn_282 : decode cX7_turn 282 = .ok (.istore_n 3, 1) := by decide +kernel
theorem dX7_turn_283 : decode cX7_turn 283 = .ok (.iload_n 3, 1) := by decide +kernel
theorem dX7_turn_284 : decode cX7_turn 284 = .ok (.aload_n 0, 1) := by decide +kernel
theorem dX7_turn_285 : decode cX7_turn 285 = .ok (.getfield 7, 3) := by decide +kernel
theorem dX7_turn_288 : decode cX7_turn 288 = .ok (.iload_n 1, 1) := by decide +kernel
theorem dX7_turn_289 : decode cX7_turn 289 = .ok (.iconst 5, 1) := by decide +kernel
theorem dX7_turn_290 : decode cX7_turn 290 = .ok (.iadd, 1) := by decide +kernel
theorem dX7_turn_291 : decode cX7_turn 291 = .ok (.iaload, 1) := by decide +kernel
theorem dX7_turn_292 : decode cX7_turn 292 = .ok (.if_icmp .ge 62, 3) := by decide +kernel
theorem dX7_turn_295 : decode cX7_turn 295 = .ok (.iload_n 1, 1) := by decide +kernel
theorem dX7_turn_296 : decode cX7_turn 296 = .ok (.iload_n 3, 1) := by decide +kernel
theorem dX7_turn_297 : decode cX7_turn 297 = .ok (.invokestatic 28, 3) := by decide +kernel
theorem dX7_turn_300 : decode cX7_turn 300 = .ok (.istore 4, 2) := by decide +kernel
theorem dX7_turn_302 : decode cX7_turn 302 = .ok (.aload_n 0, 1) := by decide +kernel
theorem dX7_turn_303 : decode cX7_turn 303 = .ok (.getfield 7, 3) := by decide +kernel
theorem dX7_turn_306 : decode cX7_turn 306 = .ok (.iload 4, 2) := by decide +kernel
theorem dX7_turn_308 : decode cX7_turn 308 = .ok (.iconst 1, 1) := by decide +kernel
theorem dX7_turn_309 : decode cX7_turn 309 = .ok (.iadd, 1) := by decide +kernel
theorem dX7_turn_310 : decode cX7_turn 310 = .ok (.dup2, 1) := by decide +kernel
theorem dX7_turn_311 : decode cX7_turn 311 = .ok (.iaload, 1) := by decide +kernel
theorem dX7_turn_312 : decode cX7_turn 312 = .ok (.aload_n 0, 1) := by decide +kernel
theorem dX7_turn_313 : decode cX7_turn 313 = .ok (.iload_n 1, 1) := by decide +kernel
theorem dX7_turn_314 : decode cX7_turn 314 = .ok (.iload_n 3, 1) := by decide +kernel
theorem dX7_turn_315 : decode cX7_turn 315 = .ok (.invokevirtual 64, 3) := by decide +kernel
theorem dX7_turn_318 : decode cX7_turn 318 = .ok (.ifCond .ne 27, 3) := by decide +kernel
theorem dX7_turn_321 : decode cX7_turn 321 = .ok (.aload_n 0, 1) := by decide +kernel
theorem dX7_turn_322 : decode cX7_turn 322 = .ok (.getfield 7, 3) := by decide +kernel
theorem dX7_turn_325 : decode cX7_turn 325 = .ok (.iload 4, 2) := by decide +kernel
theorem dX7_turn_327 : decode cX7_turn 327 = .ok (.iconst 1, 1) := by decide +kernel
theorem dX7_turn_328 : decode cX7_turn 328 = .ok (.iadd, 1) := by decide +kernel
theorem dX7_turn_329 : decode cX7_turn 329 = .ok (.iaload, 1) := by decide +kernel
theorem dX7_turn_330 : decode cX7_turn 330 = .ok (.aload_n 0, 1) := by decide +kernel
theorem dX7_turn_331 : decode cX7_turn 331 = .ok (.getfield 7, 3) := by decide +kernel
theorem dX7_turn_334 : decode cX7_turn 334 = .ok (.iload_n 1, 1) := by decide +kernel
theorem dX7_turn_335 : decode cX7_turn 335 = .ok (.iconst 3, 1) := by decide +kernel
theorem dX7_turn_336 : decode cX7_turn 336 = .ok (.iadd, 1) := by decide +kernel
theorem dX7_turn_337 : decode cX7_turn 337 = .ok (.iaload, 1) := by decide +kernel
theorem dX7_turn_338 : decode cX7_turn 338 = .ok (.if_icmp .ge 7, 3) := by decide +kernel
theorem dX7_turn_341 : decode cX7_turn 341 = .ok (.iconst 1, 1) := by decide +kernel
theorem dX7_turn_342 : decode cX7_turn 342 = .ok (.goto 4, 3) := by decide +kernel
theorem dX7_turn_345 : decode cX7_turn 345 = .ok (.iconst 0, 1) := by decide +kernel
theorem dX7_turn_346 : decode cX7_turn 346 = .ok (.iadd, 1) := by decide +kernel
theorem dX7_turn_347 : decode cX7_turn 347 = .ok (.iastore, 1) := by decide +kernel
theorem dX7_turn_348 : decode cX7_turn 348 = .ok (.iinc 3 1, 3) := by decide +kernel
theorem dX7_turn_351 : decode cX7_turn 351 = .ok (.goto (-68), 3) := by decide +kernel
theorem dX7_turn_354 : decode cX7_turn 354 = .ok (.iload_n 2, 1) := by decide +kernel
theorem dX7_turn_355 : decode cX7_turn 355 = .ok (.ireturn, 1) := by decide +kernel
theorem dX7_turns_0 : decode cX7_turns 0 = .ok (.iconst 0, 1) := by decide +kernel
theorem dX7_turns_1 : decode cX7_turns 1 = .ok (.istore_n 3, 1) := by decide +kernel
theorem dX7_turns_2 : decode cX7_turns 2 = .ok (.iconst 0, 1) := by decide +kernel
theorem dX7_turns_3 : decode cX7_turns 3 = .ok (.istore 4, 2) := by decide +kernel
theorem dX7_turns_5 : decode cX7_turns 5 = .ok (.iload 4, 2) := by decide +kernel
theorem dX7_turns_7 : decode cX7_turns 7 = .ok (.iload_n 2, 1) := by decide +kernel
theorem dX7_turns_8 : decode cX7_turns 8 = .ok (.if_icmp .ge 17, 3) := by decide +kernel
theorem dX7_turns_11 : decode cX7_turns 11 = .ok (.iload_n 3, 1) := by decide +kernel
theorem dX7_turns_12 : decode cX7_turns 12 = .ok (.aload_n 0, 1) := by decide +kernel
theorem dX7_turns_13 : decode cX7_turns 13 = .ok (.iload_n 1, 1) := by decide +kernel
theorem dX7_turns_14 : decode cX7_turns 14 = .ok (.invokevirtual 96, 3) := by decide +kernel
theorem dX7_turns_17 : decode cX7_turns 17 = .ok (.iadd, 1) := by decide +kernel
theorem dX7_turns_18 : decode cX7_turns 18 = .ok (.istore_n 3, 1) := by decide +kernel
theorem dX7_turns_19 : decode cX7_turns 19 = .ok (.iinc 4 1, 3) := by decide +kernel
theorem dX7_turns_22 : decode cX7_turns 22 = .ok (.goto (-17), 3) := by decide +kernel
theorem dX7_turns_25 : decode cX7_turns 25 = .ok (.iload_n 3, 1) := by decide +kernel
theorem dX7_turns_26 : decode cX7_turns 26 = .ok (.ireturn, 1) := by decide +kernel
theorem dX7_isKitten_0 : decode cX7_isKitten 0 = .ok (.iload_n 1, 1) := by decide +kernel
theorem dX7_isKitten_1 : decode cX7_isKitten 1 = .ok (.i2l, 1) := by decide +kernel
theorem dX7_isKitten_2 : decode cX7_isKitten 2 = .ok (.lconst 0, 1) := by decide +kernel
theorem dX7_isKitten_3 : decode cX7_isKitten 3 = .ok (.aload_n 0, 1) := by decide +kernel
theorem dX7_isKitten_4 : decode cX7_isKitten 4 = .ok (.getfield 7, 3) := by decide +kernel
theorem dX7_isKitten_7 : decode cX7_isKitten 7 = .ok (.iconst 5, 1) := by decide +kernel
theorem dX7_isKitten_8 : decode cX7_isKitten 8 = .ok (.iaload, 1) := by decide +kernel
theorem dX7_isKitten_9 : decode cX7_isKitten 9 = .ok (.iconst 1, 1) := by decide +kernel
theorem dX7_isKitten_10 : decode cX7_isKitten 10 = .ok (.isub, 1) := by decide +kernel
theorem dX7_isKitten_11 : decode cX7_isKitten 11 = .ok (.i2l, 1) := by decide +kernel
theorem dX7_isKitten_12 : decode cX7_isKitten 12 = .ok (.invokestatic 70, 3) := by decide +kernel
theorem dX7_isKitten_15 : decode cX7_isKitten 15 = .ok (.ireturn, 1) := by decide +kernel
theorem dX7_isEdge_0 : decode cX7_isEdge 0 = .ok (.iload_n 0, 1) := by decide +kernel
theorem dX7_isEdge_1 : decode cX7_isEdge 1 = .ok (.i2l, 1) := by decide +kernel
theorem dX7_isEdge_2 : decode cX7_isEdge 2 = .ok (.lconst 0, 1) := by decide +kernel
theorem dX7_isEdge_3 : decode cX7_isEdge 3 = .ok (.ldc2_w 99, 3) := by decide +kernel
theorem dX7_isEdge_6 : decode cX7_isEdge 6 = .ok (.invokestatic 70, 3) := by decide +kernel
theorem dX7_isEdge_9 : decode cX7_isEdge 9 = .ok (.ireturn, 1) := by decide +kernel
theorem dX7_areSteps_0 : decode cX7_areSteps 0 = .ok (.iload_n 0, 1) := by decide +kernel
theorem dX7_areSteps_1 : decode cX7_areSteps 1 = .ok (.ifCond .eq 21, 3) := by decide +kernel
theorem dX7_areSteps_4 : decode cX7_areSteps 4 = .ok (.iload_n 0, 1) := by decide +kernel
theorem dX7_areSteps_5 : decode cX7_areSteps 5 = .ok (.i2l, 1) := by decide +kernel
theorem dX7_areSteps_6 : decode cX7_areSteps 6 = .ok (.ldc2_w 101, 3) := by decide +kernel
theorem dX7_areSteps_9 : decode cX7_areSteps 9 = .ok (.ldc2_w 68, 3) := by decide +kernel
theorem dX7_areSteps_12 : decode cX7_areSteps 12 = .ok (.invokestatic 70, 3) := by decide +kernel
theorem dX7_areSteps_15 : decode cX7_areSteps 15 = .ok (.ifCond .eq 7, 3) := by decide +kernel
theorem dX7_areSteps_18 : decode cX7_areSteps 18 = .ok (.iconst 1, 1) := by decide +kernel
theorem dX7_areSteps_19 : decode cX7_areSteps 19 = .ok (.goto 4, 3) := by decide +kernel
theorem dX7_areSteps_22 : decode cX7_areSteps 22 = .ok (.iconst 0, 1) := by decide +kernel
theorem dX7_areSteps_23 : decode cX7_areSteps 23 = .ok (.ireturn, 1) := by decide +kernel
theorem dX7_kittenError_0 : decode cX7_kittenError 0 = .ok (.iload_n 1, 1) := by decide +kernel
theorem dX7_kittenError_1 : decode cX7_kittenError 1 = .ok (.i2l, 1) := by decide +kernel
theorem dX7_kittenError_2 : decode cX7_kittenError 2 = .ok (.lconst 0, 1) := by decide +kernel
theorem dX7_kittenError_3 : decode cX7_kittenError 3 = .ok (.ldc2_w 68, 3) := by decide +kernel
theorem dX7_kittenError_6 : decode cX7_kittenError 6 = .ok (.invokestatic 70, 3) := by decide +kernel
theorem dX7_kittenError_9 : decode cX7_kittenError 9 = .ok (.ifCond .ne 7, 3) := by decide +kernel
theorem dX7_kittenError_12 : decode cX7_kittenError 12 = .ok (.iconst (-1), 1) := by decide +kernel
theorem dX7_kittenError_13 : decode cX7_kittenError 13 = .ok (.goto 20, 3) := by decide +kernel
theorem dX7_kittenError_16 : decode cX7_kittenError 16 = .ok (.aload_n 0, 1) := by decide +kernel
theorem dX7_kittenError_17 : decode cX7_kittenError 17 = .ok (.getfield 7, 3) := by decide +kernel
theorem dX7_kittenError_20 : decode cX7_kittenError 20 = .ok (.iconst 5, 1) := by decide +kernel
theorem dX7_kittenError_21 : decode cX7_kittenError 21 = .ok (.iaload, 1) := by decide +kernel
theorem dX7_kittenError_22 : decode cX7_kittenError 22 = .ok (.bipush 6, 2) := by decide +kernel
theorem dX7_kittenError_24 : decode cX7_kittenError 24 = .ok (.if_icmp .ne 8, 3) := by decide +kernel
theorem dX7_kittenError_27 : decode cX7_kittenError 27 = .ok (.bipush (-4), 2) := by decide +kernel
theorem dX7_kittenError_29 : decode cX7_kittenError 29 = .ok (.goto 4, 3) := by decide +kernel
theorem dX7_kittenError_32 : decode cX7_kittenError 32 = .ok (.iconst 0, 1) := by decide +kernel
theorem dX7_kittenError_33 : decode cX7_kittenError 33 = .ok (.ireturn, 1) := by decide +kernel
theorem dX7_leapError_0 : decode cX7_leapError 0 = .ok (.aload_n 0, 1) := by decide +kernel
theorem dX7_leapError_1 : decode cX7_leapError 1 = .ok (.iload_n 1, 1) := by decide +kernel
theorem dX7_leapError_2 : decode cX7_leapError 2 = .ok (.invokevirtual 103, 3) := by decide +kernel
theorem dX7_leapError_5 : decode cX7_leapError 5 = .ok (.ifCond .ne 7, 3) := by decide +kernel
theorem dX7_leapError_8 : decode cX7_leapError 8 = .ok (.iconst (-1), 1) := by decide +kernel
theorem dX7_leapError_9 : decode cX7_leapError 9 = .ok (.goto 31, 3) := by decide +kernel
theorem dX7_leapError_12 : decode cX7_leapError 12 = .ok (.iload_n 2, 1) := by decide +kernel
theorem dX7_leapError_13 : decode cX7_leapError 13 = .ok (.invokestatic 107, 3) := by decide +kernel
theorem dX7_leapError_16 : decode cX7_leapError 16 = .ok (.ifCond .ne 8, 3) := by decide +kernel
theorem dX7_leapError_19 : decode cX7_leapError 19 = .ok (.bipush (-2), 2) := by decide +kernel
theorem dX7_leapError_21 : decode cX7_leapError 21 = .ok (.goto 19, 3) := by decide +kernel
theorem dX7_leapError_24 : decode cX7_leapError 24 = .ok (.aload_n 0, 1) := by decide +kernel
theorem dX7_leapError_25 : decode cX7_leapError 25 = .ok (.iconst 0, 1) := by decide +kernel
theorem dX7_leapError_26 : decode cX7_leapError 26 = .ok (.iload_n 1, 1) := by decide +kernel
theorem dX7_leapError_27 : decode cX7_leapError 27 = .ok (.iload_n 2, 1) := by decide +kernel
theorem dX7_leapError_28 : decode cX7_leapError 28 = .ok (.invokevirtual 90, 3) := by decide +kernel
theorem dX7_leapError_31 : decode cX7_leapError 31 = .ok (.ifCond .eq 8, 3) := by decide +kernel
theorem dX7_leapError_34 : decode cX7_leapError 34 = .ok (.bipush (-5), 2) := by decide +kernel
theorem dX7_leapError_36 : decode cX7_leapError 36 = .ok (.goto 4, 3) := by decide +kernel
theorem dX7_leapError_39 : decode cX7_leapError 39 = .ok (.iconst 0, 1) := by decide +kernel
theorem dX7_leapError_40 : decode cX7_leapError 40 = .ok (.ireturn, 1) := by decide +kernel
theorem dX7_napError_0 : decode cX7_napError 0 = .ok (.aload_n 0, 1) := by decide +kernel
theorem dX7_napError_1 : decode cX7_napError 1 = .ok (.iload_n 1, 1) := by decide +kernel
theorem dX7_napError_2 : decode cX7_napError 2 = .ok (.invokevirtual 103, 3) := by decide +kernel
theorem dX7_napError_5 : decode cX7_napError 5 = .ok (.ifCond .ne 7, 3) := by decide +kernel
theorem dX7_napError_8 : decode cX7_napError 8 = .ok (.iconst (-1), 1) := by decide +kernel
theorem dX7_napError_9 : decode cX7_napError 9 = .ok (.goto 18, 3) := by decide +kernel
theorem dX7_napError_12 : decode cX7_napError 12 = .ok (.aload_n 0, 1) := by decide +kernel
theorem dX7_napError_13 : decode cX7_napError 13 = .ok (.iconst 0, 1) := by decide +kernel
theorem dX7_napError_14 : decode cX7_napError 14 = .ok (.iload_n 1, 1) := by decide +kernel
theorem dX7_napError_15 : decode cX7_napError 15 = .ok (.invokevirtual 64, 3) := by decide +kernel
theorem dX7_napError_18 : decode cX7_napError 18 = .ok (.ifCond .eq 8, 3) := by decide +kernel
theorem dX7_napError_21 : decode cX7_napError 21 = .ok (.bipush (-5), 2) := by decide +kernel
theorem dX7_napError_23 : decode cX7_napError 23 = .ok (.goto 4, 3) := by decide +kernel
theorem dX7_napError_26 : decode cX7_napError 26 = .ok (.iconst 0, 1) := by decide +kernel
theorem dX7_napError_27 : decode cX7_napError 27 = .ok (.ireturn, 1) := by decide +kernel
theorem dX7_strandsAt_0 : decode cX7_strandsAt 0 = .ok (.iconst 0, 1) := by decide +kernel
theorem dX7_strandsAt_1 : decode cX7_strandsAt 1 = .ok (.istore_n 3, 1) := by decide +kernel
theorem dX7_strandsAt_2 : decode cX7_strandsAt 2 = .ok (.iconst 0, 1) := by decide +kernel
theorem dX7_strandsAt_3 : decode cX7_strandsAt 3 = .ok (.istore 4, 2) := by decide +kernel
theorem dX7_strandsAt_5 : decode cX7_strandsAt 5 = .ok (.iload 4, 2) := by decide +kernel
theorem dX7_strandsAt_7 : decode cX7_strandsAt 7 = .ok (.aload_n 0, 1) := by decide +kernel
theorem dX7_strandsAt_8 : decode cX7_strandsAt 8 = .ok (.getfield 7, 3) := by decide +kernel
theorem dX7_strandsAt_11 : decode cX7_strandsAt 11 = .ok (.bipush 8, 2) := by decide +kernel
theorem dX7_strandsAt_13 : decode cX7_strandsAt 13 = .ok (.iaload, 1) := by decide +kernel
theorem dX7_strandsAt_14 : decode cX7_strandsAt 14 = .ok (.if_icmp .ge 29, 3) := by decide +kernel
theorem dX7_strandsAt_17 : decode cX7_strandsAt 17 = .ok (.iload_n 3, 1) := by decide +kernel
theorem dX7_strandsAt_18 : decode cX7_strandsAt 18 = .ok (.aload_n 0, 1) := by decide +kernel
theorem dX7_strandsAt_19 : decode cX7_strandsAt 19 = .ok (.iconst 0, 1) := by decide +kernel
theorem dX7_strandsAt_20 : decode cX7_strandsAt 20 = .ok (.iload 4, 2) := by decide +kernel
theorem dX7_strandsAt_22 : decode cX7_strandsAt 22 = .ok (.iload_n 1, 1) := by decide +kernel
theorem dX7_strandsAt_23 : decode cX7_strandsAt 23 = .ok (.invokevirtual 32, 3) := by decide +kernel
theorem dX7_strandsAt_26 : decode cX7_strandsAt 26 = .ok (.iload_n 2, 1) := by decide +kernel
theorem dX7_strandsAt_27 : decode cX7_strandsAt 27 = .ok (.if_icmp .ne 7, 3) := by decide +kernel
theorem dX7_strandsAt_30 : decode cX7_strandsAt 30 = .ok (.iconst 1, 1) := by decide +kernel
theorem dX7_strandsAt_31 : decode cX7_strandsAt 31 = .ok (.goto 4, 3) := by decide +kernel
theorem dX7_strandsAt_34 : decode cX7_strandsAt 34 = .ok (.iconst 0, 1) := by decide +kernel
theorem dX7_strandsAt_35 : decode cX7_strandsAt 35 = .ok (.iadd, 1) := by decide +kernel
theorem dX7_strandsAt_36 : decode cX7_strandsAt 36 = .ok (.istore_n 3, 1) := by decide +kernel
theorem dX7_strandsAt_37 : decode cX7_strandsAt 37 = .ok (.iinc 4 1, 3) := by decide +kernel
theorem dX7_strandsAt_40 : decode cX7_strandsAt 40 = .ok (.goto (-35), 3) := by decide +kernel
theorem dX7_strandsAt_43 : decode cX7_strandsAt 43 = .ok (.iload_n 3, 1) := by decide +kernel
theorem dX7_strandsAt_44 : decode cX7_strandsAt 44 = .ok (.ireturn, 1) := by decide +kernel
theorem dX7_snipError_0 : decode cX7_snipError 0 = .ok (.iload_n 1, 1) := by decide +kernel
theorem dX7_snipError_1 : decode cX7_snipError 1 = .ok (.invokestatic 110, 3) := by decide +kernel
theorem dX7_snipError_4 : decode cX7_snipError 4 = .ok (.ifCond .eq 11, 3) := by decide +kernel
theorem dX7_snipError_7 : decode cX7_snipError 7 = .ok (.aload_n 0, 1) := by decide +kernel
theorem dX7_snipError_8 : decode cX7_snipError 8 = .ok (.iload_n 2, 1) := by decide +kernel
theorem dX7_snipError_9 : decode cX7_snipError 9 = .ok (.invokevirtual 103, 3) := by decide +kernel
theorem dX7_snipError_12 : decode cX7_snipError 12 = .ok (.ifCond .ne 7, 3) := by decide +kernel
theorem dX7_snipError_15 : decode cX7_snipError 15 = .ok (.iconst (-1), 1) := by decide +kernel
theorem dX7_snipError_16 : decode cX7_snipError 16 = .ok (.goto 18, 3) := by decide +kernel
theorem dX7_snipError_19 : decode cX7_snipError 19 = .ok (.aload_n 0, 1) := by decide +kernel
theorem dX7_snipError_20 : decode cX7_snipError 20 = .ok (.iload_n 1, 1) := by decide +kernel
theorem dX7_snipError_21 : decode cX7_snipError 21 = .ok (.iload_n 2, 1) := by decide +kernel
theorem dX7_snipError_22 : decode cX7_snipError 22 = .ok (.invokevirtual 113, 3) := by decide +kernel
theorem dX7_snipError_25 : decode cX7_snipError 25 = .ok (.ifCond .ne 8, 3) := by decide +kernel
theorem dX7_snipError_28 : decode cX7_snipError 28 = .ok (.bipush (-5), 2) := by decide +kernel
theorem dX7_snipError_30 : decode cX7_snipError 30 = .ok (.goto 4, 3) := by decide +kernel
theorem dX7_snipError_33 : decode cX7_snipError 33 = .ok (.iconst 0, 1) := by decide +kernel
theorem dX7_snipError_34 : decode cX7_snipError 34 = .ok (.ireturn, 1) := by decide +kernel
theorem dX7_planError_0 : decode cX7_planError 0 = .ok (.aload_n 0, 1) := by decide +kernel
theorem dX7_planError_1 : decode cX7_planError 1 = .ok (.iload_n 2, 1) := by decide +kernel
theorem dX7_planError_2 : decode cX7_planError 2 = .ok (.invokevirtual 103, 3) := by decide +kernel
theorem dX7_planError_5 : decode cX7_planError 5 = .ok (.ifCond .ne 7, 3) := by decide +kernel
theorem dX7_planError_8 : decode cX7_planError 8 = .ok (.iconst (-1), 1) := by decide +kernel
theorem dX7_planError_9 : decode cX7_planError 9 = .ok (.goto 45, 3) := by decide +kernel
theorem dX7_planError_12 : decode cX7_planError 12 = .ok (.iload_n 1, 1) := by decide +kernel
theorem dX7_planError_13 : decode cX7_planError 13 = .ok (.i2l, 1) := by decide +kernel
theorem dX7_planError_14 : decode cX7_planError 14 = .ok (.lconst 1, 1) := by decide +kernel
theorem dX7_planError_15 : decode cX7_planError 15 = .ok (.ldc2_w 116, 3) := by decide +kernel
theorem dX7_planError_18 : decode cX7_planError 18 = .ok (.invokestatic 70, 3) := by decide +kernel
theorem dX7_planError_21 : decode cX7_planError 21 = .ok (.ifCond .eq 10, 3) := by decide +kernel
theorem dX7_planError_24 : decode cX7_planError 24 = .ok (.iload_n 3, 1) := by decide +kernel
theorem dX7_planError_25 : decode cX7_planError 25 = .ok (.invokestatic 107, 3) := by decide +kernel
theorem dX7_planError_28 : decode cX7_planError 28 = .ok (.ifCond .ne 8, 3) := by decide +kernel
theorem dX7_planError_31 : decode cX7_planError 31 = .ok (.bipush (-2), 2) := by decide +kernel
theorem dX7_planError_33 : decode cX7_planError 33 = .ok (.goto 21, 3) := by decide +kernel
theorem dX7_planError_36 : decode cX7_planError 36 = .ok (.aload_n 0, 1) := by decide +kernel
theorem dX7_planError_37 : decode cX7_planError 37 = .ok (.getfield 7, 3) := by decide +kernel
theorem dX7_planError_40 : decode cX7_planError 40 = .ok (.bipush 9, 2) := by decide +kernel
theorem dX7_planError_42 : decode cX7_planError 42 = .ok (.iaload, 1) := by decide +kernel
theorem dX7_planError_43 : decode cX7_planError 43 = .ok (.bipush 16, 2) := by decide +kernel
theorem dX7_planError_45 : decode cX7_planError 45 = .ok (.if_icmp .ne 8, 3) := by decide +kernel
theorem dX7_planError_48 : decode cX7_planError 48 = .ok (.bipush (-4), 2) := by decide +kernel
theorem dX7_planError_50 : decode cX7_planError 50 = .ok (.goto 4, 3) := by decide +kernel
theorem dX7_planError_53 : decode cX7_planError 53 = .ok (.iconst 0, 1) := by decide +kernel
theorem dX7_planError_54 : decode cX7_planError 54 = .ok (.ireturn, 1) := by decide +kernel
theorem dX7_passError_0 : decode cX7_passError 0 = .ok (.iload_n 1, 1) := by decide +kernel
theorem dX7_passError_1 : decode cX7_passError 1 = .ok (.i2l, 1) := by decide +kernel
theorem dX7_passError_2 : decode cX7_passError 2 = .ok (.lconst 1, 1) := by decide +kernel
theorem dX7_passError_3 : decode cX7_passError 3 = .ok (.ldc2_w 116, 3) := by decide +kernel
theorem dX7_passError_6 : decode cX7_passError 6 = .ok (.invokestatic 70, 3) := by decide +kernel
theorem dX7_passError_9 : decode cX7_passError 9 = .ok (.ifCond .ne 8, 3) := by decide +kernel
theorem dX7_passError_12 : decode cX7_passError 12 = .ok (.bipush (-2), 2) := by decide +kernel
theorem dX7_passError_14 : decode cX7_passError 14 = .ok (.goto 23, 3) := by decide +kernel
theorem dX7_passError_17 : decode cX7_passError 17 = .ok (.aload_n 0, 1) := by decide +kernel
theorem dX7_passError_18 : decode cX7_passError 18 = .ok (.getfield 7, 3) := by decide +kernel
theorem dX7_passError_21 : decode cX7_passError 21 = .ok (.iconst 4, 1) := by decide +kernel
theorem dX7_passError_22 : decode cX7_passError 22 = .ok (.iaload, 1) := by decide +kernel
theorem dX7_passError_23 : decode cX7_passError 23 = .ok (.iload_n 1, 1) := by decide +kernel
theorem dX7_passError_24 : decode cX7_passError 24 = .ok (.iadd, 1) := by decide +kernel
theorem dX7_passError_25 : decode cX7_passError 25 = .ok (.sipush 9999, 3) := by decide +kernel
theorem dX7_passError_28 : decode cX7_passError 28 = .ok (.if_icmp .le 8, 3) := by decide +kernel
theorem dX7_passError_31 : decode cX7_passError 31 = .ok (.bipush (-5), 2) := by decide +kernel
theorem dX7_passError_33 : decode cX7_passError 33 = .ok (.goto 4, 3) := by decide +kernel
theorem dX7_passError_36 : decode cX7_passError 36 = .ok (.iconst 0, 1) := by decide +kernel
theorem dX7_passError_37 : decode cX7_passError 37 = .ok (.ireturn, 1) := by decide +kernel
theorem dX7_comes_0 : decode cX7_comes 0 = .ok (.iconst 0, 1) := by decide +kernel
theorem dX7_comes_1 : decode cX7_comes 1 = .ok (.aload_n 0, 1) := by decide +kernel
theorem dX7_comes_2 : decode cX7_comes 2 = .ok (.getfield 7, 3) := by decide +kernel
theorem dX7_comes_5 : decode cX7_comes 5 = .ok (.iconst 5, 1) := by decide +kernel
theorem dX7_comes_6 : decode cX7_comes 6 = .ok (.iaload, 1) := by decide +kernel
theorem dX7_comes_7 : decode cX7_comes 7 = .ok (.invokestatic 28, 3) := by decide +kernel
theorem dX7_comes_10 : decode cX7_comes 10 = .ok (.istore_n 2, 1) := by decide +kernel
theorem dX7_comes_11 : decode cX7_comes 11 = .ok (.iconst 0, 1) := by decide +kernel
theorem dX7_comes_12 : decode cX7_comes 12 = .ok (.istore_n 3, 1) := by decide +kernel
theorem dX7_comes_13 : decode cX7_comes 13 = .ok (.iload_n 3, 1) := by decide +kernel
theorem dX7_comes_14 : decode cX7_comes 14 = .ok (.bipush 7, 2) := by decide +kernel
theorem dX7_comes_16 : decode cX7_comes 16 = .ok (.if_icmp .ge 18, 3) := by decide +kernel
theorem dX7_comes_19 : decode cX7_comes 19 = .ok (.aload_n 0, 1) := by decide +kernel
theorem dX7_comes_20 : decode cX7_comes 20 = .ok (.getfield 7, 3) := by decide +kernel
theorem dX7_comes_23 : decode cX7_comes 23 = .ok (.iload_n 2, 1) := by decide +kernel
theorem dX7_comes_24 : decode cX7_comes 24 = .ok (.iload_n 3, 1) := by decide +kernel
theorem dX7_comes_25 : decode cX7_comes 25 = .ok (.iadd, 1) := by decide +kernel
theorem dX7_comes_26 : decode cX7_comes 26 = .ok (.iconst 0, 1) := by decide +kernel
theorem dX7_comes_27 : decode cX7_comes 27 = .ok (.iastore, 1) := by decide +kernel
theorem dX7_comes_28 : decode cX7_comes 28 = .ok (.iinc 3 1, 3) := by decide +kernel
theorem dX7_comes_31 : decode cX7_comes 31 = .ok (.goto (-18), 3) := by decide +kernel
theorem dX7_comes_34 : decode cX7_comes 34 = .ok (.aload_n 0, 1) := by decide +kernel
theorem dX7_comes_35 : decode cX7_comes 35 = .ok (.getfield 7, 3) := by decide +kernel
theorem dX7_comes_38 : decode cX7_comes 38 = .ok (.iload_n 2, 1) := by decide +kernel
theorem dX7_comes_39 : decode cX7_comes 39 = .ok (.iload_n 1, 1) := by decide +kernel
theorem dX7_comes_40 : decode cX7_comes 40 = .ok (.iastore, 1) := by decide +kernel
theorem dX7_comes_41 : decode cX7_comes 41 = .ok (.aload_n 0, 1) := by decide +kernel
theorem dX7_comes_42 : decode cX7_comes 42 = .ok (.getfield 7, 3) := by decide +kernel
theorem dX7_comes_45 : decode cX7_comes 45 = .ok (.iload_n 2, 1) := by decide +kernel
theorem dX7_comes_46 : decode cX7_comes 46 = .ok (.iconst 1, 1) := by decide +kernel
theorem dX7_comes_47 : decode cX7_comes 47 = .ok (.iadd, 1) := by decide +kernel
theorem dX7_comes_48 : decode cX7_comes 48 = .ok (.aload_n 0, 1) := by decide +kernel
theorem dX7_comes_49 : decode cX7_comes 49 = .ok (.getfield 7, 3) := by decide +kernel
theorem dX7_comes_52 : decode cX7_comes 52 = .ok (.iconst 3, 1) := by decide +kernel
theorem dX7_comes_53 : decode cX7_comes 53 = .ok (.iaload, 1) := by decide +kernel
theorem dX7_comes_54 : decode cX7_comes 54 = .ok (.iastore, 1) := by decide +kernel
theorem dX7_comes_55 : decode cX7_comes 55 = .ok (.aload_n 0, 1) := by decide +kernel
theorem dX7_comes_56 : decode cX7_comes 56 = .ok (.getfield 7, 3) := by decide +kernel
theorem dX7_comes_59 : decode cX7_comes 59 = .ok (.iload_n 2, 1) := by decide +kernel
theorem dX7_comes_60 : decode cX7_comes 60 = .ok (.iconst 2, 1) := by decide +kernel
theorem dX7_comes_61 : decode cX7_comes 61 = .ok (.iadd, 1) := by decide +kernel
theorem dX7_comes_62 : decode cX7_comes 62 = .ok (.bipush (-6), 2) := by decide +kernel
theorem dX7_comes_64 : decode cX7_comes 64 = .ok (.iastore, 1) := by decide +kernel
theorem dX7_comes_65 : decode cX7_comes 65 = .ok (.aload_n 0, 1) := by decide +kernel
theorem dX7_comes_66 : decode cX7_comes 66 = .ok (.getfield 7, 3) := by decide +kernel
theorem dX7_comes_69 : decode cX7_comes 69 = .ok (.iload_n 2, 1) := by decide +kernel
theorem dX7_comes_70 : decode cX7_comes 70 = .ok (.iconst 3, 1) := by decide +kernel
theorem dX7_comes_71 : decode cX7_comes 71 = .ok (.iadd, 1) := by decide +kernel
theorem dX7_comes_72 : decode cX7_comes 72 = .ok (.bipush 40, 2) := by decide +kernel
theorem dX7_comes_74 : decode cX7_comes 74 = .ok (.iastore, 1) := by decide +kernel
theorem dX7_comes_75 : decode cX7_comes 75 = .ok (.aload_n 0, 1) := by decide +kernel
theorem dX7_comes_76 : decode cX7_comes 76 = .ok (.getfield 7, 3) := by decide +kernel
theorem dX7_comes_79 : decode cX7_comes 79 = .ok (.iconst 5, 1) := by decide +kernel
theorem dX7_comes_80 : decode cX7_comes 80 = .ok (.dup2, 1) := by decide +kernel
theorem dX7_comes_81 : decode cX7_comes 81 = .ok (.iaload, 1) := by decide +kernel
theorem dX7_comes_82 : decode cX7_comes 82 = .ok (.iconst 1, 1) := by decide +kernel
theorem dX7_comes_83 : decode cX7_comes 83 = .ok (.iadd, 1) := by decide +kernel
theorem dX7_comes_84 : decode cX7_comes 84 = .ok (.iastore, 1) := by decide +kernel
theorem dX7_comes_85 : decode cX7_comes 85 = .ok (.aload_n 0, 1) := by decide +kernel
theorem dX7_comes_86 : decode cX7_comes 86 = .ok (.getfield 7, 3) := by decide +kernel
theorem dX7_comes_89 : decode cX7_comes 89 = .ok (.iconst 5, 1) := by decide +kernel
theorem dX7_comes_90 : decode cX7_comes 90 = .ok (.iaload, 1) := by decide +kernel
theorem dX7_comes_91 : decode cX7_comes 91 = .ok (.iconst 1, 1) := by decide +kernel
theorem dX7_comes_92 : decode cX7_comes 92 = .ok (.isub, 1) := by decide +kernel
theorem dX7_comes_93 : decode cX7_comes 93 = .ok (.ireturn, 1) := by decide +kernel
theorem dX7_sleeps_0 : decode cX7_sleeps 0 = .ok (.aload_n 0, 1) := by decide +kernel
theorem dX7_sleeps_1 : decode cX7_sleeps 1 = .ok (.getfield 7, 3) := by decide +kernel
theorem dX7_sleeps_4 : decode cX7_sleeps 4 = .ok (.iconst 0, 1) := by decide +kernel
theorem dX7_sleeps_5 : decode cX7_sleeps 5 = .ok (.iload_n 1, 1) := by decide +kernel
theorem dX7_sleeps_6 : decode cX7_sleeps 6 = .ok (.invokestatic 28, 3) := by decide +kernel
theorem dX7_sleeps_9 : decode cX7_sleeps 9 = .ok (.iconst 2, 1) := by decide +kernel
theorem dX7_sleeps_10 : decode cX7_sleeps 10 = .ok (.iadd, 1) := by decide +kernel
theorem dX7_sleeps_11 : decode cX7_sleeps 11 = .ok (.aload_n 0, 1) := by decide +kernel
theorem dX7_sleeps_12 : decode cX7_sleeps 12 = .ok (.getfield 7, 3) := by decide +kernel
theorem dX7_sleeps_15 : decode cX7_sleeps 15 = .ok (.iconst 4, 1) := by decide +kernel
theorem dX7_sleeps_16 : decode cX7_sleeps 16 = .ok (.iaload, 1) := by decide +kernel
theorem dX7_sleeps_17 : decode cX7_sleeps 17 = .ok (.aload_n 0, 1) := by decide +kernel
theorem dX7_sleeps_18 : decode cX7_sleeps 18 = .ok (.getfield 7, 3) := by decide +kernel
theorem dX7_sleeps_21 : decode cX7_sleeps 21 = .ok (.iconst 2, 1) := by decide +kernel
theorem dX7_sleeps_22 : decode cX7_sleeps 22 = .ok (.iaload, 1) := by decide +kernel
theorem dX7_sleeps_23 : decode cX7_sleeps 23 = .ok (.iadd, 1) := by decide +kernel
theorem dX7_sleeps_24 : decode cX7_sleeps 24 = .ok (.iastore, 1) := by decide +kernel
theorem dX7_sleeps_25 : decode cX7_sleeps 25 = .ok (.aload_n 0, 1) := by decide +kernel
theorem dX7_sleeps_26 : decode cX7_sleeps 26 = .ok (.getfield 7, 3) := by decide +kernel
theorem dX7_sleeps_29 : decode cX7_sleeps 29 = .ok (.iconst 4, 1) := by decide +kernel
theorem dX7_sleeps_30 : decode cX7_sleeps 30 = .ok (.iaload, 1) := by decide +kernel
theorem dX7_sleeps_31 : decode cX7_sleeps 31 = .ok (.aload_n 0, 1) := by decide +kernel
theorem dX7_sleeps_32 : decode cX7_sleeps 32 = .ok (.getfield 7, 3) := by decide +kernel
theorem dX7_sleeps_35 : decode cX7_sleeps 35 = .ok (.iconst 2, 1) := by decide +kernel
theorem dX7_sleeps_36 : decode cX7_sleeps 36 = .ok (.iaload, 1) := by decide +kernel
theorem dX7_sleeps_37 : decode cX7_sleeps 37 = .ok (.iadd, 1) := by decide +kernel
theorem dX7_sleeps_38 : decode cX7_sleeps 38 = .ok (.ireturn, 1) := by decide +kernel
theorem dX7_snips_0 : decode cX7_snips 0 = .ok (.aload_n 0, 1) := by decide +kernel
theorem dX7_snips_1 : decode cX7_snips 1 = .ok (.getfield 7, 3) := by decide +kernel
theorem dX7_snips_4 : decode cX7_snips 4 = .ok (.bipush 8, 2) := by decide +kernel
theorem dX7_snips_6 : decode cX7_snips 6 = .ok (.iaload, 1) := by decide +kernel
theorem dX7_snips_7 : decode cX7_snips 7 = .ok (.istore_n 3, 1) := by decide +kernel
theorem dX7_snips_8 : decode cX7_snips 8 = .ok (.iconst 0, 1) := by decide +kernel
theorem dX7_snips_9 : decode cX7_snips 9 = .ok (.istore 4, 2) := by decide +kernel
theorem dX7_snips_11 : decode cX7_snips 11 = .ok (.iload 4, 2) := by decide +kernel
theorem dX7_snips_13 : decode cX7_snips 13 = .ok (.aload_n 0, 1) := by decide +kernel
theorem dX7_snips_14 : decode cX7_snips 14 = .ok (.getfield 7, 3) := by decide +kernel
theorem dX7_snips_17 : decode cX7_snips 17 = .ok (.bipush 8, 2) := by decide +kernel
theorem dX7_snips_19 : decode cX7_snips 19 = .ok (.iaload, 1) := by decide +kernel
theorem dX7_snips_20 : decode cX7_snips 20 = .ok (.if_icmp .ge 31, 3) := by decide +kernel
theorem dX7_snips_23 : decode cX7_snips 23 = .ok (.aload_n 0, 1) := by decide +kernel
theorem dX7_snips_24 : decode cX7_snips 24 = .ok (.iconst 0, 1) := by decide +kernel
theorem dX7_snips_25 : decode cX7_snips 25 = .ok (.iload 4, 2) := by decide +kernel
theorem dX7_snips_27 : decode cX7_snips 27 = .ok (.iload_n 1, 1) := by decide +kernel
theorem dX7_snips_28 : decode cX7_snips 28 = .ok (.invokevirtual 32, 3) := by decide +kernel
theorem dX7_snips_31 : decode cX7_snips 31 = .ok (.iload_n 2, 1) := by decide +kernel
theorem dX7_snips_32 : decode cX7_snips 32 = .ok (.if_icmp .ne 13, 3) := by decide +kernel
theorem dX7_snips_35 : decode cX7_snips 35 = .ok (.aload_n 0, 1) := by decide +kernel
theorem dX7_snips_36 : decode cX7_snips 36 = .ok (.iconst 0, 1) := by decide +kernel
theorem dX7_snips_37 : decode cX7_snips 37 = .ok (.iload 4, 2) := by decide +kernel
theorem dX7_snips_39 : decode cX7_snips 39 = .ok (.invokevirtual 43, 3) := by decide +kernel
theorem dX7_snips_42 : decode cX7_snips 42 = .ok (.goto (-31), 3) := by decide +kernel
theorem dX7_snips_45 : decode cX7_snips 45 = .ok (.iinc 4 1, 3) := by decide +kernel
theorem dX7_snips_48 : decode cX7_snips 48 = .ok (.goto (-37), 3) := by decide +kernel
theorem dX7_snips_51 : decode cX7_snips 51 = .ok (.aload_n 0, 1) := by decide +kernel
theorem dX7_snips_52 : decode cX7_snips 52 = .ok (.getfield 7, 3) := by decide +kernel
theorem dX7_snips_55 : decode cX7_snips 55 = .ok (.iconst 0, 1) := by decide +kernel
theorem dX7_snips_56 : decode cX7_snips 56 = .ok (.iload_n 2, 1) := by decide +kernel
theorem dX7_snips_57 : decode cX7_snips 57 = .ok (.invokestatic 28, 3) := by decide +kernel
theorem dX7_snips_60 : decode cX7_snips 60 = .ok (.bipush 6, 2) := by decide +kernel
theorem dX7_snips_62 : decode cX7_snips 62 = .ok (.iadd, 1) := by decide +kernel
theorem dX7_snips_63 : decode cX7_snips 63 = .ok (.dup2, 1) := by decide +kernel
theorem dX7_snips_64 : decode cX7_snips 64 = .ok (.iaload, 1) := by decide +kernel
theorem dX7_snips_65 : decode cX7_snips 65 = .ok (.iload_n 3, 1) := by decide +kernel
theorem dX7_snips_66 : decode cX7_snips 66 = .ok (.aload_n 0, 1) := by decide +kernel
theorem dX7_snips_67 : decode cX7_snips 67 = .ok (.getfield 7, 3) := by decide +kernel
theorem dX7_snips_70 : decode cX7_snips 70 = .ok (.bipush 8, 2) := by decide +kernel
theorem dX7_snips_72 : decode cX7_snips 72 = .ok (.iaload, 1) := by decide +kernel
theorem dX7_snips_73 : decode cX7_snips 73 = .ok (.isub, 1) := by decide +kernel
theorem dX7_snips_74 : decode cX7_snips 74 = .ok (.iadd, 1) := by decide +kernel
theorem dX7_snips_75 : decode cX7_snips 75 = .ok (.iastore, 1) := by decide +kernel
theorem dX7_snips_76 : decode cX7_snips 76 = .ok (.iload_n 3, 1) := by decide +kernel
theorem dX7_snips_77 : decode cX7_snips 77 = .ok (.aload_n 0, 1) := by decide +kernel
theorem dX7_snips_78 : decode cX7_snips 78 = .ok (.getfield 7, 3) := by decide +kernel
theorem dX7_snips_81 : decode cX7_snips 81 = .ok (.bipush 8, 2) := by decide +kernel
theorem dX7_snips_83 : decode cX7_snips 83 = .ok (.iaload, 1) := by decide +kernel
theorem dX7_snips_84 : decode cX7_snips 84 = .ok (.isub, 1) := by decide +kernel
theorem dX7_snips_85 : decode cX7_snips 85 = .ok (.ireturn, 1) := by decide +kernel
theorem dX7_plans_0 : decode cX7_plans 0 = .ok (.aload_n 0, 1) := by decide +kernel
theorem dX7_plans_1 : decode cX7_plans 1 = .ok (.getfield 7, 3) := by decide +kernel
theorem dX7_plans_4 : decode cX7_plans 4 = .ok (.iconst 4, 1) := by decide +kernel
theorem dX7_plans_5 : decode cX7_plans 5 = .ok (.iaload, 1) := by decide +kernel
theorem dX7_plans_6 : decode cX7_plans 6 = .ok (.iload_n 1, 1) := by decide +kernel
theorem dX7_plans_7 : decode cX7_plans 7 = .ok (.iadd, 1) := by decide +kernel
theorem dX7_plans_8 : decode cX7_plans 8 = .ok (.istore 4, 2) := by decide +kernel
theorem dX7_plans_10 : decode cX7_plans 10 = .ok (.aload_n 0, 1) := by decide +kernel
theorem dX7_plans_11 : decode cX7_plans 11 = .ok (.getfield 7, 3) := by decide +kernel
theorem dX7_plans_14 : decode cX7_plans 14 = .ok (.bipush 9, 2) := by decide +kernel
theorem dX7_plans_16 : decode cX7_plans 16 = .ok (.iaload, 1) := by decide +kernel
theorem dX7_plans_17 : decode cX7_plans 17 = .ok (.istore 5, 2) := by decide +kernel
theorem dX7_plans_19 : decode cX7_plans 19 = .ok (.iload 5, 2) := by decide +kernel
theorem dX7_plans_21 : decode cX7_plans 21 = .ok (.ifCond .le 109, 3) := by decide +kernel
theorem dX7_plans_24 : decode cX7_plans 24 = .ok (.aload_n 0, 1) := by decide +kernel
theorem dX7_plans_25 : decode cX7_plans 25 = .ok (.getfield 7, 3) := by decide +kernel
theorem dX7_plans_28 : decode cX7_plans 28 = .ok (.iconst 0, 1) := by decide +kernel
theorem dX7_plans_29 : decode cX7_plans 29 = .ok (.iload 5, 2) := by decide +kernel
theorem dX7_plans_31 : decode cX7_plans 31 = .ok (.iconst 1, 1) := by decide +kernel
theorem dX7_plans_32 : decode cX7_plans 32 = .ok (.isub, 1) := by decide +kernel
theorem dX7_plans_33 : decode cX7_plans 33 = .ok (.invokestatic 87, 3) := by decide +kernel
theorem dX7_plans_36 : decode cX7_plans 36 = .ok (.iaload, 1) := by decide +kernel
theorem dX7_plans_37 : decode cX7_plans 37 = .ok (.iload 4, 2) := by decide +kernel
theorem dX7_plans_39 : decode cX7_plans 39 = .ok (.if_icmp .gt 40, 3) := by decide +kernel
theorem dX7_plans_42 : decode cX7_plans 42 = .ok (.aload_n 0, 1) := by decide +kernel
theorem dX7_plans_43 : decode cX7_plans 43 = .ok (.getfield 7, 3) := by decide +kernel
theorem dX7_plans_46 : decode cX7_plans 46 = .ok (.iconst 0, 1) := by decide +kernel
theorem dX7_plans_47 : decode cX7_plans 47 = .ok (.iload 5, 2) := by decide +kernel
theorem dX7_plans_49 : decode cX7_plans 49 = .ok (.iconst 1, 1) := by decide +kernel
theorem dX7_plans_50 : decode cX7_plans 50 = .ok (.isub, 1) := by decide +kernel
theorem dX7_plans_51 : decode cX7_plans 51 = .ok (.invokestatic 87, 3) := by decide +kernel
theorem dX7_plans_54 : decode cX7_plans 54 = .ok (.iaload, 1) := by decide +kernel
theorem dX7_plans_55 : decode cX7_plans 55 = .ok (.iload 4, 2) := by decide +kernel
theorem dX7_plans_57 : decode cX7_plans 57 = .ok (.if_icmp .ne 73, 3) := by decide +kernel
theorem dX7_plans_60 : decode cX7_plans 60 = .ok (.aload_n 0, 1) := by decide +kernel
theorem dX7_plans_61 : decode cX7_plans 61 = .ok (.getfield 7, 3) := by decide +kernel
theorem dX7_plans_64 : decode cX7_plans 64 = .ok (.iconst 0, 1) := by decide +kernel
theorem dX7_plans_65 : decode cX7_plans 65 = .ok (.iload 5, 2) := by decide +kernel
theorem dX7_plans_67 : decode cX7_plans 67 = .ok (.iconst 1, 1) := by decide +kernel
theorem dX7_plans_68 : decode cX7_plans 68 = .ok (.isub, 1) := by decide +kernel
theorem dX7_plans_69 : decode cX7_plans 69 = .ok (.invokestatic 87, 3) := by decide +kernel
theorem dX7_plans_72 : decode cX7_plans 72 = .ok (.iconst 1, 1) := by decide +kernel
theorem dX7_plans_73 : decode cX7_plans 73 = .ok (.iadd, 1) := by decide +kernel
theorem dX7_plans_74 : decode cX7_plans 74 = .ok (.iaload, 1) := by decide +kernel
theorem dX7_plans_75 : decode cX7_plans 75 = .ok (.iload_n 2, 1) := by decide +kernel
theorem dX7_plans_76 : decode cX7_plans 76 = .ok (.if_icmp .le 54, 3) := by decide +kernel
theorem dX7_plans_79 : decode cX7_plans 79 = .ok (.iconst 0, 1) := by decide +kernel
theorem dX7_plans_80 : decode cX7_plans 80 = .ok (.istore 6, 2) := by decide +kernel
theorem dX7_plans_82 : decode cX7_plans 82 = .ok (.iload 6, 2) := by decide +kernel
theorem dX7_plans_84 : decode cX7_plans 84 = .ok (.iconst 3, 1) := by decide +kernel
theorem dX7_plans_85 : decode cX7_plans 85 = .ok (.if_icmp .ge 39, 3) := by decide +kernel
theorem dX7_plans_88 : decode cX7_plans 88 = .ok (.aload_n 0, 1) := by decide +kernel
theorem dX7_plans_89 : decode cX7_plans 89 = .ok (.getfield 7, 3) := by decide +kernel
theorem dX7_plans_92 : decode cX7_plans 92 = .ok (.iconst 0, 1) := by decide +kernel
theorem dX7_plans_93 : decode cX7_plans 93 = .ok (.iload 5, 2) := by decide +kernel
theorem dX7_plans_95 : decode cX7_plans 95 = .ok (.invokestatic 87, 3) := by decide +kernel
theorem dX7_plans_98 : decode cX7_plans 98 = .ok (.iload 6, 2) := by decide +kernel
theorem dX7_plans_100 : decode cX7_plans 100 = .ok (.iadd, 1) := by decide +kernel
theorem dX7_plans_101 : decode cX7_plans 101 = .ok (.aload_n 0, 1) := by decide +kernel
theorem dX7_plans_102 : decode cX7_plans 102 = .ok (.getfield 7, 3) := by decide +kernel
theorem dX7_plans_105 : decode cX7_plans 105 = .ok (.iconst 0, 1) := by decide +kernel
theorem dX7_plans_106 : decode cX7_plans 106 = .ok (.iload 5, 2) := by decide +kernel
theorem dX7_plans_108 : decode cX7_plans 108 = .ok (.iconst 1, 1) := by decide +kernel
theorem dX7_plans_109 : decode cX7_plans 109 = .ok (.isub, 1) := by decide +kernel
theorem dX7_plans_110 : decode cX7_plans 110 = .ok (.invokestatic 87, 3) := by decide +kernel
theorem dX7_plans_113 : decode cX7_plans 113 = .ok (.iload 6, 2) := by decide +kernel
theorem dX7_plans_115 : decode cX7_plans 115 = .ok (.iadd, 1) := by decide +kernel
theorem dX7_plans_116 : decode cX7_plans 116 = .ok (.iaload, 1) := by decide +kernel
theorem dX7_plans_117 : decode cX7_plans 117 = .ok (.iastore, 1) := by decide +kernel
theorem dX7_plans_118 : decode cX7_plans 118 = .ok (.iinc 6 1, 3) := by decide +kernel
theorem dX7_plans_121 : decode cX7_plans 121 = .ok (.goto (-39), 3) := by decide +kernel
theorem dX7_plans_124 : decode cX7_plans 124 = .ok (.iinc 5 (-1), 3) := by decide +kernel
theorem dX7_plans_127 : decode cX7_plans 127 = .ok (.goto (-108), 3) := by decide +kernel
theorem dX7_plans_130 : decode cX7_plans 130 = .ok (.aload_n 0, 1) := by decide +kernel
theorem dX7_plans_131 : decode cX7_plans 131 = .ok (.getfield 7, 3) := by decide +kernel
theorem dX7_plans_134 : decode cX7_plans 134 = .ok (.iconst 0, 1) := by decide +kernel
theorem dX7_plans_135 : decode cX7_plans 135 = .ok (.iload 5, 2) := by decide +kernel
theorem dX7_plans_137 : decode cX7_plans 137 = .ok (.invokestatic 87, 3) := by decide +kernel
theorem dX7_plans_140 : decode cX7_plans 140 = .ok (.iload 4, 2) := by decide +kernel
theorem dX7_plans_142 : decode cX7_plans 142 = .ok (.iastore, 1) := by decide +kernel
theorem dX7_plans_143 : decode cX7_plans 143 = .ok (.aload_n 0, 1) := by decide +kernel
theorem dX7_plans_144 : decode cX7_plans 144 = .ok (.getfield 7, 3) := by decide +kernel
theorem dX7_plans_147 : decode cX7_plans 147 = .ok (.iconst 0, 1) := by decide +kernel
theorem dX7_plans_148 : decode cX7_plans 148 = .ok (.iload 5, 2) := by decide +kernel
theorem dX7_plans_150 : decode cX7_plans 150 = .ok (.invokestatic 87, 3) := by decide +kernel
theorem dX7_plans_153 : decode cX7_plans 153 = .ok (.iconst 1, 1) := by decide +kernel
theorem dX7_plans_154 : decode cX7_plans 154 = .ok (.iadd, 1) := by decide +kernel
theorem dX7_plans_155 : decode cX7_plans 155 = .ok (.iload_n 2, 1) := by decide +kernel
theorem dX7_plans_156 : decode cX7_plans 156 = .ok (.iastore, 1) := by decide +kernel
theorem dX7_plans_157 : decode cX7_plans 157 = .ok (.aload_n 0, 1) := by decide +kernel
theorem dX7_plans_158 : decode cX7_plans 158 = .ok (.getfield 7, 3) := by decide +kernel
theorem dX7_plans_161 : decode cX7_plans 161 = .ok (.iconst 0, 1) := by decide +kernel
theorem dX7_plans_162 : decode cX7_plans 162 = .ok (.iload 5, 2) := by decide +kernel
theorem dX7_plans_164 : decode cX7_plans 164 = .ok (.invokestatic 87, 3) := by decide +kernel
theorem dX7_plans_167 : decode cX7_plans 167 = .ok (.iconst 2, 1) := by decide +kernel
theorem dX7_plans_168 : decode cX7_plans 168 = .ok (.iadd, 1) := by decide +kernel
theorem dX7_plans_169 : decode cX7_plans 169 = .ok (.iload_n 3, 1) := by decide +kernel
theorem dX7_plans_170 : decode cX7_plans 170 = .ok (.iastore, 1) := by decide +kernel
theorem dX7_plans_171 : decode cX7_plans 171 = .ok (.aload_n 0, 1) := by decide +kernel
theorem dX7_plans_172 : decode cX7_plans 172 = .ok (.getfield 7, 3) := by decide +kernel
theorem dX7_plans_175 : decode cX7_plans 175 = .ok (.bipush 9, 2) := by decide +kernel
theorem dX7_plans_177 : decode cX7_plans 177 = .ok (.dup2, 1) := by decide +kernel
theorem dX7_plans_178 : decode cX7_plans 178 = .ok (.iaload, 1) := by decide +kernel
theorem dX7_plans_179 : decode cX7_plans 179 = .ok (.iconst 1, 1) := by decide +kernel
theorem dX7_plans_180 : decode cX7_plans 180 = .ok (.iadd, 1) := by decide +kernel
theorem dX7_plans_181 : decode cX7_plans 181 = .ok (.iastore, 1) := by decide +kernel
theorem dX7_plans_182 : decode cX7_plans 182 = .ok (.aload_n 0, 1) := by decide +kernel
theorem dX7_plans_183 : decode cX7_plans 183 = .ok (.getfield 7, 3) := by decide +kernel
theorem dX7_plans_186 : decode cX7_plans 186 = .ok (.bipush 9, 2) := by decide +kernel
theorem dX7_plans_188 : decode cX7_plans 188 = .ok (.iaload, 1) := by decide +kernel
theorem dX7_plans_189 : decode cX7_plans 189 = .ok (.ireturn, 1) := by decide +kernel
theorem dX7_isValue_0 : decode cX7_isValue 0 = .ok (.iload_n 0, 1) := by decide +kernel
theorem dX7_isValue_1 : decode cX7_isValue 1 = .ok (.tableswitch 73 0 3 #[31, 41, 51, 61], 31) := by decide +kernel
theorem dX7_isValue_32 : decode cX7_isValue 32 = .ok (.iload_n 1, 1) := by decide +kernel
theorem dX7_isValue_33 : decode cX7_isValue 33 = .ok (.i2l, 1) := by decide +kernel
theorem dX7_isValue_34 : decode cX7_isValue 34 = .ok (.lconst 1, 1) := by decide +kernel
theorem dX7_isValue_35 : decode cX7_isValue 35 = .ok (.ldc2_w 118, 3) := by decide +kernel
theorem dX7_isValue_38 : decode cX7_isValue 38 = .ok (.invokestatic 70, 3) := by decide +kernel
theorem dX7_isValue_41 : decode cX7_isValue 41 = .ok (.ireturn, 1) := by decide +kernel
theorem dX7_isValue_42 : decode cX7_isValue 42 = .ok (.iload_n 1, 1) := by decide +kernel
theorem dX7_isValue_43 : decode cX7_isValue 43 = .ok (.i2l, 1) := by decide +kernel
theorem dX7_isValue_44 : decode cX7_isValue 44 = .ok (.lconst 0, 1) := by decide +kernel
theorem dX7_isValue_45 : decode cX7_isValue 45 = .ok (.ldc2_w 68, 3) := by decide +kernel
theorem dX7_isValue_48 : decode cX7_isValue 48 = .ok (.invokestatic 70, 3) := by decide +kernel
theorem dX7_isValue_51 : decode cX7_isValue 51 = .ok (.ireturn, 1) := by decide +kernel
theorem dX7_isValue_52 : decode cX7_isValue 52 = .ok (.iload_n 1, 1) := by decide +kernel
theorem dX7_isValue_53 : decode cX7_isValue 53 = .ok (.i2l, 1) := by decide +kernel
theorem dX7_isValue_54 : decode cX7_isValue 54 = .ok (.lconst 1, 1) := by decide +kernel
theorem dX7_isValue_55 : decode cX7_isValue 55 = .ok (.ldc2_w 120, 3) := by decide +kernel
theorem dX7_isValue_58 : decode cX7_isValue 58 = .ok (.invokestatic 70, 3) := by decide +kernel
theorem dX7_isValue_61 : decode cX7_isValue 61 = .ok (.ireturn, 1) := by decide +kernel
theorem dX7_isValue_62 : decode cX7_isValue 62 = .ok (.iload_n 1, 1) := by decide +kernel
theorem dX7_isValue_63 : decode cX7_isValue 63 = .ok (.i2l, 1) := by decide +kernel
theorem dX7_isValue_64 : decode cX7_isValue 64 = .ok (.ldc2_w 122, 3) := by decide +kernel
theorem dX7_isValue_67 : decode cX7_isValue 67 = .ok (.ldc2_w 124, 3) := by decide +kernel
theorem dX7_isValue_70 : decode cX7_isValue 70 = .ok (.invokestatic 70, 3) := by decide +kernel
theorem dX7_isValue_73 : decode cX7_isValue 73 = .ok (.ireturn, 1) := by decide +kernel
theorem dX7_isValue_74 : decode cX7_isValue 74 = .ok (.iconst 0, 1) := by decide +kernel
theorem dX7_isValue_75 : decode cX7_isValue 75 = .ok (.ireturn, 1) := by decide +kernel
theorem dX7_set_0 : decode cX7_set 0 = .ok (.iload_n 1, 1) := by decide +kernel
theorem dX7_set_1 : decode cX7_set 1 = .ok (.iload_n 2, 1) := by decide +kernel
theorem dX7_set_2 : decode cX7_set 2 = .ok (.invokestatic 126, 3) := by decide +kernel
theorem dX7_set_5 : decode cX7_set 5 = .ok (.ifCond .ne 6, 3) := by decide +kernel
theorem dX7_set_8 : decode cX7_set 8 = .ok (.bipush (-2), 2) := by decide +kernel
theorem dX7_set_10 : decode cX7_set 10 = .ok (.ireturn, 1) := by decide +kernel
theorem dX7_set_11 : decode cX7_set 11 = .ok (.aload_n 0, 1) := by decide +kernel
theorem dX7_set_12 : decode cX7_set 12 = .ok (.invokevirtual 129, 3) := by decide +kernel
theorem dX7_set_15 : decode cX7_set 15 = .ok (.aload_n 0, 1) := by decide +kernel
theorem dX7_set_16 : decode cX7_set 16 = .ok (.getfield 7, 3) := by decide +kernel
theorem dX7_set_19 : decode cX7_set 19 = .ok (.iload_n 1, 1) := by decide +kernel
theorem dX7_set_20 : decode cX7_set 20 = .ok (.iaload, 1) := by decide +kernel
theorem dX7_set_21 : decode cX7_set 21 = .ok (.istore_n 3, 1) := by decide +kernel
theorem dX7_set_22 : decode cX7_set 22 = .ok (.aload_n 0, 1) := by decide +kernel
theorem dX7_set_23 : decode cX7_set 23 = .ok (.getfield 7, 3) := by decide +kernel
theorem dX7_set_26 : decode cX7_set 26 = .ok (.iload_n 1, 1) := by decide +kernel
theorem dX7_set_27 : decode cX7_set 27 = .ok (.iload_n 2, 1) := by decide +kernel
theorem dX7_set_28 : decode cX7_set 28 = .ok (.iastore, 1) := by decide +kernel
theorem dX7_set_29 : decode cX7_set 29 = .ok (.iload_n 3, 1) := by decide +kernel
theorem dX7_set_30 : decode cX7_set 30 = .ok (.ireturn, 1) := by decide +kernel
theorem dX7_kitten_0 : decode cX7_kitten 0 = .ok (.aload_n 0, 1) := by decide +kernel
theorem dX7_kitten_1 : decode cX7_kitten 1 = .ok (.iload_n 1, 1) := by decide +kernel
theorem dX7_kitten_2 : decode cX7_kitten 2 = .ok (.invokevirtual 132, 3) := by decide +kernel
theorem dX7_kitten_5 : decode cX7_kitten 5 = .ok (.istore_n 2, 1) := by decide +kernel
theorem dX7_kitten_6 : decode cX7_kitten 6 = .ok (.iload_n 2, 1) := by decide +kernel
theorem dX7_kitten_7 : decode cX7_kitten 7 = .ok (.ifCond .eq 5, 3) := by decide +kernel
theorem dX7_kitten_10 : decode cX7_kitten 10 = .ok (.iload_n 2, 1) := by decide +kernel
theorem dX7_kitten_11 : decode cX7_kitten 11 = .ok (.ireturn, 1) := by decide +kernel
theorem dX7_kitten_12 : decode cX7_kitten 12 = .ok (.aload_n 0, 1) := by decide +kernel
theorem dX7_kitten_13 : decode cX7_kitten 13 = .ok (.invokevirtual 129, 3) := by decide +kernel
theorem dX7_kitten_16 : decode cX7_kitten 16 = .ok (.aload_n 0, 1) := by decide +kernel
theorem dX7_kitten_17 : decode cX7_kitten 17 = .ok (.iload_n 1, 1) := by decide +kernel
theorem dX7_kitten_18 : decode cX7_kitten 18 = .ok (.invokevirtual 135, 3) := by decide +kernel
theorem dX7_kitten_21 : decode cX7_kitten 21 = .ok (.ireturn, 1) := by decide +kernel
theorem dX7_leap_0 : decode cX7_leap 0 = .ok (.aload_n 0, 1) := by decide +kernel
theorem dX7_leap_1 : decode cX7_leap 1 = .ok (.iload_n 1, 1) := by decide +kernel
theorem dX7_leap_2 : decode cX7_leap 2 = .ok (.iload_n 2, 1) := by decide +kernel
theorem dX7_leap_3 : decode cX7_leap 3 = .ok (.invokevirtual 138, 3) := by decide +kernel
theorem dX7_leap_6 : decode cX7_leap 6 = .ok (.istore_n 3, 1) := by decide +kernel
theorem dX7_leap_7 : decode cX7_leap 7 = .ok (.iload_n 3, 1) := by decide +kernel
theorem dX7_leap_8 : decode cX7_leap 8 = .ok (.ifCond .eq 5, 3) := by decide +kernel
theorem dX7_leap_11 : decode cX7_leap 11 = .ok (.iload_n 3, 1) := by decide +kernel
theorem dX7_leap_12 : decode cX7_leap 12 = .ok (.ireturn, 1) := by decide +kernel
theorem dX7_leap_13 : decode cX7_leap 13 = .ok (.aload_n 0, 1) := by decide +kernel
theorem dX7_leap_14 : decode cX7_leap 14 = .ok (.invokevirtual 129, 3) := by decide +kernel
theorem dX7_leap_17 : decode cX7_leap 17 = .ok (.aload_n 0, 1) := by decide +kernel
theorem dX7_leap_18 : decode cX7_leap 18 = .ok (.iconst 0, 1) := by decide +kernel
theorem dX7_leap_19 : decode cX7_leap 19 = .ok (.iload_n 1, 1) := by decide +kernel
theorem dX7_leap_20 : decode cX7_leap 20 = .ok (.iload_n 2, 1) := by decide +kernel
theorem dX7_leap_21 : decode cX7_leap 21 = .ok (.invokevirtual 93, 3) := by decide +kernel
theorem dX7_leap_24 : decode cX7_leap 24 = .ok (.ireturn, 1) := by decide +kernel
theorem dX7_nap_0 : decode cX7_nap 0 = .ok (.aload_n 0, 1) := by decide +kernel
theorem dX7_nap_1 : decode cX7_nap 1 = .ok (.iload_n 1, 1) := by decide +kernel
theorem dX7_nap_2 : decode cX7_nap 2 = .ok (.invokevirtual 141, 3) := by decide +kernel
theorem dX7_nap_5 : decode cX7_nap 5 = .ok (.istore_n 2, 1) := by decide +kernel
theorem dX7_nap_6 : decode cX7_nap 6 = .ok (.iload_n 2, 1) := by decide +kernel
theorem dX7_nap_7 : decode cX7_nap 7 = .ok (.ifCond .eq 5, 3) := by decide +kernel
theorem dX7_nap_10 : decode cX7_nap 10 = .ok (.iload_n 2, 1) := by decide +kernel
theorem dX7_nap_11 : decode cX7_nap 11 = .ok (.ireturn, 1) := by decide +kernel
theorem dX7_nap_12 : decode cX7_nap 12 = .ok (.aload_n 0, 1) := by decide +kernel
theorem dX7_nap_13 : decode cX7_nap 13 = .ok (.invokevirtual 129, 3) := by decide +kernel
theorem dX7_nap_16 : decode cX7_nap 16 = .ok (.aload_n 0, 1) := by decide +kernel
theorem dX7_nap_17 : decode cX7_nap 17 = .ok (.iload_n 1, 1) := by decide +kernel
theorem dX7_nap_18 : decode cX7_nap 18 = .ok (.invokevirtual 144, 3) := by decide +kernel
theorem dX7_nap_21 : decode cX7_nap 21 = .ok (.ireturn, 1) := by decide +kernel
theorem dX7_snip_0 : decode cX7_snip 0 = .ok (.aload_n 0, 1) := by decide +kernel
theorem dX7_snip_1 : decode cX7_snip 1 = .ok (.iload_n 1, 1) := by decide +kernel
theorem dX7_snip_2 : decode cX7_snip 2 = .ok (.iload_n 2, 1) := by decide +kernel
theorem dX7_snip_3 : decode cX7_snip 3 = .ok (.invokevirtual 147, 3) := by decide +kernel
theorem dX7_snip_6 : decode cX7_snip 6 = .ok (.istore_n 3, 1) := by decide +kernel
theorem dX7_snip_7 : decode cX7_snip 7 = .ok (.iload_n 3, 1) := by decide +kernel
theorem dX7_snip_8 : decode cX7_snip 8 = .ok (.ifCond .eq 5, 3) := by decide +kernel
theorem dX7_snip_11 : decode cX7_snip 11 = .ok (.iload_n 3, 1) := by decide +kernel
theorem dX7_snip_12 : decode cX7_snip 12 = .ok (.ireturn, 1) := by decide +kernel
theorem dX7_snip_13 : decode cX7_snip 13 = .ok (.aload_n 0, 1) := by decide +kernel
theorem dX7_snip_14 : decode cX7_snip 14 = .ok (.invokevirtual 129, 3) := by decide +kernel
theorem dX7_snip_17 : decode cX7_snip 17 = .ok (.aload_n 0, 1) := by decide +kernel
theorem dX7_snip_18 : decode cX7_snip 18 = .ok (.iload_n 1, 1) := by decide +kernel
theorem dX7_snip_19 : decode cX7_snip 19 = .ok (.iload_n 2, 1) := by decide +kernel
theorem dX7_snip_20 : decode cX7_snip 20 = .ok (.invokevirtual 150, 3) := by decide +kernel
theorem dX7_snip_23 : decode cX7_snip 23 = .ok (.ireturn, 1) := by decide +kernel
theorem dX7_plan_0 : decode cX7_plan 0 = .ok (.aload_n 0, 1) := by decide +kernel
theorem dX7_plan_1 : decode cX7_plan 1 = .ok (.iload_n 1, 1) := by decide +kernel
theorem dX7_plan_2 : decode cX7_plan 2 = .ok (.iload_n 2, 1) := by decide +kernel
theorem dX7_plan_3 : decode cX7_plan 3 = .ok (.iload_n 3, 1) := by decide +kernel
theorem dX7_plan_4 : decode cX7_plan 4 = .ok (.invokevirtual 153, 3) := by decide +kernel
theorem dX7_plan_7 : decode cX7_plan 7 = .ok (.istore 4, 2) := by decide +kernel
theorem dX7_plan_9 : decode cX7_plan 9 = .ok (.iload 4, 2) := by decide +kernel
theorem dX7_plan_11 : decode cX7_plan 11 = .ok (.ifCond .eq 6, 3) := by decide +kernel
theorem dX7_plan_14 : decode cX7_plan 14 = .ok (.iload 4, 2) := by decide +kernel
theorem dX7_plan_16 : decode cX7_plan 16 = .ok (.ireturn, 1) := by decide +kernel
theorem dX7_plan_17 : decode cX7_plan 17 = .ok (.aload_n 0, 1) := by decide +kernel
theorem dX7_plan_18 : decode cX7_plan 18 = .ok (.invokevirtual 129, 3) := by decide +kernel
theorem dX7_plan_21 : decode cX7_plan 21 = .ok (.aload_n 0, 1) := by decide +kernel
theorem dX7_plan_22 : decode cX7_plan 22 = .ok (.iload_n 1, 1) := by decide +kernel
theorem dX7_plan_23 : decode cX7_plan 23 = .ok (.iload_n 2, 1) := by decide +kernel
theorem dX7_plan_24 : decode cX7_plan 24 = .ok (.iload_n 3, 1) := by decide +kernel
theorem dX7_plan_25 : decode cX7_plan 25 = .ok (.invokevirtual 156, 3) := by decide +kernel
theorem dX7_plan_28 : decode cX7_plan 28 = .ok (.ireturn, 1) := by decide +kernel
theorem dX7_pass_0 : decode cX7_pass 0 = .ok (.aload_n 0, 1) := by decide +kernel
theorem dX7_pass_1 : decode cX7_pass 1 = .ok (.iload_n 1, 1) := by decide +kernel
theorem dX7_pass_2 : decode cX7_pass 2 = .ok (.invokevirtual 159, 3) := by decide +kernel
theorem dX7_pass_5 : decode cX7_pass 5 = .ok (.istore_n 2, 1) := by decide +kernel
theorem dX7_pass_6 : decode cX7_pass 6 = .ok (.iload_n 2, 1) := by decide +kernel
theorem dX7_pass_7 : decode cX7_pass 7 = .ok (.ifCond .eq 5, 3) := by decide +kernel
theorem dX7_pass_10 : decode cX7_pass 10 = .ok (.iload_n 2, 1) := by decide +kernel
theorem dX7_pass_11 : decode cX7_pass 11 = .ok (.ireturn, 1) := by decide +kernel
theorem dX7_pass_12 : decode cX7_pass 12 = .ok (.aload_n 0, 1) := by decide +kernel
theorem dX7_pass_13 : decode cX7_pass 13 = .ok (.invokevirtual 129, 3) := by decide +kernel
theorem dX7_pass_16 : decode cX7_pass 16 = .ok (.aload_n 0, 1) := by decide +kernel
theorem dX7_pass_17 : decode cX7_pass 17 = .ok (.iconst 0, 1) := by decide +kernel
theorem dX7_pass_18 : decode cX7_pass 18 = .ok (.iload_n 1, 1) := by decide +kernel
theorem dX7_pass_19 : decode cX7_pass 19 = .ok (.invokevirtual 162, 3) := by decide +kernel
theorem dX7_pass_22 : decode cX7_pass 22 = .ok (.ireturn, 1) := by decide +kernel
theorem dX7_ones_0 : decode cX7_ones 0 = .ok (.iconst 0, 1) := by decide +kernel
theorem dX7_ones_1 : decode cX7_ones 1 = .ok (.istore_n 1, 1) := by decide +kernel
theorem dX7_ones_2 : decode cX7_ones 2 = .ok (.iconst 0, 1) := by decide +kernel
theorem dX7_ones_3 : decode cX7_ones 3 = .ok (.istore_n 2, 1) := by decide +kernel
theorem dX7_ones_4 : decode cX7_ones 4 = .ok (.iload_n 2, 1) := by decide +kernel
theorem dX7_ones_5 : decode cX7_ones 5 = .ok (.bipush 16, 2) := by decide +kernel
theorem dX7_ones_7 : decode cX7_ones 7 = .ok (.if_icmp .ge 17, 3) := by decide +kernel
theorem dX7_ones_10 : decode cX7_ones 10 = .ok (.iload_n 1, 1) := by decide +kernel
theorem dX7_ones_11 : decode cX7_ones 11 = .ok (.iload_n 0, 1) := by decide +kernel
theorem dX7_ones_12 : decode cX7_ones 12 = .ok (.iload_n 2, 1) := by decide +kernel
theorem dX7_ones_13 : decode cX7_ones 13 = .ok (.ishr, 1) := by decide +kernel
theorem dX7_ones_14 : decode cX7_ones 14 = .ok (.iconst 1, 1) := by decide +kernel
theorem dX7_ones_15 : decode cX7_ones 15 = .ok (.iand, 1) := by decide +kernel
theorem dX7_ones_16 : decode cX7_ones 16 = .ok (.iadd, 1) := by decide +kernel
theorem dX7_ones_17 : decode cX7_ones 17 = .ok (.istore_n 1, 1) := by decide +kernel
theorem dX7_ones_18 : decode cX7_ones 18 = .ok (.iinc 2 1, 3) := by decide +kernel
theorem dX7_ones_21 : decode cX7_ones 21 = .ok (.goto (-17), 3) := by decide +kernel
theorem dX7_ones_24 : decode cX7_ones 24 = .ok (.iload_n 1, 1) := by decide +kernel
theorem dX7_ones_25 : decode cX7_ones 25 = .ok (.ireturn, 1) := by decide +kernel
theorem dX7_strandsOf_0 : decode cX7_strandsOf 0 = .ok (.iconst 0, 1) := by decide +kernel
theorem dX7_strandsOf_1 : decode cX7_strandsOf 1 = .ok (.istore_n 2, 1) := by decide +kernel
theorem dX7_strandsOf_2 : decode cX7_strandsOf 2 = .ok (.iconst 0, 1) := by decide +kernel
theorem dX7_strandsOf_3 : decode cX7_strandsOf 3 = .ok (.istore_n 3, 1) := by decide +kernel
theorem dX7_strandsOf_4 : decode cX7_strandsOf 4 = .ok (.iload_n 3, 1) := by decide +kernel
theorem dX7_strandsOf_5 : decode cX7_strandsOf 5 = .ok (.aload_n 0, 1) := by decide +kernel
theorem dX7_strandsOf_6 : decode cX7_strandsOf 6 = .ok (.getfield 7, 3) := by decide +kernel
theorem dX7_strandsOf_9 : decode cX7_strandsOf 9 = .ok (.bipush 8, 2) := by decide +kernel
theorem dX7_strandsOf_11 : decode cX7_strandsOf 11 = .ok (.iaload, 1) := by decide +kernel
theorem dX7_strandsOf_12 : decode cX7_strandsOf 12 = .ok (.if_icmp .ge 33, 3) := by decide +kernel
theorem dX7_strandsOf_15 : decode cX7_strandsOf 15 = .ok (.iload_n 2, 1) := by decide +kernel
theorem dX7_strandsOf_16 : decode cX7_strandsOf 16 = .ok (.aload_n 0, 1) := by decide +kernel
theorem dX7_strandsOf_17 : decode cX7_strandsOf 17 = .ok (.getfield 7, 3) := by decide +kernel
theorem dX7_strandsOf_20 : decode cX7_strandsOf 20 = .ok (.bipush 100, 2) := by decide +kernel
theorem dX7_strandsOf_22 : decode cX7_strandsOf 22 = .ok (.iload_n 3, 1) := by decide +kernel
theorem dX7_strandsOf_23 : decode cX7_strandsOf 23 = .ok (.iadd, 1) := by decide +kernel
theorem dX7_strandsOf_24 : decode cX7_strandsOf 24 = .ok (.iaload, 1) := by decide +kernel
theorem dX7_strandsOf_25 : decode cX7_strandsOf 25 = .ok (.bipush 16, 2) := by decide +kernel
theorem dX7_strandsOf_27 : decode cX7_strandsOf 27 = .ok (.idiv, 1) := by decide +kernel
theorem dX7_strandsOf_28 : decode cX7_strandsOf 28 = .ok (.iload_n 1, 1) := by decide +kernel
theorem dX7_strandsOf_29 : decode cX7_strandsOf 29 = .ok (.if_icmp .ne 7, 3) := by decide +kernel
theorem dX7_strandsOf_32 : decode cX7_strandsOf 32 = .ok (.iconst 1, 1) := by decide +kernel
theorem dX7_strandsOf_33 : decode cX7_strandsOf 33 = .ok (.goto 4, 3) := by decide +kernel
theorem dX7_strandsOf_36 : decode cX7_strandsOf 36 = .ok (.iconst 0, 1) := by decide +kernel
theorem dX7_strandsOf_37 : decode cX7_strandsOf 37 = .ok (.iadd, 1) := by decide +kernel
theorem dX7_strandsOf_38 : decode cX7_strandsOf 38 = .ok (.istore_n 2, 1) := by decide +kernel
theorem dX7_strandsOf_39 : decode cX7_strandsOf 39 = .ok (.iinc 3 1, 3) := by decide +kernel
theorem dX7_strandsOf_42 : decode cX7_strandsOf 42 = .ok (.goto (-38), 3) := by decide +kernel
theorem dX7_strandsOf_45 : decode cX7_strandsOf 45 = .ok (.iload_n 2, 1) := by decide +kernel
theorem dX7_strandsOf_46 : decode cX7_strandsOf 46 = .ok (.ireturn, 1) := by decide +kernel
theorem dX7_stepsOf_0 : decode cX7_stepsOf 0 = .ok (.iconst 0, 1) := by decide +kernel
theorem dX7_stepsOf_1 : decode cX7_stepsOf 1 = .ok (.istore_n 2, 1) := by decide +kernel
theorem dX7_stepsOf_2 : decode cX7_stepsOf 2 = .ok (.bipush (-15), 2) := by decide +kernel
theorem dX7_stepsOf_4 : decode cX7_stepsOf 4 = .ok (.istore_n 3, 1) := by decide +kernel
theorem dX7_stepsOf_5 : decode cX7_stepsOf 5 = .ok (.iload_n 3, 1) := by decide +kernel
theorem dX7_stepsOf_6 : decode cX7_stepsOf 6 = .ok (.bipush 15, 2) := by decide +kernel
theorem dX7_stepsOf_8 : decode cX7_stepsOf 8 = .ok (.if_icmp .gt 44, 3) := by decide +kernel
theorem dX7_stepsOf_11 : decode cX7_stepsOf 11 = .ok (.iload_n 2, 1) := by decide +kernel
theorem dX7_stepsOf_12 : decode cX7_stepsOf 12 = .ok (.iload_n 3, 1) := by decide +kernel
theorem dX7_stepsOf_13 : decode cX7_stepsOf 13 = .ok (.ifCond .eq 30, 3) := by decide +kernel
theorem dX7_stepsOf_16 : decode cX7_stepsOf 16 = .ok (.aload_n 0, 1) := by decide +kernel
theorem dX7_stepsOf_17 : decode cX7_stepsOf 17 = .ok (.iconst 0, 1) := by decide +kernel
theorem dX7_stepsOf_18 : decode cX7_stepsOf 18 = .ok (.iload_n 1, 1) := by decide +kernel
theorem dX7_stepsOf_19 : decode cX7_stepsOf 19 = .ok (.iload_n 3, 1) := by decide +kernel
theorem dX7_stepsOf_20 : decode cX7_stepsOf 20 = .ok (.invokevirtual 90, 3) := by decide +kernel
theorem dX7_stepsOf_23 : decode cX7_stepsOf 23 = .ok (.ifCond .ne 20, 3) := by decide +kernel
theorem dX7_stepsOf_26 : decode cX7_stepsOf 26 = .ok (.iconst 1, 1) := by decide +kernel
theorem dX7_stepsOf_27 : decode cX7_stepsOf 27 = .ok (.aload_n 0, 1) := by decide +kernel
theorem dX7_stepsOf_28 : decode cX7_stepsOf 28 = .ok (.getfield 7, 3) := by decide +kernel
theorem dX7_stepsOf_31 : decode cX7_stepsOf 31 = .ok (.iconst 0, 1) := by decide +kernel
theorem dX7_stepsOf_32 : decode cX7_stepsOf 32 = .ok (.iload_n 1, 1) := by decide +kernel
theorem dX7_stepsOf_33 : decode cX7_stepsOf 33 = .ok (.invokestatic 28, 3) := by decide +kernel
theorem dX7_stepsOf_36 : decode cX7_stepsOf 36 = .ok (.iaload, 1) := by decide +kernel
theorem dX7_stepsOf_37 : decode cX7_stepsOf 37 = .ok (.iload_n 3, 1) := by decide +kernel
theorem dX7_stepsOf_38 : decode cX7_stepsOf 38 = .ok (.iadd, 1) := by decide +kernel
theorem dX7_stepsOf_39 : decode cX7_stepsOf 39 = .ok (.ishl, 1) := by decide +kernel
theorem dX7_stepsOf_40 : decode cX7_stepsOf 40 = .ok (.goto 4, 3) := by decide +kernel
theorem dX7_stepsOf_43 : decode cX7_stepsOf 43 = .ok (.iconst 0, 1) := by decide +kernel
theorem dX7_stepsOf_44 : decode cX7_stepsOf 44 = .ok (.ior, 1) := by decide +kernel
theorem dX7_stepsOf_45 : decode cX7_stepsOf 45 = .ok (.istore_n 2, 1) := by decide +kernel
theorem dX7_stepsOf_46 : decode cX7_stepsOf 46 = .ok (.iinc 3 1, 3) := by decide +kernel
theorem dX7_stepsOf_49 : decode cX7_stepsOf 49 = .ok (.goto (-44), 3) := by decide +kernel
theorem dX7_stepsOf_52 : decode cX7_stepsOf 52 = .ok (.iload_n 2, 1) := by decide +kernel
theorem dX7_stepsOf_53 : decode cX7_stepsOf 53 = .ok (.ireturn, 1) := by decide +kernel
theorem dX7_of_0 : decode cX7_of 0 = .ok (.aload_n 0, 1) := by decide +kernel
theorem dX7_of_1 : decode cX7_of 1 = .ok (.iload_n 1, 1) := by decide +kernel
theorem dX7_of_2 : decode cX7_of 2 = .ok (.invokevirtual 103, 3) := by decide +kernel
theorem dX7_of_5 : decode cX7_of 5 = .ok (.ifCond .ne 5, 3) := by decide +kernel
theorem dX7_of_8 : decode cX7_of 8 = .ok (.iconst (-1), 1) := by decide +kernel
theorem dX7_of_9 : decode cX7_of 9 = .ok (.ireturn, 1) := by decide +kernel
theorem dX7_of_10 : decode cX7_of 10 = .ok (.iconst 0, 1) := by decide +kernel
theorem dX7_of_11 : decode cX7_of 11 = .ok (.iload_n 1, 1) := by decide +kernel
theorem dX7_of_12 : decode cX7_of 12 = .ok (.invokestatic 28, 3) := by decide +kernel
theorem dX7_of_15 : decode cX7_of 15 = .ok (.istore_n 3, 1) := by decide +kernel
theorem dX7_of_16 : decode cX7_of 16 = .ok (.iload_n 2, 1) := by decide +kernel
theorem dX7_of_17 : decode cX7_of 17 = .ok (.tableswitch 96 0 9 #[55, 55, 55, 55, 64, 70, 70, 70, 83, 90], 55) := by decide +kernel
theorem dX7_of_72 : decode cX7_of 72 = .ok (.aload_n 0, 1) := by decide +kernel
theorem dX7_of_73 : decode cX7_of 73 = .ok (.getfield 7, 3) := by decide +kernel
theorem dX7_of_76 : decode cX7_of 76 = .ok (.iload_n 3, 1) := by decide +kernel
theorem dX7_of_77 : decode cX7_of 77 = .ok (.iload_n 2, 1) := by decide +kernel
theorem dX7_of_78 : decode cX7_of 78 = .ok (.iadd, 1) := by decide +kernel
theorem dX7_of_79 : decode cX7_of 79 = .ok (.iaload, 1) := by decide +kernel
theorem dX7_of_80 : decode cX7_of 80 = .ok (.ireturn, 1) := by decide +kernel
theorem dX7_of_81 : decode cX7_of 81 = .ok (.aload_n 0, 1) := by decide +kernel
theorem dX7_of_82 : decode cX7_of 82 = .ok (.iload_n 1, 1) := by decide +kernel
theorem dX7_of_83 : decode cX7_of 83 = .ok (.invokevirtual 165, 3) := by decide +kernel
theorem dX7_of_86 : decode cX7_of 86 = .ok (.ireturn, 1) := by decide +kernel
theorem dX7_of_87 : decode cX7_of 87 = .ok (.aload_n 0, 1) := by decide +kernel
theorem dX7_of_88 : decode cX7_of 88 = .ok (.getfield 7, 3) := by decide +kernel
theorem dX7_of_91 : decode cX7_of 91 = .ok (.iload_n 3, 1) := by decide +kernel
theorem dX7_of_92 : decode cX7_of 92 = .ok (.iconst 4, 1) := by decide +kernel
theorem dX7_of_93 : decode cX7_of 93 = .ok (.iadd, 1) := by decide +kernel
theorem dX7_of_94 : decode cX7_of 94 = .ok (.iload_n 2, 1) := by decide +kernel
theorem dX7_of_95 : decode cX7_of 95 = .ok (.iadd, 1) := by decide +kernel
theorem dX7_of_96 : decode cX7_of 96 = .ok (.iconst 5, 1) := by decide +kernel
theorem dX7_of_97 : decode cX7_of 97 = .ok (.isub, 1) := by decide +kernel
theorem dX7_of_98 : decode cX7_of 98 = .ok (.iaload, 1) := by decide +kernel
theorem dX7_of_99 : decode cX7_of 99 = .ok (.ireturn, 1) := by decide +kernel
theorem dX7_of_100 : decode cX7_of 100 = .ok (.aload_n 0, 1) := by decide +kernel
theorem dX7_of_101 : decode cX7_of 101 = .ok (.iconst 0, 1) := by decide +kernel
theorem dX7_of_102 : decode cX7_of 102 = .ok (.iload_n 1, 1) := by decide +kernel
theorem dX7_of_103 : decode cX7_of 103 = .ok (.invokevirtual 53, 3) := by decide +kernel
theorem dX7_of_106 : decode cX7_of 106 = .ok (.ireturn, 1) := by decide +kernel
theorem dX7_of_107 : decode cX7_of 107 = .ok (.aload_n 0, 1) := by decide +kernel
theorem dX7_of_108 : decode cX7_of 108 = .ok (.iload_n 1, 1) := by decide +kernel
theorem dX7_of_109 : decode cX7_of 109 = .ok (.invokevirtual 168, 3) := by decide +kernel
theorem dX7_of_112 : decode cX7_of 112 = .ok (.ireturn, 1) := by decide +kernel
theorem dX7_of_113 : decode cX7_of 113 = .ok (.bipush (-2), 2) := by decide +kernel
theorem dX7_of_115 : decode cX7_of 115 = .ok (.ireturn, 1) := by decide +kernel
theorem dX7_thickness_0 : decode cX7_thickness 0 = .ok (.iconst 0, 1) := by decide +kernel
theorem dX7_thickness_1 : decode cX7_thickness 1 = .ok (.istore_n 2, 1) := by decide +kernel
theorem dX7_thickness_2 : decode cX7_thickness 2 = .ok (.iconst 0, 1) := by decide +kernel
theorem dX7_thickness_3 : decode cX7_thickness 3 = .ok (.istore_n 3, 1) := by decide +kernel
theorem dX7_thickness_4 : decode cX7_thickness 4 = .ok (.iload_n 3, 1) := by decide +kernel
theorem dX7_thickness_5 : decode cX7_thickness 5 = .ok (.aload_n 0, 1) := by decide +kernel
theorem dX7_thickness_6 : decode cX7_thickness 6 = .ok (.getfield 7, 3) := by decide +kernel
theorem dX7_thickness_9 : decode cX7_thickness 9 = .ok (.bipush 8, 2) := by decide +kernel
theorem dX7_thickness_11 : decode cX7_thickness 11 = .ok (.iaload, 1) := by decide +kernel
theorem dX7_thickness_12 : decode cX7_thickness 12 = .ok (.if_icmp .ge 29, 3) := by decide +kernel
theorem dX7_thickness_15 : decode cX7_thickness 15 = .ok (.iload_n 2, 1) := by decide +kernel
theorem dX7_thickness_16 : decode cX7_thickness 16 = .ok (.aload_n 0, 1) := by decide +kernel
theorem dX7_thickness_17 : decode cX7_thickness 17 = .ok (.iconst 0, 1) := by decide +kernel
theorem dX7_thickness_18 : decode cX7_thickness 18 = .ok (.iload_n 3, 1) := by decide +kernel
theorem dX7_thickness_19 : decode cX7_thickness 19 = .ok (.iload_n 1, 1) := by decide +kernel
theorem dX7_thickness_20 : decode cX7_thickness 20 = .ok (.invokevirtual 32, 3) := by decide +kernel
theorem dX7_thickness_23 : decode cX7_thickness 23 = .ok (.bipush (-6), 2) := by decide +kernel
theorem dX7_thickness_25 : decode cX7_thickness 25 = .ok (.if_icmp .ne 7, 3) := by decide +kernel
theorem dX7_thickness_28 : decode cX7_thickness 28 = .ok (.iconst 0, 1) := by decide +kernel
theorem dX7_thickness_29 : decode cX7_thickness 29 = .ok (.goto 4, 3) := by decide +kernel
theorem dX7_thickness_32 : decode cX7_thickness 32 = .ok (.iconst 1, 1) := by decide +kernel
theorem dX7_thickness_33 : decode cX7_thickness 33 = .ok (.iadd, 1) := by decide +kernel
theorem dX7_thickness_34 : decode cX7_thickness 34 = .ok (.istore_n 2, 1) := by decide +kernel
theorem dX7_thickness_35 : decode cX7_thickness 35 = .ok (.iinc 3 1, 3) := by decide +kernel
theorem dX7_thickness_38 : decode cX7_thickness 38 = .ok (.goto (-34), 3) := by decide +kernel
theorem dX7_thickness_41 : decode cX7_thickness 41 = .ok (.iload_n 2, 1) := by decide +kernel
theorem dX7_thickness_42 : decode cX7_thickness 42 = .ok (.ireturn, 1) := by decide +kernel
theorem dX7_kittensAt_0 : decode cX7_kittensAt 0 = .ok (.iconst 0, 1) := by decide +kernel
theorem dX7_kittensAt_1 : decode cX7_kittensAt 1 = .ok (.istore_n 2, 1) := by decide +kernel
theorem dX7_kittensAt_2 : decode cX7_kittensAt 2 = .ok (.iconst 0, 1) := by decide +kernel
theorem dX7_kittensAt_3 : decode cX7_kittensAt 3 = .ok (.istore_n 3, 1) := by decide +kernel
theorem dX7_kittensAt_4 : decode cX7_kittensAt 4 = .ok (.iload_n 3, 1) := by decide +kernel
theorem dX7_kittensAt_5 : decode cX7_kittensAt 5 = .ok (.aload_n 0, 1) := by decide +kernel
theorem dX7_kittensAt_6 : decode cX7_kittensAt 6 = .ok (.getfield 7, 3) := by decide +kernel
theorem dX7_kittensAt_9 : decode cX7_kittensAt 9 = .ok (.bipush 8, 2) := by decide +kernel
theorem dX7_kittensAt_11 : decode cX7_kittensAt 11 = .ok (.iaload, 1) := by decide +kernel
theorem dX7_kittensAt_12 : decode cX7_kittensAt 12 = .ok (.if_icmp .ge 37, 3) := by decide +kernel
theorem dX7_kittensAt_15 : decode cX7_kittensAt 15 = .ok (.iload_n 2, 1) := by decide +kernel
theorem dX7_kittensAt_16 : decode cX7_kittensAt 16 = .ok (.aload_n 0, 1) := by decide +kernel
theorem dX7_kittensAt_17 : decode cX7_kittensAt 17 = .ok (.iconst 0, 1) := by decide +kernel
theorem dX7_kittensAt_18 : decode cX7_kittensAt 18 = .ok (.iload_n 3, 1) := by decide +kernel
theorem dX7_kittensAt_19 : decode cX7_kittensAt 19 = .ok (.iload_n 1, 1) := by decide +kernel
theorem dX7_kittensAt_20 : decode cX7_kittensAt 20 = .ok (.invokevirtual 32, 3) := by decide +kernel
theorem dX7_kittensAt_23 : decode cX7_kittensAt 23 = .ok (.bipush (-6), 2) := by decide +kernel
theorem dX7_kittensAt_25 : decode cX7_kittensAt 25 = .ok (.if_icmp .ne 7, 3) := by decide +kernel
theorem dX7_kittensAt_28 : decode cX7_kittensAt 28 = .ok (.iconst 0, 1) := by decide +kernel
theorem dX7_kittensAt_29 : decode cX7_kittensAt 29 = .ok (.goto 12, 3) := by decide +kernel
theorem dX7_kittensAt_32 : decode cX7_kittensAt 32 = .ok (.iconst 1, 1) := by decide +kernel
theorem dX7_kittensAt_33 : decode cX7_kittensAt 33 = .ok (.aload_n 0, 1) := by decide +kernel
theorem dX7_kittensAt_34 : decode cX7_kittensAt 34 = .ok (.iconst 0, 1) := by decide +kernel
theorem dX7_kittensAt_35 : decode cX7_kittensAt 35 = .ok (.iload_n 3, 1) := by decide +kernel
theorem dX7_kittensAt_36 : decode cX7_kittensAt 36 = .ok (.iload_n 1, 1) := by decide +kernel
theorem dX7_kittensAt_37 : decode cX7_kittensAt 37 = .ok (.invokevirtual 32, 3) := by decide +kernel
theorem dX7_kittensAt_40 : decode cX7_kittensAt 40 = .ok (.ishl, 1) := by decide +kernel
theorem dX7_kittensAt_41 : decode cX7_kittensAt 41 = .ok (.ior, 1) := by decide +kernel
theorem dX7_kittensAt_42 : decode cX7_kittensAt 42 = .ok (.istore_n 2, 1) := by decide +kernel
theorem dX7_kittensAt_43 : decode cX7_kittensAt 43 = .ok (.iinc 3 1, 3) := by decide +kernel
theorem dX7_kittensAt_46 : decode cX7_kittensAt 46 = .ok (.goto (-42), 3) := by decide +kernel
theorem dX7_kittensAt_49 : decode cX7_kittensAt 49 = .ok (.iload_n 2, 1) := by decide +kernel
theorem dX7_kittensAt_50 : decode cX7_kittensAt 50 = .ok (.ireturn, 1) := by decide +kernel
theorem dX7_pairsAt_0 : decode cX7_pairsAt 0 = .ok (.iconst 0, 1) := by decide +kernel
theorem dX7_pairsAt_1 : decode cX7_pairsAt 1 = .ok (.istore_n 2, 1) := by decide +kernel
theorem dX7_pairsAt_2 : decode cX7_pairsAt 2 = .ok (.iconst 0, 1) := by decide +kernel
theorem dX7_pairsAt_3 : decode cX7_pairsAt 3 = .ok (.istore_n 3, 1) := by decide +kernel
theorem dX7_pairsAt_4 : decode cX7_pairsAt 4 = .ok (.iload_n 3, 1) := by decide +kernel
theorem dX7_pairsAt_5 : decode cX7_pairsAt 5 = .ok (.aload_n 0, 1) := by decide +kernel
theorem dX7_pairsAt_6 : decode cX7_pairsAt 6 = .ok (.getfield 7, 3) := by decide +kernel
theorem dX7_pairsAt_9 : decode cX7_pairsAt 9 = .ok (.iconst 5, 1) := by decide +kernel
theorem dX7_pairsAt_10 : decode cX7_pairsAt 10 = .ok (.iaload, 1) := by decide +kernel
theorem dX7_pairsAt_11 : decode cX7_pairsAt 11 = .ok (.aload_n 0, 1) := by decide +kernel
theorem dX7_pairsAt_12 : decode cX7_pairsAt 12 = .ok (.getfield 7, 3) := by decide +kernel
theorem dX7_pairsAt_15 : decode cX7_pairsAt 15 = .ok (.iconst 5, 1) := by decide +kernel
theorem dX7_pairsAt_16 : decode cX7_pairsAt 16 = .ok (.iaload, 1) := by decide +kernel
theorem dX7_pairsAt_17 : decode cX7_pairsAt 17 = .ok (.imul, 1) := by decide +kernel
theorem dX7_pairsAt_18 : decode cX7_pairsAt 18 = .ok (.if_icmp .ge 61, 3) := by decide +kernel
theorem dX7_pairsAt_21 : decode cX7_pairsAt 21 = .ok (.iload_n 2, 1) := by decide +kernel
theorem dX7_pairsAt_22 : decode cX7_pairsAt 22 = .ok (.iload_n 3, 1) := by decide +kernel
theorem dX7_pairsAt_23 : decode cX7_pairsAt 23 = .ok (.aload_n 0, 1) := by decide +kernel
theorem dX7_pairsAt_24 : decode cX7_pairsAt 24 = .ok (.getfield 7, 3) := by decide +kernel
theorem dX7_pairsAt_27 : decode cX7_pairsAt 27 = .ok (.iconst 5, 1) := by decide +kernel
theorem dX7_pairsAt_28 : decode cX7_pairsAt 28 = .ok (.iaload, 1) := by decide +kernel
theorem dX7_pairsAt_29 : decode cX7_pairsAt 29 = .ok (.idiv, 1) := by decide +kernel
theorem dX7_pairsAt_30 : decode cX7_pairsAt 30 = .ok (.iload_n 3, 1) := by decide +kernel
theorem dX7_pairsAt_31 : decode cX7_pairsAt 31 = .ok (.aload_n 0, 1) := by decide +kernel
theorem dX7_pairsAt_32 : decode cX7_pairsAt 32 = .ok (.getfield 7, 3) := by decide +kernel
theorem dX7_pairsAt_35 : decode cX7_pairsAt 35 = .ok (.iconst 5, 1) := by decide +kernel
theorem dX7_pairsAt_36 : decode cX7_pairsAt 36 = .ok (.iaload, 1) := by decide +kernel
theorem dX7_pairsAt_37 : decode cX7_pairsAt 37 = .ok (.irem, 1) := by decide +kernel
theorem dX7_pairsAt_38 : decode cX7_pairsAt 38 = .ok (.if_icmp .ge 32, 3) := by decide +kernel
theorem dX7_pairsAt_41 : decode cX7_pairsAt 41 = .ok (.aload_n 0, 1) := by decide +kernel
theorem dX7_pairsAt_42 : decode cX7_pairsAt 42 = .ok (.iconst 0, 1) := by decide +kernel
theorem dX7_pairsAt_43 : decode cX7_pairsAt 43 = .ok (.iload_n 1, 1) := by decide +kernel
theorem dX7_pairsAt_44 : decode cX7_pairsAt 44 = .ok (.iload_n 3, 1) := by decide +kernel
theorem dX7_pairsAt_45 : decode cX7_pairsAt 45 = .ok (.aload_n 0, 1) := by decide +kernel
theorem dX7_pairsAt_46 : decode cX7_pairsAt 46 = .ok (.getfield 7, 3) := by decide +kernel
theorem dX7_pairsAt_49 : decode cX7_pairsAt 49 = .ok (.iconst 5, 1) := by decide +kernel
theorem dX7_pairsAt_50 : decode cX7_pairsAt 50 = .ok (.iaload, 1) := by decide +kernel
theorem dX7_pairsAt_51 : decode cX7_pairsAt 51 = .ok (.idiv, 1) := by decide +kernel
theorem dX7_pairsAt_52 : decode cX7_pairsAt 52 = .ok (.iload_n 3, 1) := by decide +kernel
theorem dX7_pairsAt_53 : decode cX7_pairsAt 53 = .ok (.aload_n 0, 1) := by decide +kernel
theorem dX7_pairsAt_54 : decode cX7_pairsAt 54 = .ok (.getfield 7, 3) := by decide +kernel
theorem dX7_pairsAt_57 : decode cX7_pairsAt 57 = .ok (.iconst 5, 1) := by decide +kernel
theorem dX7_pairsAt_58 : decode cX7_pairsAt 58 = .ok (.iaload, 1) := by decide +kernel
theorem dX7_pairsAt_59 : decode cX7_pairsAt 59 = .ok (.irem, 1) := by decide +kernel
theorem dX7_pairsAt_60 : decode cX7_pairsAt 60 = .ok (.invokevirtual 46, 3) := by decide +kernel
theorem dX7_pairsAt_63 : decode cX7_pairsAt 63 = .ok (.ifCond .eq 7, 3) := by decide +kernel
theorem dX7_pairsAt_66 : decode cX7_pairsAt 66 = .ok (.iconst 1, 1) := by decide +kernel
theorem dX7_pairsAt_67 : decode cX7_pairsAt 67 = .ok (.goto 4, 3) := by decide +kernel
theorem dX7_pairsAt_70 : decode cX7_pairsAt 70 = .ok (.iconst 0, 1) := by decide +kernel
theorem dX7_pairsAt_71 : decode cX7_pairsAt 71 = .ok (.iadd, 1) := by decide +kernel
theorem dX7_pairsAt_72 : decode cX7_pairsAt 72 = .ok (.istore_n 2, 1) := by decide +kernel
theorem dX7_pairsAt_73 : decode cX7_pairsAt 73 = .ok (.iinc 3 1, 3) := by decide +kernel
theorem dX7_pairsAt_76 : decode cX7_pairsAt 76 = .ok (.goto (-72), 3) := by decide +kernel
theorem dX7_pairsAt_79 : decode cX7_pairsAt 79 = .ok (.iload_n 2, 1) := by decide +kernel
theorem dX7_pairsAt_80 : decode cX7_pairsAt 80 = .ok (.ireturn, 1) := by decide +kernel
theorem dX7_ofEdge_0 : decode cX7_ofEdge 0 = .ok (.iload_n 1, 1) := by decide +kernel
theorem dX7_ofEdge_1 : decode cX7_ofEdge 1 = .ok (.invokestatic 110, 3) := by decide +kernel
theorem dX7_ofEdge_4 : decode cX7_ofEdge 4 = .ok (.ifCond .ne 5, 3) := by decide +kernel
theorem dX7_ofEdge_7 : decode cX7_ofEdge 7 = .ok (.iconst (-1), 1) := by decide +kernel
theorem dX7_ofEdge_8 : decode cX7_ofEdge 8 = .ok (.ireturn, 1) := by decide +kernel
theorem dX7_ofEdge_9 : decode cX7_ofEdge 9 = .ok (.iload_n 2, 1) := by decide +kernel
theorem dX7_ofEdge_10 : decode cX7_ofEdge 10 = .ok (.tableswitch 77 0 3 #[30, 36, 65, 71], 30) := by decide +kernel
theorem dX7_ofEdge_40 : decode cX7_ofEdge 40 = .ok (.aload_n 0, 1) := by decide +kernel
theorem dX7_ofEdge_41 : decode cX7_ofEdge 41 = .ok (.iload_n 1, 1) := by decide +kernel
theorem dX7_ofEdge_42 : decode cX7_ofEdge 42 = .ok (.invokevirtual 171, 3) := by decide +kernel
theorem dX7_ofEdge_45 : decode cX7_ofEdge 45 = .ok (.ireturn, 1) := by decide +kernel
theorem dX7_ofEdge_46 : decode cX7_ofEdge 46 = .ok (.aload_n 0, 1) := by decide +kernel
theorem dX7_ofEdge_47 : decode cX7_ofEdge 47 = .ok (.iconst 0, 1) := by decide +kernel
theorem dX7_ofEdge_48 : decode cX7_ofEdge 48 = .ok (.iload_n 1, 1) := by decide +kernel
theorem dX7_ofEdge_49 : decode cX7_ofEdge 49 = .ok (.invokevirtual 36, 3) := by decide +kernel
theorem dX7_ofEdge_52 : decode cX7_ofEdge 52 = .ok (.bipush (-6), 2) := by decide +kernel
theorem dX7_ofEdge_54 : decode cX7_ofEdge 54 = .ok (.if_icmp .ne 8, 3) := by decide +kernel
theorem dX7_ofEdge_57 : decode cX7_ofEdge 57 = .ok (.bipush (-6), 2) := by decide +kernel
theorem dX7_ofEdge_59 : decode cX7_ofEdge 59 = .ok (.goto 15, 3) := by decide +kernel
theorem dX7_ofEdge_62 : decode cX7_ofEdge 62 = .ok (.aload_n 0, 1) := by decide +kernel
theorem dX7_ofEdge_63 : decode cX7_ofEdge 63 = .ok (.iconst 0, 1) := by decide +kernel
theorem dX7_ofEdge_64 : decode cX7_ofEdge 64 = .ok (.aload_n 0, 1) := by decide +kernel
theorem dX7_ofEdge_65 : decode cX7_ofEdge 65 = .ok (.iconst 0, 1) := by decide +kernel
theorem dX7_ofEdge_66 : decode cX7_ofEdge 66 = .ok (.iload_n 1, 1) := by decide +kernel
theorem dX7_ofEdge_67 : decode cX7_ofEdge 67 = .ok (.invokevirtual 36, 3) := by decide +kernel
theorem dX7_ofEdge_70 : decode cX7_ofEdge 70 = .ok (.iload_n 1, 1) := by decide +kernel
theorem dX7_ofEdge_71 : decode cX7_ofEdge 71 = .ok (.invokevirtual 32, 3) := by decide +kernel
theorem dX7_ofEdge_74 : decode cX7_ofEdge 74 = .ok (.ireturn, 1) := by decide +kernel
theorem dX7_ofEdge_75 : decode cX7_ofEdge 75 = .ok (.aload_n 0, 1) := by decide +kernel
theorem dX7_ofEdge_76 : decode cX7_ofEdge 76 = .ok (.iload_n 1, 1) := by decide +kernel
theorem dX7_ofEdge_77 : decode cX7_ofEdge 77 = .ok (.invokevirtual 174, 3) := by decide +kernel
theorem dX7_ofEdge_80 : decode cX7_ofEdge 80 = .ok (.ireturn, 1) := by decide +kernel
theorem dX7_ofEdge_81 : decode cX7_ofEdge 81 = .ok (.aload_n 0, 1) := by decide +kernel
theorem dX7_ofEdge_82 : decode cX7_ofEdge 82 = .ok (.iload_n 1, 1) := by decide +kernel
theorem dX7_ofEdge_83 : decode cX7_ofEdge 83 = .ok (.invokevirtual 177, 3) := by decide +kernel
theorem dX7_ofEdge_86 : decode cX7_ofEdge 86 = .ok (.ireturn, 1) := by decide +kernel
theorem dX7_ofEdge_87 : decode cX7_ofEdge 87 = .ok (.bipush (-2), 2) := by decide +kernel
theorem dX7_ofEdge_89 : decode cX7_ofEdge 89 = .ok (.ireturn, 1) := by decide +kernel
theorem dX7_strand_0 : decode cX7_strand 0 = .ok (.iload_n 1, 1) := by decide +kernel
theorem dX7_strand_1 : decode cX7_strand 1 = .ok (.invokestatic 110, 3) := by decide +kernel
theorem dX7_strand_4 : decode cX7_strand 4 = .ok (.ifCond .eq 20, 3) := by decide +kernel
theorem dX7_strand_7 : decode cX7_strand 7 = .ok (.iload_n 2, 1) := by decide +kernel
theorem dX7_strand_8 : decode cX7_strand 8 = .ok (.i2l, 1) := by decide +kernel
theorem dX7_strand_9 : decode cX7_strand 9 = .ok (.lconst 0, 1) := by decide +kernel
theorem dX7_strand_10 : decode cX7_strand 10 = .ok (.aload_n 0, 1) := by decide +kernel
theorem dX7_strand_11 : decode cX7_strand 11 = .ok (.iload_n 1, 1) := by decide +kernel
theorem dX7_strand_12 : decode cX7_strand 12 = .ok (.invokevirtual 171, 3) := by decide +kernel
theorem dX7_strand_15 : decode cX7_strand 15 = .ok (.iconst 1, 1) := by decide +kernel
theorem dX7_strand_16 : decode cX7_strand 16 = .ok (.isub, 1) := by decide +kernel
theorem dX7_strand_17 : decode cX7_strand 17 = .ok (.i2l, 1) := by decide +kernel
theorem dX7_strand_18 : decode cX7_strand 18 = .ok (.invokestatic 70, 3) := by decide +kernel
theorem dX7_strand_21 : decode cX7_strand 21 = .ok (.ifCond .ne 5, 3) := by decide +kernel
theorem dX7_strand_24 : decode cX7_strand 24 = .ok (.iconst (-1), 1) := by decide +kernel
theorem dX7_strand_25 : decode cX7_strand 25 = .ok (.ireturn, 1) := by decide +kernel
theorem dX7_strand_26 : decode cX7_strand 26 = .ok (.iload_n 2, 1) := by decide +kernel
theorem dX7_strand_27 : decode cX7_strand 27 = .ok (.istore_n 3, 1) := by decide +kernel
theorem dX7_strand_28 : decode cX7_strand 28 = .ok (.iconst 0, 1) := by decide +kernel
theorem dX7_strand_29 : decode cX7_strand 29 = .ok (.istore 4, 2) := by decide +kernel
theorem dX7_strand_31 : decode cX7_strand 31 = .ok (.iload_n 3, 1) := by decide +kernel
theorem dX7_strand_32 : decode cX7_strand 32 = .ok (.ifCond .gt 16, 3) := by decide +kernel
theorem dX7_strand_35 : decode cX7_strand 35 = .ok (.aload_n 0, 1) := by decide +kernel
theorem dX7_strand_36 : decode cX7_strand 36 = .ok (.iconst 0, 1) := by decide +kernel
theorem dX7_strand_37 : decode cX7_strand 37 = .ok (.iload 4, 2) := by decide +kernel
theorem dX7_strand_39 : decode cX7_strand 39 = .ok (.iload_n 1, 1) := by decide +kernel
theorem dX7_strand_40 : decode cX7_strand 40 = .ok (.invokevirtual 32, 3) := by decide +kernel
theorem dX7_strand_43 : decode cX7_strand 43 = .ok (.bipush (-6), 2) := by decide +kernel
theorem dX7_strand_45 : decode cX7_strand 45 = .ok (.if_icmp .ne 30, 3) := by decide +kernel
theorem dX7_strand_48 : decode cX7_strand 48 = .ok (.iload_n 3, 1) := by decide +kernel
theorem dX7_strand_49 : decode cX7_strand 49 = .ok (.aload_n 0, 1) := by decide +kernel
theorem dX7_strand_50 : decode cX7_strand 50 = .ok (.iconst 0, 1) := by decide +kernel
theorem dX7_strand_51 : decode cX7_strand 51 = .ok (.iload 4, 2) := by decide +kernel
theorem dX7_strand_53 : decode cX7_strand 53 = .ok (.iload_n 1, 1) := by decide +kernel
theorem dX7_strand_54 : decode cX7_strand 54 = .ok (.invokevirtual 32, 3) := by decide +kernel
theorem dX7_strand_57 : decode cX7_strand 57 = .ok (.bipush (-6), 2) := by decide +kernel
theorem dX7_strand_59 : decode cX7_strand 59 = .ok (.if_icmp .ne 7, 3) := by decide +kernel
theorem dX7_strand_62 : decode cX7_strand 62 = .ok (.iconst 0, 1) := by decide +kernel
theorem dX7_strand_63 : decode cX7_strand 63 = .ok (.goto 4, 3) := by decide +kernel
theorem dX7_strand_66 : decode cX7_strand 66 = .ok (.iconst 1, 1) := by decide +kernel
theorem dX7_strand_67 : decode cX7_strand 67 = .ok (.isub, 1) := by decide +kernel
theorem dX7_strand_68 : decode cX7_strand 68 = .ok (.istore_n 3, 1) := by decide +kernel
theorem dX7_strand_69 : decode cX7_strand 69 = .ok (.iinc 4 1, 3) := by decide +kernel
theorem dX7_strand_72 : decode cX7_strand 72 = .ok (.goto (-41), 3) := by decide +kernel
theorem dX7_strand_75 : decode cX7_strand 75 = .ok (.aload_n 0, 1) := by decide +kernel
theorem dX7_strand_76 : decode cX7_strand 76 = .ok (.iconst 0, 1) := by decide +kernel
theorem dX7_strand_77 : decode cX7_strand 77 = .ok (.iload 4, 2) := by decide +kernel
theorem dX7_strand_79 : decode cX7_strand 79 = .ok (.iload_n 1, 1) := by decide +kernel
theorem dX7_strand_80 : decode cX7_strand 80 = .ok (.invokevirtual 32, 3) := by decide +kernel
theorem dX7_strand_83 : decode cX7_strand 83 = .ok (.ireturn, 1) := by decide +kernel
theorem dX7_bound_0 : decode cX7_bound 0 = .ok (.aload_n 0, 1) := by decide +kernel
theorem dX7_bound_1 : decode cX7_bound 1 = .ok (.iload_n 1, 1) := by decide +kernel
theorem dX7_bound_2 : decode cX7_bound 2 = .ok (.invokevirtual 103, 3) := by decide +kernel
theorem dX7_bound_5 : decode cX7_bound 5 = .ok (.ifCond .eq 11, 3) := by decide +kernel
theorem dX7_bound_8 : decode cX7_bound 8 = .ok (.aload_n 0, 1) := by decide +kernel
theorem dX7_bound_9 : decode cX7_bound 9 = .ok (.iload_n 2, 1) := by decide +kernel
theorem dX7_bound_10 : decode cX7_bound 10 = .ok (.invokevirtual 103, 3) := by decide +kernel
theorem dX7_bound_13 : decode cX7_bound 13 = .ok (.ifCond .ne 7, 3) := by decide +kernel
theorem dX7_bound_16 : decode cX7_bound 16 = .ok (.iconst (-1), 1) := by decide +kernel
theorem dX7_bound_17 : decode cX7_bound 17 = .ok (.goto 20, 3) := by decide +kernel
theorem dX7_bound_20 : decode cX7_bound 20 = .ok (.iload_n 1, 1) := by decide +kernel
theorem dX7_bound_21 : decode cX7_bound 21 = .ok (.iload_n 2, 1) := by decide +kernel
theorem dX7_bound_22 : decode cX7_bound 22 = .ok (.if_icmp .ne 8, 3) := by decide +kernel
theorem dX7_bound_25 : decode cX7_bound 25 = .ok (.bipush (-2), 2) := by decide +kernel
theorem dX7_bound_27 : decode cX7_bound 27 = .ok (.goto 10, 3) := by decide +kernel
theorem dX7_bound_30 : decode cX7_bound 30 = .ok (.aload_n 0, 1) := by decide +kernel
theorem dX7_bound_31 : decode cX7_bound 31 = .ok (.iconst 0, 1) := by decide +kernel
theorem dX7_bound_32 : decode cX7_bound 32 = .ok (.iload_n 1, 1) := by decide +kernel
theorem dX7_bound_33 : decode cX7_bound 33 = .ok (.iload_n 2, 1) := by decide +kernel
theorem dX7_bound_34 : decode cX7_bound 34 = .ok (.invokevirtual 50, 3) := by decide +kernel
theorem dX7_bound_37 : decode cX7_bound 37 = .ok (.ireturn, 1) := by decide +kernel
theorem dX7_planned_0 : decode cX7_planned 0 = .ok (.iload_n 1, 1) := by decide +kernel
theorem dX7_planned_1 : decode cX7_planned 1 = .ok (.i2l, 1) := by decide +kernel
theorem dX7_planned_2 : decode cX7_planned 2 = .ok (.lconst 0, 1) := by decide +kernel
theorem dX7_planned_3 : decode cX7_planned 3 = .ok (.aload_n 0, 1) := by decide +kernel
theorem dX7_planned_4 : decode cX7_planned 4 = .ok (.getfield 7, 3) := by decide +kernel
theorem dX7_planned_7 : decode cX7_planned 7 = .ok (.bipush 9, 2) := by decide +kernel
theorem dX7_planned_9 : decode cX7_planned 9 = .ok (.iaload, 1) := by decide +kernel
theorem dX7_planned_10 : decode cX7_planned 10 = .ok (.iconst 1, 1) := by decide +kernel
theorem dX7_planned_11 : decode cX7_planned 11 = .ok (.isub, 1) := by decide +kernel
theorem dX7_planned_12 : decode cX7_planned 12 = .ok (.i2l, 1) := by decide +kernel
theorem dX7_planned_13 : decode cX7_planned 13 = .ok (.invokestatic 70, 3) := by decide +kernel
theorem dX7_planned_16 : decode cX7_planned 16 = .ok (.ifCond .ne 5, 3) := by decide +kernel
theorem dX7_planned_19 : decode cX7_planned 19 = .ok (.iconst (-1), 1) := by decide +kernel
theorem dX7_planned_20 : decode cX7_planned 20 = .ok (.ireturn, 1) := by decide +kernel
theorem dX7_planned_21 : decode cX7_planned 21 = .ok (.iload_n 2, 1) := by decide +kernel
theorem dX7_planned_22 : decode cX7_planned 22 = .ok (.i2l, 1) := by decide +kernel
theorem dX7_planned_23 : decode cX7_planned 23 = .ok (.lconst 0, 1) := by decide +kernel
theorem dX7_planned_24 : decode cX7_planned 24 = .ok (.ldc2_w 122, 3) := by decide +kernel
theorem dX7_planned_27 : decode cX7_planned 27 = .ok (.invokestatic 70, 3) := by decide +kernel
theorem dX7_planned_30 : decode cX7_planned 30 = .ok (.ifCond .ne 8, 3) := by decide +kernel
theorem dX7_planned_33 : decode cX7_planned 33 = .ok (.bipush (-2), 2) := by decide +kernel
theorem dX7_planned_35 : decode cX7_planned 35 = .ok (.goto 27, 3) := by decide +kernel
theorem dX7_planned_38 : decode cX7_planned 38 = .ok (.aload_n 0, 1) := by decide +kernel
theorem dX7_planned_39 : decode cX7_planned 39 = .ok (.getfield 7, 3) := by decide +kernel
theorem dX7_planned_42 : decode cX7_planned 42 = .ok (.iconst 0, 1) := by decide +kernel
theorem dX7_planned_43 : decode cX7_planned 43 = .ok (.iload_n 1, 1) := by decide +kernel
theorem dX7_planned_44 : decode cX7_planned 44 = .ok (.invokestatic 87, 3) := by decide +kernel
theorem dX7_planned_47 : decode cX7_planned 47 = .ok (.iload_n 2, 1) := by decide +kernel
theorem dX7_planned_48 : decode cX7_planned 48 = .ok (.iadd, 1) := by decide +kernel
theorem dX7_planned_49 : decode cX7_planned 49 = .ok (.iaload, 1) := by decide +kernel
theorem dX7_planned_50 : decode cX7_planned 50 = .ok (.iload_n 2, 1) := by decide +kernel
theorem dX7_planned_51 : decode cX7_planned 51 = .ok (.iconst 2, 1) := by decide +kernel
theorem dX7_planned_52 : decode cX7_planned 52 = .ok (.if_icmp .ne 8, 3) := by decide +kernel
theorem dX7_planned_55 : decode cX7_planned 55 = .ok (.bipush 100, 2) := by decide +kernel
theorem dX7_planned_57 : decode cX7_planned 57 = .ok (.goto 4, 3) := by decide +kernel
theorem dX7_planned_60 : decode cX7_planned 60 = .ok (.iconst 0, 1) := by decide +kernel
theorem dX7_planned_61 : decode cX7_planned 61 = .ok (.iadd, 1) := by decide +kernel
theorem dX7_planned_62 : decode cX7_planned 62 = .ok (.ireturn, 1) := by decide +kernel
theorem dX7_napping_0 : decode cX7_napping 0 = .ok (.iconst 0, 1) := by decide +kernel
theorem dX7_napping_1 : decode cX7_napping 1 = .ok (.istore_n 1, 1) := by decide +kernel
theorem dX7_napping_2 : decode cX7_napping 2 = .ok (.iconst 0, 1) := by decide +kernel
theorem dX7_napping_3 : decode cX7_napping 3 = .ok (.istore_n 2, 1) := by decide +kernel
theorem dX7_napping_4 : decode cX7_napping 4 = .ok (.iload_n 2, 1) := by decide +kernel
theorem dX7_napping_5 : decode cX7_napping 5 = .ok (.aload_n 0, 1) := by decide +kernel
theorem dX7_napping_6 : decode cX7_napping 6 = .ok (.getfield 7, 3) := by decide +kernel
theorem dX7_napping_9 : decode cX7_napping 9 = .ok (.iconst 5, 1) := by decide +kernel
theorem dX7_napping_10 : decode cX7_napping 10 = .ok (.iaload, 1) := by decide +kernel
theorem dX7_napping_11 : decode cX7_napping 11 = .ok (.if_icmp .ge 28, 3) := by decide +kernel
theorem dX7_napping_14 : decode cX7_napping 14 = .ok (.iload_n 1, 1) := by decide +kernel
theorem dX7_napping_15 : decode cX7_napping 15 = .ok (.aload_n 0, 1) := by decide +kernel
theorem dX7_napping_16 : decode cX7_napping 16 = .ok (.iconst 0, 1) := by decide +kernel
theorem dX7_napping_17 : decode cX7_napping 17 = .ok (.iload_n 2, 1) := by decide +kernel
theorem dX7_napping_18 : decode cX7_napping 18 = .ok (.invokevirtual 64, 3) := by decide +kernel
theorem dX7_napping_21 : decode cX7_napping 21 = .ok (.ifCond .eq 9, 3) := by decide +kernel
theorem dX7_napping_24 : decode cX7_napping 24 = .ok (.iconst 1, 1) := by decide +kernel
theorem dX7_napping_25 : decode cX7_napping 25 = .ok (.iload_n 2, 1) := by decide +kernel
theorem dX7_napping_26 : decode cX7_napping 26 = .ok (.ishl, 1) := by decide +kernel
theorem dX7_napping_27 : decode cX7_napping 27 = .ok (.goto 4, 3) := by decide +kernel
theorem dX7_napping_30 : decode cX7_napping 30 = .ok (.iconst 0, 1) := by decide +kernel
theorem dX7_napping_31 : decode cX7_napping 31 = .ok (.ior, 1) := by decide +kernel
theorem dX7_napping_32 : decode cX7_napping 32 = .ok (.istore_n 1, 1) := by decide +kernel
theorem dX7_napping_33 : decode cX7_napping 33 = .ok (.iinc 2 1, 3) := by decide +kernel
theorem dX7_napping_36 : decode cX7_napping 36 = .ok (.goto (-32), 3) := by decide +kernel
theorem dX7_napping_39 : decode cX7_napping 39 = .ok (.iload_n 1, 1) := by decide +kernel
theorem dX7_napping_40 : decode cX7_napping 40 = .ok (.ireturn, 1) := by decide +kernel
theorem dX7_all_0 : decode cX7_all 0 = .ok (.iconst 0, 1) := by decide +kernel
theorem dX7_all_1 : decode cX7_all 1 = .ok (.istore_n 2, 1) := by decide +kernel
theorem dX7_all_2 : decode cX7_all 2 = .ok (.iconst 0, 1) := by decide +kernel
theorem dX7_all_3 : decode cX7_all 3 = .ok (.istore_n 3, 1) := by decide +kernel
theorem dX7_all_4 : decode cX7_all 4 = .ok (.iload_n 3, 1) := by decide +kernel
theorem dX7_all_5 : decode cX7_all 5 = .ok (.aload_n 0, 1) := by decide +kernel
theorem dX7_all_6 : decode cX7_all 6 = .ok (.getfield 7, 3) := by decide +kernel
theorem dX7_all_9 : decode cX7_all 9 = .ok (.iconst 5, 1) := by decide +kernel
theorem dX7_all_10 : decode cX7_all 10 = .ok (.iaload, 1) := by decide +kernel
theorem dX7_all_11 : decode cX7_all 11 = .ok (.if_icmp .ge 24, 3) := by decide +kernel
theorem dX7_all_14 : decode cX7_all 14 = .ok (.iload_n 2, 1) := by decide +kernel
theorem dX7_all_15 : decode cX7_all 15 = .ok (.aload_n 0, 1) := by decide +kernel
theorem dX7_all_16 : decode cX7_all 16 = .ok (.getfield 7, 3) := by decide +kernel
theorem dX7_all_19 : decode cX7_all 19 = .ok (.iconst 0, 1) := by decide +kernel
theorem dX7_all_20 : decode cX7_all 20 = .ok (.iload_n 3, 1) := by decide +kernel
theorem dX7_all_21 : decode cX7_all 21 = .ok (.invokestatic 28, 3) := by decide +kernel
theorem dX7_all_24 : decode cX7_all 24 = .ok (.iload_n 1, 1) := by decide +kernel
theorem dX7_all_25 : decode cX7_all 25 = .ok (.iadd, 1) := by decide +kernel
theorem dX7_all_26 : decode cX7_all 26 = .ok (.iaload, 1) := by decide +kernel
theorem dX7_all_27 : decode cX7_all 27 = .ok (.iadd, 1) := by decide +kernel
theorem dX7_all_28 : decode cX7_all 28 = .ok (.istore_n 2, 1) := by decide +kernel
theorem dX7_all_29 : decode cX7_all 29 = .ok (.iinc 3 1, 3) := by decide +kernel
theorem dX7_all_32 : decode cX7_all 32 = .ok (.goto (-28), 3) := by decide +kernel
theorem dX7_all_35 : decode cX7_all 35 = .ok (.iload_n 2, 1) := by decide +kernel
theorem dX7_all_36 : decode cX7_all 36 = .ok (.ireturn, 1) := by decide +kernel
theorem dX7_pairs_0 : decode cX7_pairs 0 = .ok (.iconst 0, 1) := by decide +kernel
theorem dX7_pairs_1 : decode cX7_pairs 1 = .ok (.istore_n 1, 1) := by decide +kernel
theorem dX7_pairs_2 : decode cX7_pairs 2 = .ok (.iconst 0, 1) := by decide +kernel
theorem dX7_pairs_3 : decode cX7_pairs 3 = .ok (.istore_n 2, 1) := by decide +kernel
theorem dX7_pairs_4 : decode cX7_pairs 4 = .ok (.iload_n 2, 1) := by decide +kernel
theorem dX7_pairs_5 : decode cX7_pairs 5 = .ok (.aload_n 0, 1) := by decide +kernel
theorem dX7_pairs_6 : decode cX7_pairs 6 = .ok (.getfield 7, 3) := by decide +kernel
theorem dX7_pairs_9 : decode cX7_pairs 9 = .ok (.iconst 5, 1) := by decide +kernel
theorem dX7_pairs_10 : decode cX7_pairs 10 = .ok (.iaload, 1) := by decide +kernel
theorem dX7_pairs_11 : decode cX7_pairs 11 = .ok (.if_icmp .ge 21, 3) := by decide +kernel
theorem dX7_pairs_14 : decode cX7_pairs 14 = .ok (.iload_n 1, 1) := by decide +kernel
theorem dX7_pairs_15 : decode cX7_pairs 15 = .ok (.aload_n 0, 1) := by decide +kernel
theorem dX7_pairs_16 : decode cX7_pairs 16 = .ok (.iconst 0, 1) := by decide +kernel
theorem dX7_pairs_17 : decode cX7_pairs 17 = .ok (.iload_n 2, 1) := by decide +kernel
theorem dX7_pairs_18 : decode cX7_pairs 18 = .ok (.invokevirtual 53, 3) := by decide +kernel
theorem dX7_pairs_21 : decode cX7_pairs 21 = .ok (.invokestatic 180, 3) := by decide +kernel
theorem dX7_pairs_24 : decode cX7_pairs 24 = .ok (.iadd, 1) := by decide +kernel
theorem dX7_pairs_25 : decode cX7_pairs 25 = .ok (.istore_n 1, 1) := by decide +kernel
theorem dX7_pairs_26 : decode cX7_pairs 26 = .ok (.iinc 2 1, 3) := by decide +kernel
theorem dX7_pairs_29 : decode cX7_pairs 29 = .ok (.goto (-25), 3) := by decide +kernel
theorem dX7_pairs_32 : decode cX7_pairs 32 = .ok (.iload_n 1, 1) := by decide +kernel
theorem dX7_pairs_33 : decode cX7_pairs 33 = .ok (.iconst 2, 1) := by decide +kernel
theorem dX7_pairs_34 : decode cX7_pairs 34 = .ok (.idiv, 1) := by decide +kernel
theorem dX7_pairs_35 : decode cX7_pairs 35 = .ok (.ireturn, 1) := by decide +kernel
theorem dX7_count_0 : decode cX7_count 0 = .ok (.iload_n 1, 1) := by decide +kernel
theorem dX7_count_1 : decode cX7_count 1 = .ok (.tableswitch 169 0 16 #[83, 90, 97, 102, 110, 110, 110, 120, 125, 133, 141, 149, 149, 149, 149, 159, 164], 83) := by decide +kernel
theorem dX7_count_84 : decode cX7_count 84 = .ok (.aload_n 0, 1) := by decide +kernel
theorem dX7_count_85 : decode cX7_count 85 = .ok (.getfield 7, 3) := by decide +kernel
theorem dX7_count_88 : decode cX7_count 88 = .ok (.iconst 4, 1) := by decide +kernel
theorem dX7_count_89 : decode cX7_count 89 = .ok (.iaload, 1) := by decide +kernel
theorem dX7_count_90 : decode cX7_count 90 = .ok (.ireturn, 1) := by decide +kernel
theorem dX7_count_91 : decode cX7_count 91 = .ok (.aload_n 0, 1) := by decide +kernel
theorem dX7_count_92 : decode cX7_count 92 = .ok (.getfield 7, 3) := by decide +kernel
theorem dX7_count_95 : decode cX7_count 95 = .ok (.iconst 5, 1) := by decide +kernel
theorem dX7_count_96 : decode cX7_count 96 = .ok (.iaload, 1) := by decide +kernel
theorem dX7_count_97 : decode cX7_count 97 = .ok (.ireturn, 1) := by decide +kernel
theorem dX7_count_98 : decode cX7_count 98 = .ok (.aload_n 0, 1) := by decide +kernel
theorem dX7_count_99 : decode cX7_count 99 = .ok (.invokevirtual 183, 3) := by decide +kernel
theorem dX7_count_102 : decode cX7_count 102 = .ok (.ireturn, 1) := by decide +kernel
theorem dX7_count_103 : decode cX7_count 103 = .ok (.aload_n 0, 1) := by decide +kernel
theorem dX7_count_104 : decode cX7_count 104 = .ok (.getfield 7, 3) := by decide +kernel
theorem dX7_count_107 : decode cX7_count 107 = .ok (.bipush 8, 2) := by decide +kernel
theorem dX7_count_109 : decode cX7_count 109 = .ok (.iaload, 1) := by decide +kernel
theorem dX7_count_110 : decode cX7_count 110 = .ok (.ireturn, 1) := by decide +kernel
theorem dX7_count_111 : decode cX7_count 111 = .ok (.aload_n 0, 1) := by decide +kernel
theorem dX7_count_112 : decode cX7_count 112 = .ok (.iconst 4, 1) := by decide +kernel
theorem dX7_count_113 : decode cX7_count 113 = .ok (.iload_n 1, 1) := by decide +kernel
theorem dX7_count_114 : decode cX7_count 114 = .ok (.iadd, 1) := by decide +kernel
theorem dX7_count_115 : decode cX7_count 115 = .ok (.iconst 4, 1) := by decide +kernel
theorem dX7_count_116 : decode cX7_count 116 = .ok (.isub, 1) := by decide +kernel
theorem dX7_count_117 : decode cX7_count 117 = .ok (.invokevirtual 187, 3) := by decide +kernel
theorem dX7_count_120 : decode cX7_count 120 = .ok (.ireturn, 1) := by decide +kernel
theorem dX7_count_121 : decode cX7_count 121 = .ok (.aload_n 0, 1) := by decide +kernel
theorem dX7_count_122 : decode cX7_count 122 = .ok (.invokevirtual 190, 3) := by decide +kernel
theorem dX7_count_125 : decode cX7_count 125 = .ok (.ireturn, 1) := by decide +kernel
theorem dX7_count_126 : decode cX7_count 126 = .ok (.aload_n 0, 1) := by decide +kernel
theorem dX7_count_127 : decode cX7_count 127 = .ok (.getfield 7, 3) := by decide +kernel
theorem dX7_count_130 : decode cX7_count 130 = .ok (.bipush 6, 2) := by decide +kernel
theorem dX7_count_132 : decode cX7_count 132 = .ok (.iaload, 1) := by decide +kernel
theorem dX7_count_133 : decode cX7_count 133 = .ok (.ireturn, 1) := by decide +kernel
theorem dX7_count_134 : decode cX7_count 134 = .ok (.aload_n 0, 1) := by decide +kernel
theorem dX7_count_135 : decode cX7_count 135 = .ok (.getfield 7, 3) := by decide +kernel
theorem dX7_count_138 : decode cX7_count 138 = .ok (.bipush 7, 2) := by decide +kernel
theorem dX7_count_140 : decode cX7_count 140 = .ok (.iaload, 1) := by decide +kernel
theorem dX7_count_141 : decode cX7_count 141 = .ok (.ireturn, 1) := by decide +kernel
theorem dX7_count_142 : decode cX7_count 142 = .ok (.aload_n 0, 1) := by decide +kernel
theorem dX7_count_143 : decode cX7_count 143 = .ok (.getfield 7, 3) := by decide +kernel
theorem dX7_count_146 : decode cX7_count 146 = .ok (.bipush 9, 2) := by decide +kernel
theorem dX7_count_148 : decode cX7_count 148 = .ok (.iaload, 1) := by decide +kernel
theorem dX7_count_149 : decode cX7_count 149 = .ok (.ireturn, 1) := by decide +kernel
theorem dX7_count_150 : decode cX7_count 150 = .ok (.aload_n 0, 1) := by decide +kernel
theorem dX7_count_151 : decode cX7_count 151 = .ok (.getfield 7, 3) := by decide +kernel
theorem dX7_count_154 : decode cX7_count 154 = .ok (.iload_n 1, 1) := by decide +kernel
theorem dX7_count_155 : decode cX7_count 155 = .ok (.bipush 11, 2) := by decide +kernel
theorem dX7_count_157 : decode cX7_count 157 = .ok (.isub, 1) := by decide +kernel
theorem dX7_count_158 : decode cX7_count 158 = .ok (.iaload, 1) := by decide +kernel
theorem dX7_count_159 : decode cX7_count 159 = .ok (.ireturn, 1) := by decide +kernel
theorem dX7_count_160 : decode cX7_count 160 = .ok (.aload_n 0, 1) := by decide +kernel
theorem dX7_count_161 : decode cX7_count 161 = .ok (.getfield 193, 3) := by decide +kernel
theorem dX7_count_164 : decode cX7_count 164 = .ok (.ireturn, 1) := by decide +kernel
theorem dX7_count_165 : decode cX7_count 165 = .ok (.aload_n 0, 1) := by decide +kernel
theorem dX7_count_166 : decode cX7_count 166 = .ok (.getfield 20, 3) := by decide +kernel
theorem dX7_count_169 : decode cX7_count 169 = .ok (.ireturn, 1) := by decide +kernel
theorem dX7_count_170 : decode cX7_count 170 = .ok (.bipush (-2), 2) := by decide +kernel
theorem dX7_count_172 : decode cX7_count 172 = .ok (.ireturn, 1) := by decide +kernel
theorem dX7_why_0 : decode cX7_why 0 = .ok (.aload_n 0, 1) := by decide +kernel
theorem dX7_why_1 : decode cX7_why 1 = .ok (.iload_n 1, 1) := by decide +kernel
theorem dX7_why_2 : decode cX7_why 2 = .ok (.invokevirtual 103, 3) := by decide +kernel
theorem dX7_why_5 : decode cX7_why 5 = .ok (.ifCond .ne 7, 3) := by decide +kernel
theorem dX7_why_8 : decode cX7_why 8 = .ok (.iconst (-1), 1) := by decide +kernel
theorem dX7_why_9 : decode cX7_why 9 = .ok (.goto 22, 3) := by decide +kernel
theorem dX7_why_12 : decode cX7_why 12 = .ok (.iload_n 2, 1) := by decide +kernel
theorem dX7_why_13 : decode cX7_why 13 = .ok (.invokestatic 107, 3) := by decide +kernel
theorem dX7_why_16 : decode cX7_why 16 = .ok (.ifCond .ne 8, 3) := by decide +kernel
theorem dX7_why_19 : decode cX7_why 19 = .ok (.bipush (-2), 2) := by decide +kernel
theorem dX7_why_21 : decode cX7_why 21 = .ok (.goto 10, 3) := by decide +kernel
theorem dX7_why_24 : decode cX7_why 24 = .ok (.aload_n 0, 1) := by decide +kernel
theorem dX7_why_25 : decode cX7_why 25 = .ok (.iconst 0, 1) := by decide +kernel
theorem dX7_why_26 : decode cX7_why 26 = .ok (.iload_n 1, 1) := by decide +kernel
theorem dX7_why_27 : decode cX7_why 27 = .ok (.iload_n 2, 1) := by decide +kernel
theorem dX7_why_28 : decode cX7_why 28 = .ok (.invokevirtual 90, 3) := by decide +kernel
theorem dX7_why_31 : decode cX7_why 31 = .ok (.ireturn, 1) := by decide +kernel
theorem dX7_ifLeapt_0 : decode cX7_ifLeapt 0 = .ok (.aload_n 0, 1) := by decide +kernel
theorem dX7_ifLeapt_1 : decode cX7_ifLeapt 1 = .ok (.iload_n 1, 1) := by decide +kernel
theorem dX7_ifLeapt_2 : decode cX7_ifLeapt 2 = .ok (.invokevirtual 103, 3) := by decide +kernel
theorem dX7_ifLeapt_5 : decode cX7_ifLeapt 5 = .ok (.ifCond .ne 5, 3) := by decide +kernel
theorem dX7_ifLeapt_8 : decode cX7_ifLeapt 8 = .ok (.iconst (-1), 1) := by decide +kernel
theorem dX7_ifLeapt_9 : decode cX7_ifLeapt 9 = .ok (.ireturn, 1) := by decide +kernel
theorem dX7_ifLeapt_10 : decode cX7_ifLeapt 10 = .ok (.iload_n 2, 1) := by decide +kernel
theorem dX7_ifLeapt_11 : decode cX7_ifLeapt 11 = .ok (.invokestatic 107, 3) := by decide +kernel
theorem dX7_ifLeapt_14 : decode cX7_ifLeapt 14 = .ok (.ifCond .eq 15, 3) := by decide +kernel
theorem dX7_ifLeapt_17 : decode cX7_ifLeapt 17 = .ok (.iload_n 3, 1) := by decide +kernel
theorem dX7_ifLeapt_18 : decode cX7_ifLeapt 18 = .ok (.i2l, 1) := by decide +kernel
theorem dX7_ifLeapt_19 : decode cX7_ifLeapt 19 = .ok (.lconst 0, 1) := by decide +kernel
theorem dX7_ifLeapt_20 : decode cX7_ifLeapt 20 = .ok (.ldc2_w 196, 3) := by decide +kernel
theorem dX7_ifLeapt_23 : decode cX7_ifLeapt 23 = .ok (.invokestatic 70, 3) := by decide +kernel
theorem dX7_ifLeapt_26 : decode cX7_ifLeapt 26 = .ok (.ifCond .ne 6, 3) := by decide +kernel
theorem dX7_ifLeapt_29 : decode cX7_ifLeapt 29 = .ok (.bipush (-2), 2) := by decide +kernel
theorem dX7_ifLeapt_31 : decode cX7_ifLeapt 31 = .ok (.ireturn, 1) := by decide +kernel
theorem dX7_ifLeapt_32 : decode cX7_ifLeapt 32 = .ok (.aload_n 0, 1) := by decide +kernel
theorem dX7_ifLeapt_33 : decode cX7_ifLeapt 33 = .ok (.iconst 0, 1) := by decide +kernel
theorem dX7_ifLeapt_34 : decode cX7_ifLeapt 34 = .ok (.iload_n 1, 1) := by decide +kernel
theorem dX7_ifLeapt_35 : decode cX7_ifLeapt 35 = .ok (.iload_n 2, 1) := by decide +kernel
theorem dX7_ifLeapt_36 : decode cX7_ifLeapt 36 = .ok (.invokevirtual 90, 3) := by decide +kernel
theorem dX7_ifLeapt_39 : decode cX7_ifLeapt 39 = .ok (.ifCond .eq 6, 3) := by decide +kernel
theorem dX7_ifLeapt_42 : decode cX7_ifLeapt 42 = .ok (.bipush (-5), 2) := by decide +kernel
theorem dX7_ifLeapt_44 : decode cX7_ifLeapt 44 = .ok (.ireturn, 1) := by decide +kernel
theorem dX7_ifLeapt_45 : decode cX7_ifLeapt 45 = .ok (.aload_n 0, 1) := by decide +kernel
theorem dX7_ifLeapt_46 : decode cX7_ifLeapt 46 = .ok (.iconst 0, 1) := by decide +kernel
theorem dX7_ifLeapt_47 : decode cX7_ifLeapt 47 = .ok (.bipush 9, 2) := by decide +kernel
theorem dX7_ifLeapt_49 : decode cX7_ifLeapt 49 = .ok (.invokevirtual 24, 3) := by decide +kernel
theorem dX7_ifLeapt_52 : decode cX7_ifLeapt 52 = .ok (.sipush 3060, 3) := by decide +kernel
theorem dX7_ifLeapt_55 : decode cX7_ifLeapt 55 = .ok (.istore 4, 2) := by decide +kernel
theorem dX7_ifLeapt_57 : decode cX7_ifLeapt 57 = .ok (.aload_n 0, 1) := by decide +kernel
theorem dX7_ifLeapt_58 : decode cX7_ifLeapt 58 = .ok (.iload 4, 2) := by decide +kernel
theorem dX7_ifLeapt_60 : decode cX7_ifLeapt 60 = .ok (.iload_n 1, 1) := by decide +kernel
theorem dX7_ifLeapt_61 : decode cX7_ifLeapt 61 = .ok (.iload_n 2, 1) := by decide +kernel
theorem dX7_ifLeapt_62 : decode cX7_ifLeapt 62 = .ok (.invokevirtual 93, 3) := by decide +kernel
theorem dX7_ifLeapt_65 : decode cX7_ifLeapt 65 = .ok (.istore 5, 2) := by decide +kernel
theorem dX7_ifLeapt_67 : decode cX7_ifLeapt 67 = .ok (.aload_n 0, 1) := by decide +kernel
theorem dX7_ifLeapt_68 : decode cX7_ifLeapt 68 = .ok (.iconst 0, 1) := by decide +kernel
theorem dX7_ifLeapt_69 : decode cX7_ifLeapt 69 = .ok (.iload_n 1, 1) := by decide +kernel
theorem dX7_ifLeapt_70 : decode cX7_ifLeapt 70 = .ok (.invokevirtual 53, 3) := by decide +kernel
theorem dX7_ifLeapt_73 : decode cX7_ifLeapt 73 = .ok (.istore 6, 2) := by decide +kernel
theorem dX7_ifLeapt_75 : decode cX7_ifLeapt 75 = .ok (.aload_n 0, 1) := by decide +kernel
theorem dX7_ifLeapt_76 : decode cX7_ifLeapt 76 = .ok (.iload 4, 2) := by decide +kernel
theorem dX7_ifLeapt_78 : decode cX7_ifLeapt 78 = .ok (.iload_n 1, 1) := by decide +kernel
theorem dX7_ifLeapt_79 : decode cX7_ifLeapt 79 = .ok (.invokevirtual 53, 3) := by decide +kernel
theorem dX7_ifLeapt_82 : decode cX7_ifLeapt 82 = .ok (.istore 7, 2) := by decide +kernel
theorem dX7_ifLeapt_84 : decode cX7_ifLeapt 84 = .ok (.iconst 0, 1) := by decide +kernel
theorem dX7_ifLeapt_85 : decode cX7_ifLeapt 85 = .ok (.iload_n 1, 1) := by decide +kernel
theorem dX7_ifLeapt_86 : decode cX7_ifLeapt 86 = .ok (.invokestatic 28, 3) := by decide +kernel
theorem dX7_ifLeapt_89 : decode cX7_ifLeapt 89 = .ok (.istore 8, 2) := by decide +kernel
theorem dX7_ifLeapt_91 : decode cX7_ifLeapt 91 = .ok (.iload_n 3, 1) := by decide +kernel
theorem dX7_ifLeapt_92 : decode cX7_ifLeapt 92 = .ok (.ifCond .ne 28, 3) := by decide +kernel
theorem dX7_ifLeapt_95 : decode cX7_ifLeapt 95 = .ok (.aload_n 0, 1) := by decide +kernel
theorem dX7_ifLeapt_96 : decode cX7_ifLeapt 96 = .ok (.getfield 7, 3) := by decide +kernel
theorem dX7_ifLeapt_99 : decode cX7_ifLeapt 99 = .ok (.iload 4, 2) := by decide +kernel
theorem dX7_ifLeapt_101 : decode cX7_ifLeapt 101 = .ok (.iload 8, 2) := by decide +kernel
theorem dX7_ifLeapt_103 : decode cX7_ifLeapt 103 = .ok (.iadd, 1) := by decide +kernel
theorem dX7_ifLeapt_104 : decode cX7_ifLeapt 104 = .ok (.iconst 4, 1) := by decide +kernel
theorem dX7_ifLeapt_105 : decode cX7_ifLeapt 105 = .ok (.iadd, 1) := by decide +kernel
theorem dX7_ifLeapt_106 : decode cX7_ifLeapt 106 = .ok (.iaload, 1) := by decide +kernel
theorem dX7_ifLeapt_107 : decode cX7_ifLeapt 107 = .ok (.aload_n 0, 1) := by decide +kernel
theorem dX7_ifLeapt_108 : decode cX7_ifLeapt 108 = .ok (.getfield 7, 3) := by decide +kernel
theorem dX7_ifLeapt_111 : decode cX7_ifLeapt 111 = .ok (.iload 8, 2) := by decide +kernel
theorem dX7_ifLeapt_113 : decode cX7_ifLeapt 113 = .ok (.iconst 4, 1) := by decide +kernel
theorem dX7_ifLeapt_114 : decode cX7_ifLeapt 114 = .ok (.iadd, 1) := by decide +kernel
theorem dX7_ifLeapt_115 : decode cX7_ifLeapt 115 = .ok (.iaload, 1) := by decide +kernel
theorem dX7_ifLeapt_116 : decode cX7_ifLeapt 116 = .ok (.isub, 1) := by decide +kernel
theorem dX7_ifLeapt_117 : decode cX7_ifLeapt 117 = .ok (.goto 55, 3) := by decide +kernel
theorem dX7_ifLeapt_120 : decode cX7_ifLeapt 120 = .ok (.iload_n 3, 1) := by decide +kernel
theorem dX7_ifLeapt_121 : decode cX7_ifLeapt 121 = .ok (.iconst 1, 1) := by decide +kernel
theorem dX7_ifLeapt_122 : decode cX7_ifLeapt 122 = .ok (.if_icmp .ne 28, 3) := by decide +kernel
theorem dX7_ifLeapt_125 : decode cX7_ifLeapt 125 = .ok (.aload_n 0, 1) := by decide +kernel
theorem dX7_ifLeapt_126 : decode cX7_ifLeapt 126 = .ok (.getfield 7, 3) := by decide +kernel
theorem dX7_ifLeapt_129 : decode cX7_ifLeapt 129 = .ok (.iload 4, 2) := by decide +kernel
theorem dX7_ifLeapt_131 : decode cX7_ifLeapt 131 = .ok (.iload 8, 2) := by decide +kernel
theorem dX7_ifLeapt_133 : decode cX7_ifLeapt 133 = .ok (.iadd, 1) := by decide +kernel
theorem dX7_ifLeapt_134 : decode cX7_ifLeapt 134 = .ok (.iconst 5, 1) := by decide +kernel
theorem dX7_ifLeapt_135 : decode cX7_ifLeapt 135 = .ok (.iadd, 1) := by decide +kernel
theorem dX7_ifLeapt_136 : decode cX7_ifLeapt 136 = .ok (.iaload, 1) := by decide +kernel
theorem dX7_ifLeapt_137 : decode cX7_ifLeapt 137 = .ok (.aload_n 0, 1) := by decide +kernel
theorem dX7_ifLeapt_138 : decode cX7_ifLeapt 138 = .ok (.getfield 7, 3) := by decide +kernel
theorem dX7_ifLeapt_141 : decode cX7_ifLeapt 141 = .ok (.iload 8, 2) := by decide +kernel
theorem dX7_ifLeapt_143 : decode cX7_ifLeapt 143 = .ok (.iconst 5, 1) := by decide +kernel
theorem dX7_ifLeapt_144 : decode cX7_ifLeapt 144 = .ok (.iadd, 1) := by decide +kernel
theorem dX7_ifLeapt_145 : decode cX7_ifLeapt 145 = .ok (.iaload, 1) := by decide +kernel
theorem dX7_ifLeapt_146 : decode cX7_ifLeapt 146 = .ok (.isub, 1) := by decide +kernel
theorem dX7_ifLeapt_147 : decode cX7_ifLeapt 147 = .ok (.goto 25, 3) := by decide +kernel
theorem dX7_ifLeapt_150 : decode cX7_ifLeapt 150 = .ok (.iload_n 3, 1) := by decide +kernel
theorem dX7_ifLeapt_151 : decode cX7_ifLeapt 151 = .ok (.iconst 2, 1) := by decide +kernel
theorem dX7_ifLeapt_152 : decode cX7_ifLeapt 152 = .ok (.if_icmp .ne 13, 3) := by decide +kernel
theorem dX7_ifLeapt_155 : decode cX7_ifLeapt 155 = .ok (.iload 7, 2) := by decide +kernel
theorem dX7_ifLeapt_157 : decode cX7_ifLeapt 157 = .ok (.iload 6, 2) := by decide +kernel
theorem dX7_ifLeapt_159 : decode cX7_ifLeapt 159 = .ok (.iconst (-1), 1) := by decide +kernel
theorem dX7_ifLeapt_160 : decode cX7_ifLeapt 160 = .ok (.ixor, 1) := by decide +kernel
theorem dX7_ifLeapt_161 : decode cX7_ifLeapt 161 = .ok (.iand, 1) := by decide +kernel
theorem dX7_ifLeapt_162 : decode cX7_ifLeapt 162 = .ok (.goto 10, 3) := by decide +kernel
theorem dX7_ifLeapt_165 : decode cX7_ifLeapt 165 = .ok (.iload 6, 2) := by decide +kernel
theorem dX7_ifLeapt_167 : decode cX7_ifLeapt 167 = .ok (.iload 7, 2) := by decide +kernel
theorem dX7_ifLeapt_169 : decode cX7_ifLeapt 169 = .ok (.iconst (-1), 1) := by decide +kernel
theorem dX7_ifLeapt_170 : decode cX7_ifLeapt 170 = .ok (.ixor, 1) := by decide +kernel
theorem dX7_ifLeapt_171 : decode cX7_ifLeapt 171 = .ok (.iand, 1) := by decide +kernel
theorem dX7_ifLeapt_172 : decode cX7_ifLeapt 172 = .ok (.ireturn, 1) := by decide +kernel
theorem dX7_sorting_0 : decode cX7_sorting 0 = .ok (.aload_n 0, 1) := by decide +kernel
theorem dX7_sorting_1 : decode cX7_sorting 1 = .ok (.iload_n 1, 1) := by decide +kernel
theorem dX7_sorting_2 : decode cX7_sorting 2 = .ok (.iload_n 2, 1) := by decide +kernel
theorem dX7_sorting_3 : decode cX7_sorting 3 = .ok (.invokevirtual 113, 3) := by decide +kernel
theorem dX7_sorting_6 : decode cX7_sorting 6 = .ok (.istore 4, 2) := by decide +kernel
theorem dX7_sorting_8 : decode cX7_sorting 8 = .ok (.iload 4, 2) := by decide +kernel
theorem dX7_sorting_10 : decode cX7_sorting 10 = .ok (.istore 5, 2) := by decide +kernel
theorem dX7_sorting_12 : decode cX7_sorting 12 = .ok (.iconst 0, 1) := by decide +kernel
theorem dX7_sorting_13 : decode cX7_sorting 13 = .ok (.istore 6, 2) := by decide +kernel
theorem dX7_sorting_15 : decode cX7_sorting 15 = .ok (.iload 6, 2) := by decide +kernel
theorem dX7_sorting_17 : decode cX7_sorting 17 = .ok (.aload_n 0, 1) := by decide +kernel
theorem dX7_sorting_18 : decode cX7_sorting 18 = .ok (.getfield 7, 3) := by decide +kernel
theorem dX7_sorting_21 : decode cX7_sorting 21 = .ok (.bipush 8, 2) := by decide +kernel
theorem dX7_sorting_23 : decode cX7_sorting 23 = .ok (.iaload, 1) := by decide +kernel
theorem dX7_sorting_24 : decode cX7_sorting 24 = .ok (.if_icmp .ge 61, 3) := by decide +kernel
theorem dX7_sorting_27 : decode cX7_sorting 27 = .ok (.aload_n 0, 1) := by decide +kernel
theorem dX7_sorting_28 : decode cX7_sorting 28 = .ok (.iconst 0, 1) := by decide +kernel
theorem dX7_sorting_29 : decode cX7_sorting 29 = .ok (.iload 6, 2) := by decide +kernel
theorem dX7_sorting_31 : decode cX7_sorting 31 = .ok (.iload_n 1, 1) := by decide +kernel
theorem dX7_sorting_32 : decode cX7_sorting 32 = .ok (.invokevirtual 32, 3) := by decide +kernel
theorem dX7_sorting_35 : decode cX7_sorting 35 = .ok (.istore 7, 2) := by decide +kernel
theorem dX7_sorting_37 : decode cX7_sorting 37 = .ok (.iload 4, 2) := by decide +kernel
theorem dX7_sorting_39 : decode cX7_sorting 39 = .ok (.iload 7, 2) := by decide +kernel
theorem dX7_sorting_41 : decode cX7_sorting 41 = .ok (.iload_n 2, 1) := by decide +kernel
theorem dX7_sorting_42 : decode cX7_sorting 42 = .ok (.if_icmp .ne 7, 3) := by decide +kernel
theorem dX7_sorting_45 : decode cX7_sorting 45 = .ok (.iconst (-1), 1) := by decide +kernel
theorem dX7_sorting_46 : decode cX7_sorting 46 = .ok (.goto 14, 3) := by decide +kernel
theorem dX7_sorting_49 : decode cX7_sorting 49 = .ok (.iload 7, 2) := by decide +kernel
theorem dX7_sorting_51 : decode cX7_sorting 51 = .ok (.iload_n 3, 1) := by decide +kernel
theorem dX7_sorting_52 : decode cX7_sorting 52 = .ok (.if_icmp .ne 7, 3) := by decide +kernel
theorem dX7_sorting_55 : decode cX7_sorting 55 = .ok (.iconst 1, 1) := by decide +kernel
theorem dX7_sorting_56 : decode cX7_sorting 56 = .ok (.goto 4, 3) := by decide +kernel
theorem dX7_sorting_59 : decode cX7_sorting 59 = .ok (.iconst 0, 1) := by decide +kernel
theorem dX7_sorting_60 : decode cX7_sorting 60 = .ok (.iadd, 1) := by decide +kernel
theorem dX7_sorting_61 : decode cX7_sorting 61 = .ok (.istore 4, 2) := by decide +kernel
theorem dX7_sorting_63 : decode cX7_sorting 63 = .ok (.iload 4, 2) := by decide +kernel
theorem dX7_sorting_65 : decode cX7_sorting 65 = .ok (.iload 5, 2) := by decide +kernel
theorem dX7_sorting_67 : decode cX7_sorting 67 = .ok (.if_icmp .ge 8, 3) := by decide +kernel
theorem dX7_sorting_70 : decode cX7_sorting 70 = .ok (.iload 4, 2) := by decide +kernel
theorem dX7_sorting_72 : decode cX7_sorting 72 = .ok (.goto 5, 3) := by decide +kernel
theorem dX7_sorting_75 : decode cX7_sorting 75 = .ok (.iload 5, 2) := by decide +kernel
theorem dX7_sorting_77 : decode cX7_sorting 77 = .ok (.istore 5, 2) := by decide +kernel
theorem dX7_sorting_79 : decode cX7_sorting 79 = .ok (.iinc 6 1, 3) := by decide +kernel
theorem dX7_sorting_82 : decode cX7_sorting 82 = .ok (.goto (-67), 3) := by decide +kernel
theorem dX7_sorting_85 : decode cX7_sorting 85 = .ok (.iload 5, 2) := by decide +kernel
theorem dX7_sorting_87 : decode cX7_sorting 87 = .ok (.ireturn, 1) := by decide +kernel
theorem dX7_frees_0 : decode cX7_frees 0 = .ok (.aload_n 0, 1) := by decide +kernel
theorem dX7_frees_1 : decode cX7_frees 1 = .ok (.iload_n 1, 1) := by decide +kernel
theorem dX7_frees_2 : decode cX7_frees 2 = .ok (.invokevirtual 103, 3) := by decide +kernel
theorem dX7_frees_5 : decode cX7_frees 5 = .ok (.ifCond .eq 11, 3) := by decide +kernel
theorem dX7_frees_8 : decode cX7_frees 8 = .ok (.aload_n 0, 1) := by decide +kernel
theorem dX7_frees_9 : decode cX7_frees 9 = .ok (.iload_n 2, 1) := by decide +kernel
theorem dX7_frees_10 : decode cX7_frees 10 = .ok (.invokevirtual 103, 3) := by decide +kernel
theorem dX7_frees_13 : decode cX7_frees 13 = .ok (.ifCond .ne 5, 3) := by decide +kernel
theorem dX7_frees_16 : decode cX7_frees 16 = .ok (.iconst (-1), 1) := by decide +kernel
theorem dX7_frees_17 : decode cX7_frees 17 = .ok (.ireturn, 1) := by decide +kernel
theorem dX7_frees_18 : decode cX7_frees 18 = .ok (.iload_n 1, 1) := by decide +kernel
theorem dX7_frees_19 : decode cX7_frees 19 = .ok (.iload_n 2, 1) := by decide +kernel
theorem dX7_frees_20 : decode cX7_frees 20 = .ok (.if_icmp .ne 6, 3) := by decide +kernel
theorem dX7_frees_23 : decode cX7_frees 23 = .ok (.bipush (-2), 2) := by decide +kernel
theorem dX7_frees_25 : decode cX7_frees 25 = .ok (.ireturn, 1) := by decide +kernel
theorem dX7_frees_26 : decode cX7_frees 26 = .ok (.iconst 0, 1) := by decide +kernel
theorem dX7_frees_27 : decode cX7_frees 27 = .ok (.istore_n 3, 1) := by decide +kernel
theorem dX7_frees_28 : decode cX7_frees 28 = .ok (.iconst 0, 1) := by decide +kernel
theorem dX7_frees_29 : decode cX7_frees 29 = .ok (.istore 4, 2) := by decide +kernel
theorem dX7_frees_31 : decode cX7_frees 31 = .ok (.iload 4, 2) := by decide +kernel
theorem dX7_frees_33 : decode cX7_frees 33 = .ok (.bipush 15, 2) := by decide +kernel
theorem dX7_frees_35 : decode cX7_frees 35 = .ok (.if_icmp .ge 46, 3) := by decide +kernel
theorem dX7_frees_38 : decode cX7_frees 38 = .ok (.aload_n 0, 1) := by decide +kernel
theorem dX7_frees_39 : decode cX7_frees 39 = .ok (.iload 4, 2) := by decide +kernel
theorem dX7_frees_41 : decode cX7_frees 41 = .ok (.iload_n 1, 1) := by decide +kernel
theorem dX7_frees_42 : decode cX7_frees 42 = .ok (.iload_n 2, 1) := by decide +kernel
theorem dX7_frees_43 : decode cX7_frees 43 = .ok (.invokevirtual 198, 3) := by decide +kernel
theorem dX7_frees_46 : decode cX7_frees 46 = .ok (.istore 5, 2) := by decide +kernel
theorem dX7_frees_48 : decode cX7_frees 48 = .ok (.aload_n 0, 1) := by decide +kernel
theorem dX7_frees_49 : decode cX7_frees 49 = .ok (.iload 4, 2) := by decide +kernel
theorem dX7_frees_51 : decode cX7_frees 51 = .ok (.iload_n 2, 1) := by decide +kernel
theorem dX7_frees_52 : decode cX7_frees 52 = .ok (.iload_n 1, 1) := by decide +kernel
theorem dX7_frees_53 : decode cX7_frees 53 = .ok (.invokevirtual 198, 3) := by decide +kernel
theorem dX7_frees_56 : decode cX7_frees 56 = .ok (.istore 6, 2) := by decide +kernel
theorem dX7_frees_58 : decode cX7_frees 58 = .ok (.iload_n 3, 1) := by decide +kernel
theorem dX7_frees_59 : decode cX7_frees 59 = .ok (.iload 5, 2) := by decide +kernel
theorem dX7_frees_61 : decode cX7_frees 61 = .ok (.iload 6, 2) := by decide +kernel
theorem dX7_frees_63 : decode cX7_frees 63 = .ok (.if_icmp .ge 8, 3) := by decide +kernel
theorem dX7_frees_66 : decode cX7_frees 66 = .ok (.iload 5, 2) := by decide +kernel
theorem dX7_frees_68 : decode cX7_frees 68 = .ok (.goto 5, 3) := by decide +kernel
theorem dX7_frees_71 : decode cX7_frees 71 = .ok (.iload 6, 2) := by decide +kernel
theorem dX7_frees_73 : decode cX7_frees 73 = .ok (.iadd, 1) := by decide +kernel
theorem dX7_frees_74 : decode cX7_frees 74 = .ok (.istore_n 3, 1) := by decide +kernel
theorem dX7_frees_75 : decode cX7_frees 75 = .ok (.iinc 4 1, 3) := by decide +kernel
theorem dX7_frees_78 : decode cX7_frees 78 = .ok (.goto (-47), 3) := by decide +kernel
theorem dX7_frees_81 : decode cX7_frees 81 = .ok (.iload_n 3, 1) := by decide +kernel
theorem dX7_frees_82 : decode cX7_frees 82 = .ok (.ireturn, 1) := by decide +kernel
theorem dX7_quietIn_0 : decode cX7_quietIn 0 = .ok (.aload_n 0, 1) := by decide +kernel
theorem dX7_quietIn_1 : decode cX7_quietIn 1 = .ok (.getfield 7, 3) := by decide +kernel
theorem dX7_quietIn_4 : decode cX7_quietIn 4 = .ok (.iconst 4, 1) := by decide +kernel
theorem dX7_quietIn_5 : decode cX7_quietIn 5 = .ok (.iaload, 1) := by decide +kernel
theorem dX7_quietIn_6 : decode cX7_quietIn 6 = .ok (.istore_n 1, 1) := by decide +kernel
theorem dX7_quietIn_7 : decode cX7_quietIn 7 = .ok (.iconst 0, 1) := by decide +kernel
theorem dX7_quietIn_8 : decode cX7_quietIn 8 = .ok (.istore_n 2, 1) := by decide +kernel
theorem dX7_quietIn_9 : decode cX7_quietIn 9 = .ok (.iload_n 2, 1) := by decide +kernel
theorem dX7_quietIn_10 : decode cX7_quietIn 10 = .ok (.aload_n 0, 1) := by decide +kernel
theorem dX7_quietIn_11 : decode cX7_quietIn 11 = .ok (.getfield 7, 3) := by decide +kernel
theorem dX7_quietIn_14 : decode cX7_quietIn 14 = .ok (.iconst 5, 1) := by decide +kernel
theorem dX7_quietIn_15 : decode cX7_quietIn 15 = .ok (.iaload, 1) := by decide +kernel
theorem dX7_quietIn_16 : decode cX7_quietIn 16 = .ok (.if_icmp .ge 51, 3) := by decide +kernel
theorem dX7_quietIn_19 : decode cX7_quietIn 19 = .ok (.aload_n 0, 1) := by decide +kernel
theorem dX7_quietIn_20 : decode cX7_quietIn 20 = .ok (.iconst 0, 1) := by decide +kernel
theorem dX7_quietIn_21 : decode cX7_quietIn 21 = .ok (.iload_n 2, 1) := by decide +kernel
theorem dX7_quietIn_22 : decode cX7_quietIn 22 = .ok (.invokevirtual 64, 3) := by decide +kernel
theorem dX7_quietIn_25 : decode cX7_quietIn 25 = .ok (.ifCond .eq 34, 3) := by decide +kernel
theorem dX7_quietIn_28 : decode cX7_quietIn 28 = .ok (.aload_n 0, 1) := by decide +kernel
theorem dX7_quietIn_29 : decode cX7_quietIn 29 = .ok (.getfield 7, 3) := by decide +kernel
theorem dX7_quietIn_32 : decode cX7_quietIn 32 = .ok (.iconst 0, 1) := by decide +kernel
theorem dX7_quietIn_33 : decode cX7_quietIn 33 = .ok (.iload_n 2, 1) := by decide +kernel
theorem dX7_quietIn_34 : decode cX7_quietIn 34 = .ok (.invokestatic 28, 3) := by decide +kernel
theorem dX7_quietIn_37 : decode cX7_quietIn 37 = .ok (.iconst 2, 1) := by decide +kernel
theorem dX7_quietIn_38 : decode cX7_quietIn 38 = .ok (.iadd, 1) := by decide +kernel
theorem dX7_quietIn_39 : decode cX7_quietIn 39 = .ok (.iaload, 1) := by decide +kernel
theorem dX7_quietIn_40 : decode cX7_quietIn 40 = .ok (.iload_n 1, 1) := by decide +kernel
theorem dX7_quietIn_41 : decode cX7_quietIn 41 = .ok (.if_icmp .le 18, 3) := by decide +kernel
theorem dX7_quietIn_44 : decode cX7_quietIn 44 = .ok (.aload_n 0, 1) := by decide +kernel
theorem dX7_quietIn_45 : decode cX7_quietIn 45 = .ok (.getfield 7, 3) := by decide +kernel
theorem dX7_quietIn_48 : decode cX7_quietIn 48 = .ok (.iconst 0, 1) := by decide +kernel
theorem dX7_quietIn_49 : decode cX7_quietIn 49 = .ok (.iload_n 2, 1) := by decide +kernel
theorem dX7_quietIn_50 : decode cX7_quietIn 50 = .ok (.invokestatic 28, 3) := by decide +kernel
theorem dX7_quietIn_53 : decode cX7_quietIn 53 = .ok (.iconst 2, 1) := by decide +kernel
theorem dX7_quietIn_54 : decode cX7_quietIn 54 = .ok (.iadd, 1) := by decide +kernel
theorem dX7_quietIn_55 : decode cX7_quietIn 55 = .ok (.iaload, 1) := by decide +kernel
theorem dX7_quietIn_56 : decode cX7_quietIn 56 = .ok (.goto 4, 3) := by decide +kernel
theorem dX7_quietIn_59 : decode cX7_quietIn 59 = .ok (.iload_n 1, 1) := by decide +kernel
theorem dX7_quietIn_60 : decode cX7_quietIn 60 = .ok (.istore_n 1, 1) := by decide +kernel
theorem dX7_quietIn_61 : decode cX7_quietIn 61 = .ok (.iinc 2 1, 3) := by decide +kernel
theorem dX7_quietIn_64 : decode cX7_quietIn 64 = .ok (.goto (-55), 3) := by decide +kernel
theorem dX7_quietIn_67 : decode cX7_quietIn 67 = .ok (.iconst 0, 1) := by decide +kernel
theorem dX7_quietIn_68 : decode cX7_quietIn 68 = .ok (.istore_n 2, 1) := by decide +kernel
theorem dX7_quietIn_69 : decode cX7_quietIn 69 = .ok (.iload_n 2, 1) := by decide +kernel
theorem dX7_quietIn_70 : decode cX7_quietIn 70 = .ok (.aload_n 0, 1) := by decide +kernel
theorem dX7_quietIn_71 : decode cX7_quietIn 71 = .ok (.getfield 7, 3) := by decide +kernel
theorem dX7_quietIn_74 : decode cX7_quietIn 74 = .ok (.bipush 9, 2) := by decide +kernel
theorem dX7_quietIn_76 : decode cX7_quietIn 76 = .ok (.iaload, 1) := by decide +kernel
theorem dX7_quietIn_77 : decode cX7_quietIn 77 = .ok (.if_icmp .ge 38, 3) := by decide +kernel
theorem dX7_quietIn_80 : decode cX7_quietIn 80 = .ok (.aload_n 0, 1) := by decide +kernel
theorem dX7_quietIn_81 : decode cX7_quietIn 81 = .ok (.getfield 7, 3) := by decide +kernel
theorem dX7_quietIn_84 : decode cX7_quietIn 84 = .ok (.iconst 0, 1) := by decide +kernel
theorem dX7_quietIn_85 : decode cX7_quietIn 85 = .ok (.iload_n 2, 1) := by decide +kernel
theorem dX7_quietIn_86 : decode cX7_quietIn 86 = .ok (.invokestatic 87, 3) := by decide +kernel
theorem dX7_quietIn_89 : decode cX7_quietIn 89 = .ok (.iaload, 1) := by decide +kernel
theorem dX7_quietIn_90 : decode cX7_quietIn 90 = .ok (.iload_n 1, 1) := by decide +kernel
theorem dX7_quietIn_91 : decode cX7_quietIn 91 = .ok (.if_icmp .le 16, 3) := by decide +kernel
theorem dX7_quietIn_94 : decode cX7_quietIn 94 = .ok (.aload_n 0, 1) := by decide +kernel
theorem dX7_quietIn_95 : decode cX7_quietIn 95 = .ok (.getfield 7, 3) := by decide +kernel
theorem dX7_quietIn_98 : decode cX7_quietIn 98 = .ok (.iconst 0, 1) := by decide +kernel
theorem dX7_quietIn_99 : decode cX7_quietIn 99 = .ok (.iload_n 2, 1) := by decide +kernel
theorem dX7_quietIn_100 : decode cX7_quietIn 100 = .ok (.invokestatic 87, 3) := by decide +kernel
theorem dX7_quietIn_103 : decode cX7_quietIn 103 = .ok (.iaload, 1) := by decide +kernel
theorem dX7_quietIn_104 : decode cX7_quietIn 104 = .ok (.goto 4, 3) := by decide +kernel
theorem dX7_quietIn_107 : decode cX7_quietIn 107 = .ok (.iload_n 1, 1) := by decide +kernel
theorem dX7_quietIn_108 : decode cX7_quietIn 108 = .ok (.istore_n 1, 1) := by decide +kernel
theorem dX7_quietIn_109 : decode cX7_quietIn 109 = .ok (.iinc 2 1, 3) := by decide +kernel
theorem dX7_quietIn_112 : decode cX7_quietIn 112 = .ok (.goto (-43), 3) := by decide +kernel
theorem dX7_quietIn_115 : decode cX7_quietIn 115 = .ok (.iload_n 1, 1) := by decide +kernel
theorem dX7_quietIn_116 : decode cX7_quietIn 116 = .ok (.aload_n 0, 1) := by decide +kernel
theorem dX7_quietIn_117 : decode cX7_quietIn 117 = .ok (.getfield 7, 3) := by decide +kernel
theorem dX7_quietIn_120 : decode cX7_quietIn 120 = .ok (.iconst 4, 1) := by decide +kernel
theorem dX7_quietIn_121 : decode cX7_quietIn 121 = .ok (.iaload, 1) := by decide +kernel
theorem dX7_quietIn_122 : decode cX7_quietIn 122 = .ok (.isub, 1) := by decide +kernel
theorem dX7_quietIn_123 : decode cX7_quietIn 123 = .ok (.ireturn, 1) := by decide +kernel
theorem dX7_stepIn_0 : decode cX7_stepIn 0 = .ok (.aload_n 0, 1) := by decide +kernel
theorem dX7_stepIn_1 : decode cX7_stepIn 1 = .ok (.iload_n 1, 1) := by decide +kernel
theorem dX7_stepIn_2 : decode cX7_stepIn 2 = .ok (.invokevirtual 103, 3) := by decide +kernel
theorem dX7_stepIn_5 : decode cX7_stepIn 5 = .ok (.ifCond .ne 5, 3) := by decide +kernel
theorem dX7_stepIn_8 : decode cX7_stepIn 8 = .ok (.iconst (-1), 1) := by decide +kernel
theorem dX7_stepIn_9 : decode cX7_stepIn 9 = .ok (.ireturn, 1) := by decide +kernel
theorem dX7_stepIn_10 : decode cX7_stepIn 10 = .ok (.iload_n 2, 1) := by decide +kernel
theorem dX7_stepIn_11 : decode cX7_stepIn 11 = .ok (.i2l, 1) := by decide +kernel
theorem dX7_stepIn_12 : decode cX7_stepIn 12 = .ok (.lconst 1, 1) := by decide +kernel
theorem dX7_stepIn_13 : decode cX7_stepIn 13 = .ok (.ldc2_w 116, 3) := by decide +kernel
theorem dX7_stepIn_16 : decode cX7_stepIn 16 = .ok (.invokestatic 70, 3) := by decide +kernel
theorem dX7_stepIn_19 : decode cX7_stepIn 19 = .ok (.ifCond .ne 6, 3) := by decide +kernel
theorem dX7_stepIn_22 : decode cX7_stepIn 22 = .ok (.bipush (-2), 2) := by decide +kernel
theorem dX7_stepIn_24 : decode cX7_stepIn 24 = .ok (.ireturn, 1) := by decide +kernel
theorem dX7_stepIn_25 : decode cX7_stepIn 25 = .ok (.aload_n 0, 1) := by decide +kernel
theorem dX7_stepIn_26 : decode cX7_stepIn 26 = .ok (.iconst 0, 1) := by decide +kernel
theorem dX7_stepIn_27 : decode cX7_stepIn 27 = .ok (.bipush 9, 2) := by decide +kernel
theorem dX7_stepIn_29 : decode cX7_stepIn 29 = .ok (.invokevirtual 24, 3) := by decide +kernel
theorem dX7_stepIn_32 : decode cX7_stepIn 32 = .ok (.aload_n 0, 1) := by decide +kernel
theorem dX7_stepIn_33 : decode cX7_stepIn 33 = .ok (.sipush 3060, 3) := by decide +kernel
theorem dX7_stepIn_36 : decode cX7_stepIn 36 = .ok (.iload_n 2, 1) := by decide +kernel
theorem dX7_stepIn_37 : decode cX7_stepIn 37 = .ok (.invokevirtual 162, 3) := by decide +kernel
theorem dX7_stepIn_40 : decode cX7_stepIn 40 = .ok (.istore_n 3, 1) := by decide +kernel
theorem dX7_stepIn_41 : decode cX7_stepIn 41 = .ok (.aload_n 0, 1) := by decide +kernel
theorem dX7_stepIn_42 : decode cX7_stepIn 42 = .ok (.getfield 7, 3) := by decide +kernel
theorem dX7_stepIn_45 : decode cX7_stepIn 45 = .ok (.sipush 3060, 3) := by decide +kernel
theorem dX7_stepIn_48 : decode cX7_stepIn 48 = .ok (.iload_n 1, 1) := by decide +kernel
theorem dX7_stepIn_49 : decode cX7_stepIn 49 = .ok (.invokestatic 28, 3) := by decide +kernel
theorem dX7_stepIn_52 : decode cX7_stepIn 52 = .ok (.iaload, 1) := by decide +kernel
theorem dX7_stepIn_53 : decode cX7_stepIn 53 = .ok (.ireturn, 1) := by decide +kernel
theorem dX7_thickest_0 : decode cX7_thickest 0 = .ok (.bipush (-6), 2) := by decide +kernel
theorem dX7_thickest_2 : decode cX7_thickest 2 = .ok (.istore_n 1, 1) := by decide +kernel
theorem dX7_thickest_3 : decode cX7_thickest 3 = .ok (.iconst 0, 1) := by decide +kernel
theorem dX7_thickest_4 : decode cX7_thickest 4 = .ok (.istore_n 2, 1) := by decide +kernel
theorem dX7_thickest_5 : decode cX7_thickest 5 = .ok (.iconst 0, 1) := by decide +kernel
theorem dX7_thickest_6 : decode cX7_thickest 6 = .ok (.istore_n 3, 1) := by decide +kernel
theorem dX7_thickest_7 : decode cX7_thickest 7 = .ok (.iload_n 3, 1) := by decide +kernel
theorem dX7_thickest_8 : decode cX7_thickest 8 = .ok (.bipush 15, 2) := by decide +kernel
theorem dX7_thickest_10 : decode cX7_thickest 10 = .ok (.if_icmp .ge 41, 3) := by decide +kernel
theorem dX7_thickest_13 : decode cX7_thickest 13 = .ok (.aload_n 0, 1) := by decide +kernel
theorem dX7_thickest_14 : decode cX7_thickest 14 = .ok (.iload_n 3, 1) := by decide +kernel
theorem dX7_thickest_15 : decode cX7_thickest 15 = .ok (.invokevirtual 171, 3) := by decide +kernel
theorem dX7_thickest_18 : decode cX7_thickest 18 = .ok (.istore 4, 2) := by decide +kernel
theorem dX7_thickest_20 : decode cX7_thickest 20 = .ok (.iload 4, 2) := by decide +kernel
theorem dX7_thickest_22 : decode cX7_thickest 22 = .ok (.iload_n 2, 1) := by decide +kernel
theorem dX7_thickest_23 : decode cX7_thickest 23 = .ok (.if_icmp .le 7, 3) := by decide +kernel
theorem dX7_thickest_26 : decode cX7_thickest 26 = .ok (.iload_n 3, 1) := by decide +kernel
theorem dX7_thickest_27 : decode cX7_thickest 27 = .ok (.goto 4, 3) := by decide +kernel
theorem dX7_thickest_30 : decode cX7_thickest 30 = .ok (.iload_n 1, 1) := by decide +kernel
theorem dX7_thickest_31 : decode cX7_thickest 31 = .ok (.istore_n 1, 1) := by decide +kernel
theorem dX7_thickest_32 : decode cX7_thickest 32 = .ok (.iload 4, 2) := by decide +kernel
theorem dX7_thickest_34 : decode cX7_thickest 34 = .ok (.iload_n 2, 1) := by decide +kernel
theorem dX7_thickest_35 : decode cX7_thickest 35 = .ok (.if_icmp .le 8, 3) := by decide +kernel
theorem dX7_thickest_38 : decode cX7_thickest 38 = .ok (.iload 4, 2) := by decide +kernel
theorem dX7_thickest_40 : decode cX7_thickest 40 = .ok (.goto 4, 3) := by decide +kernel
theorem dX7_thickest_43 : decode cX7_thickest 43 = .ok (.iload_n 2, 1) := by decide +kernel
theorem dX7_thickest_44 : decode cX7_thickest 44 = .ok (.istore_n 2, 1) := by decide +kernel
theorem dX7_thickest_45 : decode cX7_thickest 45 = .ok (.iinc 3 1, 3) := by decide +kernel
theorem dX7_thickest_48 : decode cX7_thickest 48 = .ok (.goto (-41), 3) := by decide +kernel
theorem dX7_thickest_51 : decode cX7_thickest 51 = .ok (.iload_n 1, 1) := by decide +kernel
theorem dX7_thickest_52 : decode cX7_thickest 52 = .ok (.ireturn, 1) := by decide +kernel
theorem dX7_charactersOf_0 : decode cX7_charactersOf 0 = .ok (.lload_n 0, 1) := by decide +kernel
theorem dX7_charactersOf_1 : decode cX7_charactersOf 1 = .ok (.lstore_n 2, 1) := by decide +kernel
theorem dX7_charactersOf_2 : decode cX7_charactersOf 2 = .ok (.iconst 0, 1) := by decide +kernel
theorem dX7_charactersOf_3 : decode cX7_charactersOf 3 = .ok (.istore 4, 2) := by decide +kernel
theorem dX7_charactersOf_5 : decode cX7_charactersOf 5 = .ok (.iload 4, 2) := by decide +kernel
theorem dX7_charactersOf_7 : decode cX7_charactersOf 7 = .ok (.bipush 8, 2) := by decide +kernel
theorem dX7_charactersOf_9 : decode cX7_charactersOf 9 = .ok (.if_icmp .ge 31, 3) := by decide +kernel
theorem dX7_charactersOf_12 : decode cX7_charactersOf 12 = .ok (.lload_n 2, 1) := by decide +kernel
theorem dX7_charactersOf_13 : decode cX7_charactersOf 13 = .ok (.ldc2_w 201, 3) := by decide +kernel
theorem dX7_charactersOf_16 : decode cX7_charactersOf 16 = .ok (.land, 1) := by decide +kernel
theorem dX7_charactersOf_17 : decode cX7_charactersOf 17 = .ok (.ldc2_w 203, 3) := by decide +kernel
theorem dX7_charactersOf_20 : decode cX7_charactersOf 20 = .ok (.ldc2_w 205, 3) := by decide +kernel
theorem dX7_charactersOf_23 : decode cX7_charactersOf 23 = .ok (.invokestatic 70, 3) := by decide +kernel
theorem dX7_charactersOf_26 : decode cX7_charactersOf 26 = .ok (.ifCond .eq 14, 3) := by decide +kernel
theorem dX7_charactersOf_29 : decode cX7_charactersOf 29 = .ok (.lload_n 2, 1) := by decide +kernel
theorem dX7_charactersOf_30 : decode cX7_charactersOf 30 = .ok (.bipush 8, 2) := by decide +kernel
theorem dX7_charactersOf_32 : decode cX7_charactersOf 32 = .ok (.lushr, 1) := by decide +kernel
theorem dX7_charactersOf_33 : decode cX7_charactersOf 33 = .ok (.lstore_n 2, 1) := by decide +kernel
theorem dX7_charactersOf_34 : decode cX7_charactersOf 34 = .ok (.iinc 4 1, 3) := by decide +kernel
theorem dX7_charactersOf_37 : decode cX7_charactersOf 37 = .ok (.goto (-32), 3) := by decide +kernel
theorem dX7_charactersOf_40 : decode cX7_charactersOf 40 = .ok (.lload_n 2, 1) := by decide +kernel
theorem dX7_charactersOf_41 : decode cX7_charactersOf 41 = .ok (.lconst 0, 1) := by decide +kernel
theorem dX7_charactersOf_42 : decode cX7_charactersOf 42 = .ok (.lcmp, 1) := by decide +kernel
theorem dX7_charactersOf_43 : decode cX7_charactersOf 43 = .ok (.ifCond .ne 8, 3) := by decide +kernel
theorem dX7_charactersOf_46 : decode cX7_charactersOf 46 = .ok (.iload 4, 2) := by decide +kernel
theorem dX7_charactersOf_48 : decode cX7_charactersOf 48 = .ok (.goto 4, 3) := by decide +kernel
theorem dX7_charactersOf_51 : decode cX7_charactersOf 51 = .ok (.iconst 0, 1) := by decide +kernel
theorem dX7_charactersOf_52 : decode cX7_charactersOf 52 = .ok (.ireturn, 1) := by decide +kernel
theorem dX7_put_0 : decode cX7_put 0 = .ok (.lload_n 1, 1) := by decide +kernel
theorem dX7_put_1 : decode cX7_put 1 = .ok (.invokestatic 207, 3) := by decide +kernel
theorem dX7_put_4 : decode cX7_put 4 = .ok (.istore_n 3, 1) := by decide +kernel
theorem dX7_put_5 : decode cX7_put 5 = .ok (.iload_n 3, 1) := by decide +kernel
theorem dX7_put_6 : decode cX7_put 6 = .ok (.ifCond .ne 6, 3) := by decide +kernel
theorem dX7_put_9 : decode cX7_put 9 = .ok (.bipush (-2), 2) := by decide +kernel
theorem dX7_put_11 : decode cX7_put 11 = .ok (.ireturn, 1) := by decide +kernel
theorem dX7_put_12 : decode cX7_put 12 = .ok (.aload_n 0, 1) := by decide +kernel
theorem dX7_put_13 : decode cX7_put 13 = .ok (.getfield 193, 3) := by decide +kernel
theorem dX7_put_16 : decode cX7_put 16 = .ok (.iload_n 3, 1) := by decide +kernel
theorem dX7_put_17 : decode cX7_put 17 = .ok (.iadd, 1) := by decide +kernel
theorem dX7_put_18 : decode cX7_put 18 = .ok (.bipush 80, 2) := by decide +kernel
theorem dX7_put_20 : decode cX7_put 20 = .ok (.if_icmp .le 6, 3) := by decide +kernel
theorem dX7_put_23 : decode cX7_put 23 = .ok (.bipush (-4), 2) := by decide +kernel
theorem dX7_put_25 : decode cX7_put 25 = .ok (.ireturn, 1) := by decide +kernel
theorem dX7_put_26 : decode cX7_put 26 = .ok (.iconst 0, 1) := by decide +kernel
theorem dX7_put_27 : decode cX7_put 27 = .ok (.istore 4, 2) := by decide +kernel
theorem dX7_put_29 : decode cX7_put 29 = .ok (.iload 4, 2) := by decide +kernel
theorem dX7_put_31 : decode cX7_put 31 = .ok (.iload_n 3, 1) := by decide +kernel
theorem dX7_put_32 : decode cX7_put 32 = .ok (.if_icmp .ge 37, 3) := by decide +kernel
theorem dX7_put_35 : decode cX7_put 35 = .ok (.aload_n 0, 1) := by decide +kernel
theorem dX7_put_36 : decode cX7_put 36 = .ok (.getfield 17, 3) := by decide +kernel
theorem dX7_put_39 : decode cX7_put 39 = .ok (.aload_n 0, 1) := by decide +kernel
theorem dX7_put_40 : decode cX7_put 40 = .ok (.getfield 193, 3) := by decide +kernel
theorem dX7_put_43 : decode cX7_put 43 = .ok (.iload 4, 2) := by decide +kernel
theorem dX7_put_45 : decode cX7_put 45 = .ok (.iadd, 1) := by decide +kernel
theorem dX7_put_46 : decode cX7_put 46 = .ok (.lload_n 1, 1) := by decide +kernel
theorem dX7_put_47 : decode cX7_put 47 = .ok (.bipush 8, 2) := by decide +kernel
theorem dX7_put_49 : decode cX7_put 49 = .ok (.iload_n 3, 1) := by decide +kernel
theorem dX7_put_50 : decode cX7_put 50 = .ok (.iconst 1, 1) := by decide +kernel
theorem dX7_put_51 : decode cX7_put 51 = .ok (.isub, 1) := by decide +kernel
theorem dX7_put_52 : decode cX7_put 52 = .ok (.iload 4, 2) := by decide +kernel
theorem dX7_put_54 : decode cX7_put 54 = .ok (.isub, 1) := by decide +kernel
theorem dX7_put_55 : decode cX7_put 55 = .ok (.imul, 1) := by decide +kernel
theorem dX7_put_56 : decode cX7_put 56 = .ok (.lushr, 1) := by decide +kernel
theorem dX7_put_57 : decode cX7_put 57 = .ok (.ldc2_w 201, 3) := by decide +kernel
theorem dX7_put_60 : decode cX7_put 60 = .ok (.land, 1) := by decide +kernel
theorem dX7_put_61 : decode cX7_put 61 = .ok (.l2i, 1) := by decide +kernel
theorem dX7_put_62 : decode cX7_put 62 = .ok (.iastore, 1) := by decide +kernel
theorem dX7_put_63 : decode cX7_put 63 = .ok (.iinc 4 1, 3) := by decide +kernel
theorem dX7_put_66 : decode cX7_put 66 = .ok (.goto (-37), 3) := by decide +kernel
theorem dX7_put_69 : decode cX7_put 69 = .ok (.aload_n 0, 1) := by decide +kernel
theorem dX7_put_70 : decode cX7_put 70 = .ok (.dup, 1) := by decide +kernel
theorem dX7_put_71 : decode cX7_put 71 = .ok (.getfield 193, 3) := by decide +kernel
theorem dX7_put_74 : decode cX7_put 74 = .ok (.iload_n 3, 1) := by decide +kernel
theorem dX7_put_75 : decode cX7_put 75 = .ok (.iadd, 1) := by decide +kernel
theorem dX7_put_76 : decode cX7_put 76 = .ok (.putfield 193, 3) := by decide +kernel
theorem dX7_put_79 : decode cX7_put 79 = .ok (.aload_n 0, 1) := by decide +kernel
theorem dX7_put_80 : decode cX7_put 80 = .ok (.getfield 193, 3) := by decide +kernel
theorem dX7_put_83 : decode cX7_put 83 = .ok (.ireturn, 1) := by decide +kernel
theorem dX7_wipe_0 : decode cX7_wipe 0 = .ok (.aload_n 0, 1) := by decide +kernel
theorem dX7_wipe_1 : decode cX7_wipe 1 = .ok (.getfield 193, 3) := by decide +kernel
theorem dX7_wipe_4 : decode cX7_wipe 4 = .ok (.istore_n 1, 1) := by decide +kernel
theorem dX7_wipe_5 : decode cX7_wipe 5 = .ok (.aload_n 0, 1) := by decide +kernel
theorem dX7_wipe_6 : decode cX7_wipe 6 = .ok (.iconst 0, 1) := by decide +kernel
theorem dX7_wipe_7 : decode cX7_wipe 7 = .ok (.putfield 193, 3) := by decide +kernel
theorem dX7_wipe_10 : decode cX7_wipe 10 = .ok (.iload_n 1, 1) := by decide +kernel
theorem dX7_wipe_11 : decode cX7_wipe 11 = .ok (.ireturn, 1) := by decide +kernel
theorem dX7_isHere_0 : decode cX7_isHere 0 = .ok (.aload_n 0, 1) := by decide +kernel
theorem dX7_isHere_1 : decode cX7_isHere 1 = .ok (.getfield 211, 3) := by decide +kernel
theorem dX7_isHere_4 : decode cX7_isHere 4 = .ok (.aload_n 0, 1) := by decide +kernel
theorem dX7_isHere_5 : decode cX7_isHere 5 = .ok (.getfield 193, 3) := by decide +kernel
theorem dX7_isHere_8 : decode cX7_isHere 8 = .ok (.if_icmp .ge 27, 3) := by decide +kernel
theorem dX7_isHere_11 : decode cX7_isHere 11 = .ok (.aload_n 0, 1) := by decide +kernel
theorem dX7_isHere_12 : decode cX7_isHere 12 = .ok (.getfield 17, 3) := by decide +kernel
theorem dX7_isHere_15 : decode cX7_isHere 15 = .ok (.aload_n 0, 1) := by decide +kernel
theorem dX7_isHere_16 : decode cX7_isHere 16 = .ok (.getfield 211, 3) := by decide +kernel
theorem dX7_isHere_19 : decode cX7_isHere 19 = .ok (.iaload, 1) := by decide +kernel
theorem dX7_isHere_20 : decode cX7_isHere 20 = .ok (.i2l, 1) := by decide +kernel
theorem dX7_isHere_21 : decode cX7_isHere 21 = .ok (.iload_n 1, 1) := by decide +kernel
theorem dX7_isHere_22 : decode cX7_isHere 22 = .ok (.i2l, 1) := by decide +kernel
theorem dX7_isHere_23 : decode cX7_isHere 23 = .ok (.iload_n 2, 1) := by decide +kernel
theorem dX7_isHere_24 : decode cX7_isHere 24 = .ok (.i2l, 1) := by decide +kernel
theorem dX7_isHere_25 : decode cX7_isHere 25 = .ok (.invokestatic 70, 3) := by decide +kernel
theorem dX7_isHere_28 : decode cX7_isHere 28 = .ok (.ifCond .eq 7, 3) := by decide +kernel
theorem dX7_isHere_31 : decode cX7_isHere 31 = .ok (.iconst 1, 1) := by decide +kernel
theorem dX7_isHere_32 : decode cX7_isHere 32 = .ok (.goto 4, 3) := by decide +kernel
theorem dX7_isHere_35 : decode cX7_isHere 35 = .ok (.iconst 0, 1) := by decide +kernel
theorem dX7_isHere_36 : decode cX7_isHere 36 = .ok (.ireturn, 1) := by decide +kernel
theorem dX7_takes_0 : decode cX7_takes 0 = .ok (.aload_n 0, 1) := by decide +kernel
theorem dX7_takes_1 : decode cX7_takes 1 = .ok (.iload_n 1, 1) := by decide +kernel
theorem dX7_takes_2 : decode cX7_takes 2 = .ok (.iload_n 1, 1) := by decide +kernel
theorem dX7_takes_3 : decode cX7_takes 3 = .ok (.invokevirtual 214, 3) := by decide +kernel
theorem dX7_takes_6 : decode cX7_takes 6 = .ok (.istore_n 2, 1) := by decide +kernel
theorem dX7_takes_7 : decode cX7_takes 7 = .ok (.aload_n 0, 1) := by decide +kernel
theorem dX7_takes_8 : decode cX7_takes 8 = .ok (.dup, 1) := by decide +kernel
theorem dX7_takes_9 : decode cX7_takes 9 = .ok (.getfield 211, 3) := by decide +kernel
theorem dX7_takes_12 : decode cX7_takes 12 = .ok (.iload_n 2, 1) := by decide +kernel
theorem dX7_takes_13 : decode cX7_takes 13 = .ok (.ifCond .eq 7, 3) := by decide +kernel
theorem dX7_takes_16 : decode cX7_takes 16 = .ok (.iconst 1, 1) := by decide +kernel
theorem dX7_takes_17 : decode cX7_takes 17 = .ok (.goto 4, 3) := by decide +kernel
theorem dX7_takes_20 : decode cX7_takes 20 = .ok (.iconst 0, 1) := by decide +kernel
theorem dX7_takes_21 : decode cX7_takes 21 = .ok (.iadd, 1) := by decide +kernel
theorem dX7_takes_22 : decode cX7_takes 22 = .ok (.putfield 211, 3) := by decide +kernel
theorem dX7_takes_25 : decode cX7_takes 25 = .ok (.iload_n 2, 1) := by decide +kernel
theorem dX7_takes_26 : decode cX7_takes 26 = .ok (.ireturn, 1) := by decide +kernel
theorem dX7_digit_0 : decode cX7_digit 0 = .ok (.aload_n 0, 1) := by decide +kernel
theorem dX7_digit_1 : decode cX7_digit 1 = .ok (.bipush 48, 2) := by decide +kernel
theorem dX7_digit_3 : decode cX7_digit 3 = .ok (.bipush 57, 2) := by decide +kernel
theorem dX7_digit_5 : decode cX7_digit 5 = .ok (.invokevirtual 214, 3) := by decide +kernel
theorem dX7_digit_8 : decode cX7_digit 8 = .ok (.ifCond .eq 18, 3) := by decide +kernel
theorem dX7_digit_11 : decode cX7_digit 11 = .ok (.aload_n 0, 1) := by decide +kernel
theorem dX7_digit_12 : decode cX7_digit 12 = .ok (.getfield 17, 3) := by decide +kernel
theorem dX7_digit_15 : decode cX7_digit 15 = .ok (.aload_n 0, 1) := by decide +kernel
theorem dX7_digit_16 : decode cX7_digit 16 = .ok (.getfield 211, 3) := by decide +kernel
theorem dX7_digit_19 : decode cX7_digit 19 = .ok (.iaload, 1) := by decide +kernel
theorem dX7_digit_20 : decode cX7_digit 20 = .ok (.bipush 48, 2) := by decide +kernel
theorem dX7_digit_22 : decode cX7_digit 22 = .ok (.isub, 1) := by decide +kernel
theorem dX7_digit_23 : decode cX7_digit 23 = .ok (.goto 5, 3) := by decide +kernel
theorem dX7_digit_26 : decode cX7_digit 26 = .ok (.bipush (-6), 2) := by decide +kernel
theorem dX7_digit_28 : decode cX7_digit 28 = .ok (.istore_n 1, 1) := by decide +kernel
theorem dX7_digit_29 : decode cX7_digit 29 = .ok (.aload_n 0, 1) := by decide +kernel
theorem dX7_digit_30 : decode cX7_digit 30 = .ok (.dup, 1) := by decide +kernel
theorem dX7_digit_31 : decode cX7_digit 31 = .ok (.getfield 211, 3) := by decide +kernel
theorem dX7_digit_34 : decode cX7_digit 34 = .ok (.iload_n 1, 1) := by decide +kernel
theorem dX7_digit_35 : decode cX7_digit 35 = .ok (.bipush (-6), 2) := by decide +kernel
theorem dX7_digit_37 : decode cX7_digit 37 = .ok (.if_icmp .ne 7, 3) := by decide +kernel
theorem dX7_digit_40 : decode cX7_digit 40 = .ok (.iconst 0, 1) := by decide +kernel
theorem dX7_digit_41 : decode cX7_digit 41 = .ok (.goto 4, 3) := by decide +kernel
theorem dX7_digit_44 : decode cX7_digit 44 = .ok (.iconst 1, 1) := by decide +kernel
theorem dX7_digit_45 : decode cX7_digit 45 = .ok (.iadd, 1) := by decide +kernel
theorem dX7_digit_46 : decode cX7_digit 46 = .ok (.putfield 211, 3) := by decide +kernel
theorem dX7_digit_49 : decode cX7_digit 49 = .ok (.iload_n 1, 1) := by decide +kernel
theorem dX7_digit_50 : decode cX7_digit 50 = .ok (.ireturn, 1) := by decide +kernel
theorem dX7_number_0 : decode cX7_number 0 = .ok (.aload_n 0, 1) := by decide +kernel
theorem dX7_number_1 : decode cX7_number 1 = .ok (.invokevirtual 217, 3) := by decide +kernel
theorem dX7_number_4 : decode cX7_number 4 = .ok (.istore_n 1, 1) := by decide +kernel
theorem dX7_number_5 : decode cX7_number 5 = .ok (.iload_n 1, 1) := by decide +kernel
theorem dX7_number_6 : decode cX7_number 6 = .ok (.ifCond .le 42, 3) := by decide +kernel
theorem dX7_number_9 : decode cX7_number 9 = .ok (.aload_n 0, 1) := by decide +kernel
theorem dX7_number_10 : decode cX7_number 10 = .ok (.bipush 48, 2) := by decide +kernel
theorem dX7_number_12 : decode cX7_number 12 = .ok (.bipush 57, 2) := by decide +kernel
theorem dX7_number_14 : decode cX7_number 14 = .ok (.invokevirtual 214, 3) := by decide +kernel
theorem dX7_number_17 : decode cX7_number 17 = .ok (.ifCond .eq 31, 3) := by decide +kernel
theorem dX7_number_20 : decode cX7_number 20 = .ok (.bipush 10, 2) := by decide +kernel
theorem dX7_number_22 : decode cX7_number 22 = .ok (.iload_n 1, 1) := by decide +kernel
theorem dX7_number_23 : decode cX7_number 23 = .ok (.imul, 1) := by decide +kernel
theorem dX7_number_24 : decode cX7_number 24 = .ok (.aload_n 0, 1) := by decide +kernel
theorem dX7_number_25 : decode cX7_number 25 = .ok (.getfield 17, 3) := by decide +kernel
theorem dX7_number_28 : decode cX7_number 28 = .ok (.aload_n 0, 1) := by decide +kernel
theorem dX7_number_29 : decode cX7_number 29 = .ok (.getfield 211, 3) := by decide +kernel
theorem dX7_number_32 : decode cX7_number 32 = .ok (.iaload, 1) := by decide +kernel
theorem dX7_number_33 : decode cX7_number 33 = .ok (.iadd, 1) := by decide +kernel
theorem dX7_number_34 : decode cX7_number 34 = .ok (.bipush 48, 2) := by decide +kernel
theorem dX7_number_36 : decode cX7_number 36 = .ok (.isub, 1) := by decide +kernel
theorem dX7_number_37 : decode cX7_number 37 = .ok (.istore_n 1, 1) := by decide +kernel
theorem dX7_number_38 : decode cX7_number 38 = .ok (.aload_n 0, 1) := by decide +kernel
theorem dX7_number_39 : decode cX7_number 39 = .ok (.dup, 1) := by decide +kernel
theorem dX7_number_40 : decode cX7_number 40 = .ok (.getfield 211, 3) := by decide +kernel
theorem dX7_number_43 : decode cX7_number 43 = .ok (.iconst 1, 1) := by decide +kernel
theorem dX7_number_44 : decode cX7_number 44 = .ok (.iadd, 1) := by decide +kernel
theorem dX7_number_45 : decode cX7_number 45 = .ok (.putfield 211, 3) := by decide +kernel
theorem dX7_number_48 : decode cX7_number 48 = .ok (.iload_n 1, 1) := by decide +kernel
theorem dX7_number_49 : decode cX7_number 49 = .ok (.ireturn, 1) := by decide +kernel
theorem dX7_readsBy_0 : decode cX7_readsBy 0 = .ok (.aload_n 0, 1) := by decide +kernel
theorem dX7_readsBy_1 : decode cX7_readsBy 1 = .ok (.bipush 43, 2) := by decide +kernel
theorem dX7_readsBy_3 : decode cX7_readsBy 3 = .ok (.invokevirtual 220, 3) := by decide +kernel
theorem dX7_readsBy_6 : decode cX7_readsBy 6 = .ok (.istore_n 1, 1) := by decide +kernel
theorem dX7_readsBy_7 : decode cX7_readsBy 7 = .ok (.iload_n 1, 1) := by decide +kernel
theorem dX7_readsBy_8 : decode cX7_readsBy 8 = .ok (.ifCond .ne 14, 3) := by decide +kernel
theorem dX7_readsBy_11 : decode cX7_readsBy 11 = .ok (.aload_n 0, 1) := by decide +kernel
theorem dX7_readsBy_12 : decode cX7_readsBy 12 = .ok (.bipush 45, 2) := by decide +kernel
theorem dX7_readsBy_14 : decode cX7_readsBy 14 = .ok (.invokevirtual 220, 3) := by decide +kernel
theorem dX7_readsBy_17 : decode cX7_readsBy 17 = .ok (.ifCond .ne 5, 3) := by decide +kernel
theorem dX7_readsBy_20 : decode cX7_readsBy 20 = .ok (.iconst 0, 1) := by decide +kernel
theorem dX7_readsBy_21 : decode cX7_readsBy 21 = .ok (.ireturn, 1) := by decide +kernel
theorem dX7_readsBy_22 : decode cX7_readsBy 22 = .ok (.aload_n 0, 1) := by decide +kernel
theorem dX7_readsBy_23 : decode cX7_readsBy 23 = .ok (.invokevirtual 223, 3) := by decide +kernel
theorem dX7_readsBy_26 : decode cX7_readsBy 26 = .ok (.istore_n 2, 1) := by decide +kernel
theorem dX7_readsBy_27 : decode cX7_readsBy 27 = .ok (.aload_n 0, 1) := by decide +kernel
theorem dX7_readsBy_28 : decode cX7_readsBy 28 = .ok (.iload_n 1, 1) := by decide +kernel
theorem dX7_readsBy_29 : decode cX7_readsBy 29 = .ok (.ifCond .eq 7, 3) := by decide +kernel
theorem dX7_readsBy_32 : decode cX7_readsBy 32 = .ok (.iload_n 2, 1) := by decide +kernel
theorem dX7_readsBy_33 : decode cX7_readsBy 33 = .ok (.goto 5, 3) := by decide +kernel
theorem dX7_readsBy_36 : decode cX7_readsBy 36 = .ok (.iload_n 2, 1) := by decide +kernel
theorem dX7_readsBy_37 : decode cX7_readsBy 37 = .ok (.ineg, 1) := by decide +kernel
theorem dX7_readsBy_38 : decode cX7_readsBy 38 = .ok (.putfield 226, 3) := by decide +kernel
theorem dX7_readsBy_41 : decode cX7_readsBy 41 = .ok (.iload_n 2, 1) := by decide +kernel
theorem dX7_readsBy_42 : decode cX7_readsBy 42 = .ok (.bipush (-6), 2) := by decide +kernel
theorem dX7_readsBy_44 : decode cX7_readsBy 44 = .ok (.if_icmp .eq 7, 3) := by decide +kernel
theorem dX7_readsBy_47 : decode cX7_readsBy 47 = .ok (.iconst 1, 1) := by decide +kernel
theorem dX7_readsBy_48 : decode cX7_readsBy 48 = .ok (.goto 4, 3) := by decide +kernel
theorem dX7_readsBy_51 : decode cX7_readsBy 51 = .ok (.iconst 0, 1) := by decide +kernel
theorem dX7_readsBy_52 : decode cX7_readsBy 52 = .ok (.ireturn, 1) := by decide +kernel
theorem dX7_readsKitten_0 : decode cX7_readsKitten 0 = .ok (.aload_n 0, 1) := by decide +kernel
theorem dX7_readsKitten_1 : decode cX7_readsKitten 1 = .ok (.aload_n 0, 1) := by decide +kernel
theorem dX7_readsKitten_2 : decode cX7_readsKitten 2 = .ok (.invokevirtual 217, 3) := by decide +kernel
theorem dX7_readsKitten_5 : decode cX7_readsKitten 5 = .ok (.putfield 229, 3) := by decide +kernel
theorem dX7_readsKitten_8 : decode cX7_readsKitten 8 = .ok (.aload_n 0, 1) := by decide +kernel
theorem dX7_readsKitten_9 : decode cX7_readsKitten 9 = .ok (.getfield 229, 3) := by decide +kernel
theorem dX7_readsKitten_12 : decode cX7_readsKitten 12 = .ok (.bipush (-6), 2) := by decide +kernel
theorem dX7_readsKitten_14 : decode cX7_readsKitten 14 = .ok (.if_icmp .eq 7, 3) := by decide +kernel
theorem dX7_readsKitten_17 : decode cX7_readsKitten 17 = .ok (.iconst 1, 1) := by decide +kernel
theorem dX7_readsKitten_18 : decode cX7_readsKitten 18 = .ok (.goto 4, 3) := by decide +kernel
theorem dX7_readsKitten_21 : decode cX7_readsKitten 21 = .ok (.iconst 0, 1) := by decide +kernel
theorem dX7_readsKitten_22 : decode cX7_readsKitten 22 = .ok (.ireturn, 1) := by decide +kernel
theorem dX7_readsNumber_0 : decode cX7_readsNumber 0 = .ok (.aload_n 0, 1) := by decide +kernel
theorem dX7_readsNumber_1 : decode cX7_readsNumber 1 = .ok (.aload_n 0, 1) := by decide +kernel
theorem dX7_readsNumber_2 : decode cX7_readsNumber 2 = .ok (.invokevirtual 223, 3) := by decide +kernel
theorem dX7_readsNumber_5 : decode cX7_readsNumber 5 = .ok (.putfield 232, 3) := by decide +kernel
theorem dX7_readsNumber_8 : decode cX7_readsNumber 8 = .ok (.aload_n 0, 1) := by decide +kernel
theorem dX7_readsNumber_9 : decode cX7_readsNumber 9 = .ok (.getfield 232, 3) := by decide +kernel
theorem dX7_readsNumber_12 : decode cX7_readsNumber 12 = .ok (.bipush (-6), 2) := by decide +kernel
theorem dX7_readsNumber_14 : decode cX7_readsNumber 14 = .ok (.if_icmp .eq 7, 3) := by decide +kernel
theorem dX7_readsNumber_17 : decode cX7_readsNumber 17 = .ok (.iconst 1, 1) := by decide +kernel
theorem dX7_readsNumber_18 : decode cX7_readsNumber 18 = .ok (.goto 4, 3) := by decide +kernel
theorem dX7_readsNumber_21 : decode cX7_readsNumber 21 = .ok (.iconst 0, 1) := by decide +kernel
theorem dX7_readsNumber_22 : decode cX7_readsNumber 22 = .ok (.ireturn, 1) := by decide +kernel
theorem dX7_readsOrder_0 : decode cX7_readsOrder 0 = .ok (.aload_n 0, 1) := by decide +kernel
theorem dX7_readsOrder_1 : decode cX7_readsOrder 1 = .ok (.aload_n 0, 1) := by decide +kernel
theorem dX7_readsOrder_2 : decode cX7_readsOrder 2 = .ok (.getfield 211, 3) := by decide +kernel
theorem dX7_readsOrder_5 : decode cX7_readsOrder 5 = .ok (.aload_n 0, 1) := by decide +kernel
theorem dX7_readsOrder_6 : decode cX7_readsOrder 6 = .ok (.getfield 193, 3) := by decide +kernel
theorem dX7_readsOrder_9 : decode cX7_readsOrder 9 = .ok (.if_icmp .ge 16, 3) := by decide +kernel
theorem dX7_readsOrder_12 : decode cX7_readsOrder 12 = .ok (.aload_n 0, 1) := by decide +kernel
theorem dX7_readsOrder_13 : decode cX7_readsOrder 13 = .ok (.getfield 17, 3) := by decide +kernel
theorem dX7_readsOrder_16 : decode cX7_readsOrder 16 = .ok (.aload_n 0, 1) := by decide +kernel
theorem dX7_readsOrder_17 : decode cX7_readsOrder 17 = .ok (.getfield 211, 3) := by decide +kernel
theorem dX7_readsOrder_20 : decode cX7_readsOrder 20 = .ok (.iaload, 1) := by decide +kernel
theorem dX7_readsOrder_21 : decode cX7_readsOrder 21 = .ok (.i2c, 1) := by decide +kernel
theorem dX7_readsOrder_22 : decode cX7_readsOrder 22 = .ok (.goto 5, 3) := by decide +kernel
theorem dX7_readsOrder_25 : decode cX7_readsOrder 25 = .ok (.bipush 32, 2) := by decide +kernel
theorem dX7_readsOrder_27 : decode cX7_readsOrder 27 = .ok (.putfield 235, 3) := by decide +kernel
theorem dX7_readsOrder_30 : decode cX7_readsOrder 30 = .ok (.aload_n 0, 1) := by decide +kernel
theorem dX7_readsOrder_31 : decode cX7_readsOrder 31 = .ok (.dup, 1) := by decide +kernel
theorem dX7_readsOrder_32 : decode cX7_readsOrder 32 = .ok (.getfield 211, 3) := by decide +kernel
theorem dX7_readsOrder_35 : decode cX7_readsOrder 35 = .ok (.iconst 1, 1) := by decide +kernel
theorem dX7_readsOrder_36 : decode cX7_readsOrder 36 = .ok (.iadd, 1) := by decide +kernel
theorem dX7_readsOrder_37 : decode cX7_readsOrder 37 = .ok (.putfield 211, 3) := by decide +kernel
theorem dX7_readsOrder_40 : decode cX7_readsOrder 40 = .ok (.aload_n 0, 1) := by decide +kernel
theorem dX7_readsOrder_41 : decode cX7_readsOrder 41 = .ok (.getfield 235, 3) := by decide +kernel
theorem dX7_readsOrder_44 : decode cX7_readsOrder 44 = .ok (.tableswitch 183 103 120 #[93, 183, 183, 183, 88, 183, 183, 113, 183, 147, 183, 183, 183, 88, 183, 183, 183, 118], 88) := by decide +kernel
theorem dX7_readsOrder_132 : decode cX7_readsOrder 132 = .ok (.aload_n 0, 1) := by decide +kernel
theorem dX7_readsOrder_133 : decode cX7_readsOrder 133 = .ok (.invokevirtual 239, 3) := by decide +kernel
theorem dX7_readsOrder_136 : decode cX7_readsOrder 136 = .ok (.ireturn, 1) := by decide +kernel
theorem dX7_readsOrder_137 : decode cX7_readsOrder 137 = .ok (.aload_n 0, 1) := by decide +kernel
theorem dX7_readsOrder_138 : decode cX7_readsOrder 138 = .ok (.invokevirtual 243, 3) := by decide +kernel
theorem dX7_readsOrder_141 : decode cX7_readsOrder 141 = .ok (.ifCond .eq 14, 3) := by decide +kernel
theorem dX7_readsOrder_144 : decode cX7_readsOrder 144 = .ok (.aload_n 0, 1) := by decide +kernel
theorem dX7_readsOrder_145 : decode cX7_readsOrder 145 = .ok (.invokevirtual 246, 3) := by decide +kernel
theorem dX7_readsOrder_148 : decode cX7_readsOrder 148 = .ok (.ifCond .eq 7, 3) := by decide +kernel
theorem dX7_readsOrder_151 : decode cX7_readsOrder 151 = .ok (.iconst 1, 1) := by decide +kernel
theorem dX7_readsOrder_152 : decode cX7_readsOrder 152 = .ok (.goto 4, 3) := by decide +kernel
theorem dX7_readsOrder_155 : decode cX7_readsOrder 155 = .ok (.iconst 0, 1) := by decide +kernel
theorem dX7_readsOrder_156 : decode cX7_readsOrder 156 = .ok (.ireturn, 1) := by decide +kernel
theorem dX7_readsOrder_157 : decode cX7_readsOrder 157 = .ok (.aload_n 0, 1) := by decide +kernel
theorem dX7_readsOrder_158 : decode cX7_readsOrder 158 = .ok (.invokevirtual 243, 3) := by decide +kernel
theorem dX7_readsOrder_161 : decode cX7_readsOrder 161 = .ok (.ireturn, 1) := by decide +kernel
theorem dX7_readsOrder_162 : decode cX7_readsOrder 162 = .ok (.aload_n 0, 1) := by decide +kernel
theorem dX7_readsOrder_163 : decode cX7_readsOrder 163 = .ok (.invokevirtual 239, 3) := by decide +kernel
theorem dX7_readsOrder_166 : decode cX7_readsOrder 166 = .ok (.ifCond .eq 23, 3) := by decide +kernel
theorem dX7_readsOrder_169 : decode cX7_readsOrder 169 = .ok (.aload_n 0, 1) := by decide +kernel
theorem dX7_readsOrder_170 : decode cX7_readsOrder 170 = .ok (.bipush 46, 2) := by decide +kernel
theorem dX7_readsOrder_172 : decode cX7_readsOrder 172 = .ok (.invokevirtual 220, 3) := by decide +kernel
theorem dX7_readsOrder_175 : decode cX7_readsOrder 175 = .ok (.ifCond .eq 14, 3) := by decide +kernel
theorem dX7_readsOrder_178 : decode cX7_readsOrder 178 = .ok (.aload_n 0, 1) := by decide +kernel
theorem dX7_readsOrder_179 : decode cX7_readsOrder 179 = .ok (.invokevirtual 243, 3) := by decide +kernel
theorem dX7_readsOrder_182 : decode cX7_readsOrder 182 = .ok (.ifCond .eq 7, 3) := by decide +kernel
theorem dX7_readsOrder_185 : decode cX7_readsOrder 185 = .ok (.iconst 1, 1) := by decide +kernel
theorem dX7_readsOrder_186 : decode cX7_readsOrder 186 = .ok (.goto 4, 3) := by decide +kernel
theorem dX7_readsOrder_189 : decode cX7_readsOrder 189 = .ok (.iconst 0, 1) := by decide +kernel
theorem dX7_readsOrder_190 : decode cX7_readsOrder 190 = .ok (.ireturn, 1) := by decide +kernel
theorem dX7_readsOrder_191 : decode cX7_readsOrder 191 = .ok (.aload_n 0, 1) := by decide +kernel
theorem dX7_readsOrder_192 : decode cX7_readsOrder 192 = .ok (.invokevirtual 239, 3) := by decide +kernel
theorem dX7_readsOrder_195 : decode cX7_readsOrder 195 = .ok (.ifCond .eq 30, 3) := by decide +kernel
theorem dX7_readsOrder_198 : decode cX7_readsOrder 198 = .ok (.aload_n 0, 1) := by decide +kernel
theorem dX7_readsOrder_199 : decode cX7_readsOrder 199 = .ok (.bipush 58, 2) := by decide +kernel
theorem dX7_readsOrder_201 : decode cX7_readsOrder 201 = .ok (.invokevirtual 220, 3) := by decide +kernel
theorem dX7_readsOrder_204 : decode cX7_readsOrder 204 = .ok (.ifCond .eq 21, 3) := by decide +kernel
theorem dX7_readsOrder_207 : decode cX7_readsOrder 207 = .ok (.aload_n 0, 1) := by decide +kernel
theorem dX7_readsOrder_208 : decode cX7_readsOrder 208 = .ok (.invokevirtual 243, 3) := by decide +kernel
theorem dX7_readsOrder_211 : decode cX7_readsOrder 211 = .ok (.ifCond .eq 14, 3) := by decide +kernel
theorem dX7_readsOrder_214 : decode cX7_readsOrder 214 = .ok (.aload_n 0, 1) := by decide +kernel
theorem dX7_readsOrder_215 : decode cX7_readsOrder 215 = .ok (.invokevirtual 246, 3) := by decide +kernel
theorem dX7_readsOrder_218 : decode cX7_readsOrder 218 = .ok (.ifCond .eq 7, 3) := by decide +kernel
theorem dX7_readsOrder_221 : decode cX7_readsOrder 221 = .ok (.iconst 1, 1) := by decide +kernel
theorem dX7_readsOrder_222 : decode cX7_readsOrder 222 = .ok (.goto 4, 3) := by decide +kernel
theorem dX7_readsOrder_225 : decode cX7_readsOrder 225 = .ok (.iconst 0, 1) := by decide +kernel
theorem dX7_readsOrder_226 : decode cX7_readsOrder 226 = .ok (.ireturn, 1) := by decide +kernel
theorem dX7_readsOrder_227 : decode cX7_readsOrder 227 = .ok (.aload_n 0, 1) := by decide +kernel
theorem dX7_readsOrder_228 : decode cX7_readsOrder 228 = .ok (.dup, 1) := by decide +kernel
theorem dX7_readsOrder_229 : decode cX7_readsOrder 229 = .ok (.getfield 211, 3) := by decide +kernel
theorem dX7_readsOrder_232 : decode cX7_readsOrder 232 = .ok (.iconst 1, 1) := by decide +kernel
theorem dX7_readsOrder_233 : decode cX7_readsOrder 233 = .ok (.isub, 1) := by decide +kernel
theorem dX7_readsOrder_234 : decode cX7_readsOrder 234 = .ok (.putfield 211, 3) := by decide +kernel
theorem dX7_readsOrder_237 : decode cX7_readsOrder 237 = .ok (.iconst 0, 1) := by decide +kernel
theorem dX7_readsOrder_238 : decode cX7_readsOrder 238 = .ok (.ireturn, 1) := by decide +kernel
theorem dX7_fault_0 : decode cX7_fault 0 = .ok (.aload_n 0, 1) := by decide +kernel
theorem dX7_fault_1 : decode cX7_fault 1 = .ok (.iconst 0, 1) := by decide +kernel
theorem dX7_fault_2 : decode cX7_fault 2 = .ok (.putfield 211, 3) := by decide +kernel
theorem dX7_fault_5 : decode cX7_fault 5 = .ok (.iconst 1, 1) := by decide +kernel
theorem dX7_fault_6 : decode cX7_fault 6 = .ok (.istore_n 1, 1) := by decide +kernel
theorem dX7_fault_7 : decode cX7_fault 7 = .ok (.iload_n 1, 1) := by decide +kernel
theorem dX7_fault_8 : decode cX7_fault 8 = .ok (.ifCond .eq 25, 3) := by decide +kernel
theorem dX7_fault_11 : decode cX7_fault 11 = .ok (.aload_n 0, 1) := by decide +kernel
theorem dX7_fault_12 : decode cX7_fault 12 = .ok (.invokevirtual 249, 3) := by decide +kernel
theorem dX7_fault_15 : decode cX7_fault 15 = .ok (.ifCond .ne 8, 3) := by decide +kernel
theorem dX7_fault_18 : decode cX7_fault 18 = .ok (.aload_n 0, 1) := by decide +kernel
theorem dX7_fault_19 : decode cX7_fault 19 = .ok (.getfield 211, 3) := by decide +kernel
theorem dX7_fault_22 : decode cX7_fault 22 = .ok (.ireturn, 1) := by decide +kernel
theorem dX7_fault_23 : decode cX7_fault 23 = .ok (.aload_n 0, 1) := by decide +kernel
theorem dX7_fault_24 : decode cX7_fault 24 = .ok (.bipush 59, 2) := by decide +kernel
theorem dX7_fault_26 : decode cX7_fault 26 = .ok (.invokevirtual 220, 3) := by decide +kernel
theorem dX7_fault_29 : decode cX7_fault 29 = .ok (.istore_n 1, 1) := by decide +kernel
theorem dX7_fault_30 : decode cX7_fault 30 = .ok (.goto (-23), 3) := by decide +kernel
theorem dX7_fault_33 : decode cX7_fault 33 = .ok (.aload_n 0, 1) := by decide +kernel
theorem dX7_fault_34 : decode cX7_fault 34 = .ok (.getfield 211, 3) := by decide +kernel
theorem dX7_fault_37 : decode cX7_fault 37 = .ok (.aload_n 0, 1) := by decide +kernel
theorem dX7_fault_38 : decode cX7_fault 38 = .ok (.getfield 193, 3) := by decide +kernel
theorem dX7_fault_41 : decode cX7_fault 41 = .ok (.if_icmp .ne 8, 3) := by decide +kernel
theorem dX7_fault_44 : decode cX7_fault 44 = .ok (.bipush (-6), 2) := by decide +kernel
theorem dX7_fault_46 : decode cX7_fault 46 = .ok (.goto 7, 3) := by decide +kernel
theorem dX7_fault_49 : decode cX7_fault 49 = .ok (.aload_n 0, 1) := by decide +kernel
theorem dX7_fault_50 : decode cX7_fault 50 = .ok (.getfield 211, 3) := by decide +kernel
theorem dX7_fault_53 : decode cX7_fault 53 = .ok (.ireturn, 1) := by decide +kernel
theorem dX7_orderError_0 : decode cX7_orderError 0 = .ok (.aload_n 0, 1) := by decide +kernel
theorem dX7_orderError_1 : decode cX7_orderError 1 = .ok (.getfield 235, 3) := by decide +kernel
theorem dX7_orderError_4 : decode cX7_orderError 4 = .ok (.lookupswitch 113 #[(103, 61), (107, 52), (110, 74), (112, 96), (120, 83)], 52) := by decide +kernel
theorem dX7_orderError_56 : decode cX7_orderError 56 = .ok (.aload_n 0, 1) := by decide +kernel
theorem dX7_orderError_57 : decode cX7_orderError 57 = .ok (.aload_n 0, 1) := by decide +kernel
theorem dX7_orderError_58 : decode cX7_orderError 58 = .ok (.getfield 232, 3) := by decide +kernel
theorem dX7_orderError_61 : decode cX7_orderError 61 = .ok (.invokevirtual 132, 3) := by decide +kernel
theorem dX7_orderError_64 : decode cX7_orderError 64 = .ok (.ireturn, 1) := by decide +kernel
theorem dX7_orderError_65 : decode cX7_orderError 65 = .ok (.aload_n 0, 1) := by decide +kernel
theorem dX7_orderError_66 : decode cX7_orderError 66 = .ok (.aload_n 0, 1) := by decide +kernel
theorem dX7_orderError_67 : decode cX7_orderError 67 = .ok (.getfield 229, 3) := by decide +kernel
theorem dX7_orderError_70 : decode cX7_orderError 70 = .ok (.aload_n 0, 1) := by decide +kernel
theorem dX7_orderError_71 : decode cX7_orderError 71 = .ok (.getfield 226, 3) := by decide +kernel
theorem dX7_orderError_74 : decode cX7_orderError 74 = .ok (.invokevirtual 138, 3) := by decide +kernel
theorem dX7_orderError_77 : decode cX7_orderError 77 = .ok (.ireturn, 1) := by decide +kernel
theorem dX7_orderError_78 : decode cX7_orderError 78 = .ok (.aload_n 0, 1) := by decide +kernel
theorem dX7_orderError_79 : decode cX7_orderError 79 = .ok (.aload_n 0, 1) := by decide +kernel
theorem dX7_orderError_80 : decode cX7_orderError 80 = .ok (.getfield 229, 3) := by decide +kernel
theorem dX7_orderError_83 : decode cX7_orderError 83 = .ok (.invokevirtual 141, 3) := by decide +kernel
theorem dX7_orderError_86 : decode cX7_orderError 86 = .ok (.ireturn, 1) := by decide +kernel
theorem dX7_orderError_87 : decode cX7_orderError 87 = .ok (.aload_n 0, 1) := by decide +kernel
theorem dX7_orderError_88 : decode cX7_orderError 88 = .ok (.aload_n 0, 1) := by decide +kernel
theorem dX7_orderError_89 : decode cX7_orderError 89 = .ok (.getfield 232, 3) := by decide +kernel
theorem dX7_orderError_92 : decode cX7_orderError 92 = .ok (.aload_n 0, 1) := by decide +kernel
theorem dX7_orderError_93 : decode cX7_orderError 93 = .ok (.getfield 229, 3) := by decide +kernel
theorem dX7_orderError_96 : decode cX7_orderError 96 = .ok (.invokevirtual 147, 3) := by decide +kernel
theorem dX7_orderError_99 : decode cX7_orderError 99 = .ok (.ireturn, 1) := by decide +kernel
theorem dX7_orderError_100 : decode cX7_orderError 100 = .ok (.aload_n 0, 1) := by decide +kernel
theorem dX7_orderError_101 : decode cX7_orderError 101 = .ok (.aload_n 0, 1) := by decide +kernel
theorem dX7_orderError_102 : decode cX7_orderError 102 = .ok (.getfield 232, 3) := by decide +kernel
theorem dX7_orderError_105 : decode cX7_orderError 105 = .ok (.aload_n 0, 1) := by decide +kernel
theorem dX7_orderError_106 : decode cX7_orderError 106 = .ok (.getfield 229, 3) := by decide +kernel
theorem dX7_orderError_109 : decode cX7_orderError 109 = .ok (.aload_n 0, 1) := by decide +kernel
theorem dX7_orderError_110 : decode cX7_orderError 110 = .ok (.getfield 226, 3) := by decide +kernel
theorem dX7_orderError_113 : decode cX7_orderError 113 = .ok (.invokevirtual 153, 3) := by decide +kernel
theorem dX7_orderError_116 : decode cX7_orderError 116 = .ok (.ireturn, 1) := by decide +kernel
theorem dX7_orderError_117 : decode cX7_orderError 117 = .ok (.aload_n 0, 1) := by decide +kernel
theorem dX7_orderError_118 : decode cX7_orderError 118 = .ok (.aload_n 0, 1) := by decide +kernel
theorem dX7_orderError_119 : decode cX7_orderError 119 = .ok (.getfield 232, 3) := by decide +kernel
theorem dX7_orderError_122 : decode cX7_orderError 122 = .ok (.invokevirtual 159, 3) := by decide +kernel
theorem dX7_orderError_125 : decode cX7_orderError 125 = .ok (.ireturn, 1) := by decide +kernel
theorem dX7_does_0 : decode cX7_does 0 = .ok (.aload_n 0, 1) := by decide +kernel
theorem dX7_does_1 : decode cX7_does 1 = .ok (.getfield 235, 3) := by decide +kernel
theorem dX7_does_4 : decode cX7_does 4 = .ok (.lookupswitch 114 #[(103, 61), (107, 52), (110, 75), (112, 97), (120, 84)], 52) := by decide +kernel
theorem dX7_does_56 : decode cX7_does 56 = .ok (.aload_n 0, 1) := by decide +kernel
theorem dX7_does_57 : decode cX7_does 57 = .ok (.aload_n 0, 1) := by decide +kernel
theorem dX7_does_58 : decode cX7_does 58 = .ok (.getfield 232, 3) := by decide +kernel
theorem dX7_does_61 : decode cX7_does 61 = .ok (.invokevirtual 135, 3) := by decide +kernel
theorem dX7_does_64 : decode cX7_does 64 = .ok (.ireturn, 1) := by decide +kernel
theorem dX7_does_65 : decode cX7_does 65 = .ok (.aload_n 0, 1) := by decide +kernel
theorem dX7_does_66 : decode cX7_does 66 = .ok (.iconst 0, 1) := by decide +kernel
theorem dX7_does_67 : decode cX7_does 67 = .ok (.aload_n 0, 1) := by decide +kernel
theorem dX7_does_68 : decode cX7_does 68 = .ok (.getfield 229, 3) := by decide +kernel
theorem dX7_does_71 : decode cX7_does 71 = .ok (.aload_n 0, 1) := by decide +kernel
theorem dX7_does_72 : decode cX7_does 72 = .ok (.getfield 226, 3) := by decide +kernel
theorem dX7_does_75 : decode cX7_does 75 = .ok (.invokevirtual 93, 3) := by decide +kernel
theorem dX7_does_78 : decode cX7_does 78 = .ok (.ireturn, 1) := by decide +kernel
theorem dX7_does_79 : decode cX7_does 79 = .ok (.aload_n 0, 1) := by decide +kernel
theorem dX7_does_80 : decode cX7_does 80 = .ok (.aload_n 0, 1) := by decide +kernel
theorem dX7_does_81 : decode cX7_does 81 = .ok (.getfield 229, 3) := by decide +kernel
theorem dX7_does_84 : decode cX7_does 84 = .ok (.invokevirtual 144, 3) := by decide +kernel
theorem dX7_does_87 : decode cX7_does 87 = .ok (.ireturn, 1) := by decide +kernel
theorem dX7_does_88 : decode cX7_does 88 = .ok (.aload_n 0, 1) := by decide +kernel
theorem dX7_does_89 : decode cX7_does 89 = .ok (.aload_n 0, 1) := by decide +kernel
theorem dX7_does_90 : decode cX7_does 90 = .ok (.getfield 232, 3) := by decide +kernel
theorem dX7_does_93 : decode cX7_does 93 = .ok (.aload_n 0, 1) := by decide +kernel
theorem dX7_does_94 : decode cX7_does 94 = .ok (.getfield 229, 3) := by decide +kernel
theorem dX7_does_97 : decode cX7_does 97 = .ok (.invokevirtual 150, 3) := by decide +kernel
theorem dX7_does_100 : decode cX7_does 100 = .ok (.ireturn, 1) := by decide +kernel
theorem dX7_does_101 : decode cX7_does 101 = .ok (.aload_n 0, 1) := by decide +kernel
theorem dX7_does_102 : decode cX7_does 102 = .ok (.aload_n 0, 1) := by decide +kernel
theorem dX7_does_103 : decode cX7_does 103 = .ok (.getfield 232, 3) := by decide +kernel
theorem dX7_does_106 : decode cX7_does 106 = .ok (.aload_n 0, 1) := by decide +kernel
theorem dX7_does_107 : decode cX7_does 107 = .ok (.getfield 229, 3) := by decide +kernel
theorem dX7_does_110 : decode cX7_does 110 = .ok (.aload_n 0, 1) := by decide +kernel
theorem dX7_does_111 : decode cX7_does 111 = .ok (.getfield 226, 3) := by decide +kernel
theorem dX7_does_114 : decode cX7_does 114 = .ok (.invokevirtual 156, 3) := by decide +kernel
theorem dX7_does_117 : decode cX7_does 117 = .ok (.ireturn, 1) := by decide +kernel
theorem dX7_does_118 : decode cX7_does 118 = .ok (.aload_n 0, 1) := by decide +kernel
theorem dX7_does_119 : decode cX7_does 119 = .ok (.iconst 0, 1) := by decide +kernel
theorem dX7_does_120 : decode cX7_does 120 = .ok (.aload_n 0, 1) := by decide +kernel
theorem dX7_does_121 : decode cX7_does 121 = .ok (.getfield 232, 3) := by decide +kernel
theorem dX7_does_124 : decode cX7_does 124 = .ok (.invokevirtual 162, 3) := by decide +kernel
theorem dX7_does_127 : decode cX7_does 127 = .ok (.ireturn, 1) := by decide +kernel
theorem dX7_carryOut_0 : decode cX7_carryOut 0 = .ok (.aload_n 0, 1) := by decide +kernel
theorem dX7_carryOut_1 : decode cX7_carryOut 1 = .ok (.invokevirtual 252, 3) := by decide +kernel
theorem dX7_carryOut_4 : decode cX7_carryOut 4 = .ok (.bipush (-6), 2) := by decide +kernel
theorem dX7_carryOut_6 : decode cX7_carryOut 6 = .ok (.if_icmp .eq 6, 3) := by decide +kernel
theorem dX7_carryOut_9 : decode cX7_carryOut 9 = .ok (.bipush (-3), 2) := by decide +kernel
theorem dX7_carryOut_11 : decode cX7_carryOut 11 = .ok (.ireturn, 1) := by decide +kernel
theorem dX7_carryOut_12 : decode cX7_carryOut 12 = .ok (.aload_n 0, 1) := by decide +kernel
theorem dX7_carryOut_13 : decode cX7_carryOut 13 = .ok (.invokevirtual 129, 3) := by decide +kernel
theorem dX7_carryOut_16 : decode cX7_carryOut 16 = .ok (.aload_n 0, 1) := by decide +kernel
theorem dX7_carryOut_17 : decode cX7_carryOut 17 = .ok (.iconst 0, 1) := by decide +kernel
theorem dX7_carryOut_18 : decode cX7_carryOut 18 = .ok (.putfield 211, 3) := by decide +kernel
theorem dX7_carryOut_21 : decode cX7_carryOut 21 = .ok (.iconst 0, 1) := by decide +kernel
theorem dX7_carryOut_22 : decode cX7_carryOut 22 = .ok (.istore_n 1, 1) := by decide +kernel
theorem dX7_carryOut_23 : decode cX7_carryOut 23 = .ok (.iconst 1, 1) := by decide +kernel
theorem dX7_carryOut_24 : decode cX7_carryOut 24 = .ok (.istore_n 2, 1) := by decide +kernel
theorem dX7_carryOut_25 : decode cX7_carryOut 25 = .ok (.iload_n 2, 1) := by decide +kernel
theorem dX7_carryOut_26 : decode cX7_carryOut 26 = .ok (.ifCond .eq 72, 3) := by decide +kernel
theorem dX7_carryOut_29 : decode cX7_carryOut 29 = .ok (.aload_n 0, 1) := by decide +kernel
theorem dX7_carryOut_30 : decode cX7_carryOut 30 = .ok (.invokevirtual 249, 3) := by decide +kernel
theorem dX7_carryOut_33 : decode cX7_carryOut 33 = .ok (.ifCond .eq 14, 3) := by decide +kernel
theorem dX7_carryOut_36 : decode cX7_carryOut 36 = .ok (.aload_n 0, 1) := by decide +kernel
theorem dX7_carryOut_37 : decode cX7_carryOut 37 = .ok (.invokevirtual 255, 3) := by decide +kernel
theorem dX7_carryOut_40 : decode cX7_carryOut 40 = .ok (.ifCond .ne 7, 3) := by decide +kernel
theorem dX7_carryOut_43 : decode cX7_carryOut 43 = .ok (.iconst 1, 1) := by decide +kernel
theorem dX7_carryOut_44 : decode cX7_carryOut 44 = .ok (.goto 4, 3) := by decide +kernel
theorem dX7_carryOut_47 : decode cX7_carryOut 47 = .ok (.iconst 0, 1) := by decide +kernel
theorem dX7_carryOut_48 : decode cX7_carryOut 48 = .ok (.istore_n 3, 1) := by decide +kernel
theorem dX7_carryOut_49 : decode cX7_carryOut 49 = .ok (.iload_n 3, 1) := by decide +kernel
theorem dX7_carryOut_50 : decode cX7_carryOut 50 = .ok (.ifCond .eq 10, 3) := by decide +kernel
theorem dX7_carryOut_53 : decode cX7_carryOut 53 = .ok (.aload_n 0, 1) := by decide +kernel
theorem dX7_carryOut_54 : decode cX7_carryOut 54 = .ok (.invokevirtual 258, 3) := by decide +kernel
theorem dX7_carryOut_57 : decode cX7_carryOut 57 = .ok (.goto 5, 3) := by decide +kernel
theorem dX7_carryOut_60 : decode cX7_carryOut 60 = .ok (.bipush (-6), 2) := by decide +kernel
theorem dX7_carryOut_62 : decode cX7_carryOut 62 = .ok (.istore 4, 2) := by decide +kernel
theorem dX7_carryOut_64 : decode cX7_carryOut 64 = .ok (.iload_n 1, 1) := by decide +kernel
theorem dX7_carryOut_65 : decode cX7_carryOut 65 = .ok (.iload_n 3, 1) := by decide +kernel
theorem dX7_carryOut_66 : decode cX7_carryOut 66 = .ok (.ifCond .eq 7, 3) := by decide +kernel
theorem dX7_carryOut_69 : decode cX7_carryOut 69 = .ok (.iconst 1, 1) := by decide +kernel
theorem dX7_carryOut_70 : decode cX7_carryOut 70 = .ok (.goto 4, 3) := by decide +kernel
theorem dX7_carryOut_73 : decode cX7_carryOut 73 = .ok (.iconst 0, 1) := by decide +kernel
theorem dX7_carryOut_74 : decode cX7_carryOut 74 = .ok (.iadd, 1) := by decide +kernel
theorem dX7_carryOut_75 : decode cX7_carryOut 75 = .ok (.istore_n 1, 1) := by decide +kernel
theorem dX7_carryOut_76 : decode cX7_carryOut 76 = .ok (.iload_n 3, 1) := by decide +kernel
theorem dX7_carryOut_77 : decode cX7_carryOut 77 = .ok (.ifCond .eq 16, 3) := by decide +kernel
theorem dX7_carryOut_80 : decode cX7_carryOut 80 = .ok (.aload_n 0, 1) := by decide +kernel
theorem dX7_carryOut_81 : decode cX7_carryOut 81 = .ok (.bipush 59, 2) := by decide +kernel
theorem dX7_carryOut_83 : decode cX7_carryOut 83 = .ok (.invokevirtual 220, 3) := by decide +kernel
theorem dX7_carryOut_86 : decode cX7_carryOut 86 = .ok (.ifCond .eq 7, 3) := by decide +kernel
theorem dX7_carryOut_89 : decode cX7_carryOut 89 = .ok (.iconst 1, 1) := by decide +kernel
theorem dX7_carryOut_90 : decode cX7_carryOut 90 = .ok (.goto 4, 3) := by decide +kernel
theorem dX7_carryOut_93 : decode cX7_carryOut 93 = .ok (.iconst 0, 1) := by decide +kernel
theorem dX7_carryOut_94 : decode cX7_carryOut 94 = .ok (.istore_n 2, 1) := by decide +kernel
theorem dX7_carryOut_95 : decode cX7_carryOut 95 = .ok (.goto (-70), 3) := by decide +kernel
theorem dX7_carryOut_98 : decode cX7_carryOut 98 = .ok (.aload_n 0, 1) := by decide +kernel
theorem dX7_carryOut_99 : decode cX7_carryOut 99 = .ok (.iconst 0, 1) := by decide +kernel
theorem dX7_carryOut_100 : decode cX7_carryOut 100 = .ok (.putfield 193, 3) := by decide +kernel
theorem dX7_carryOut_103 : decode cX7_carryOut 103 = .ok (.iload_n 1, 1) := by decide +kernel
theorem dX7_carryOut_104 : decode cX7_carryOut 104 = .ok (.ireturn, 1) := by decide +kernel
theorem dX7_undo_0 : decode cX7_undo 0 = .ok (.aload_n 0, 1) := by decide +kernel
theorem dX7_undo_1 : decode cX7_undo 1 = .ok (.getfield 20, 3) := by decide +kernel
theorem dX7_undo_4 : decode cX7_undo 4 = .ok (.ifCond .ne 6, 3) := by decide +kernel
theorem dX7_undo_7 : decode cX7_undo 7 = .ok (.bipush (-5), 2) := by decide +kernel
theorem dX7_undo_9 : decode cX7_undo 9 = .ok (.ireturn, 1) := by decide +kernel
theorem dX7_undo_10 : decode cX7_undo 10 = .ok (.aload_n 0, 1) := by decide +kernel
theorem dX7_undo_11 : decode cX7_undo 11 = .ok (.aload_n 0, 1) := by decide +kernel
theorem dX7_undo_12 : decode cX7_undo 12 = .ok (.getfield 20, 3) := by decide +kernel
theorem dX7_undo_15 : decode cX7_undo 15 = .ok (.iconst 0, 1) := by decide +kernel
theorem dX7_undo_16 : decode cX7_undo 16 = .ok (.invokevirtual 24, 3) := by decide +kernel
theorem dX7_undo_19 : decode cX7_undo 19 = .ok (.aload_n 0, 1) := by decide +kernel
theorem dX7_undo_20 : decode cX7_undo 20 = .ok (.dup, 1) := by decide +kernel
theorem dX7_undo_21 : decode cX7_undo 21 = .ok (.getfield 20, 3) := by decide +kernel
theorem dX7_undo_24 : decode cX7_undo 24 = .ok (.iconst 1, 1) := by decide +kernel
theorem dX7_undo_25 : decode cX7_undo 25 = .ok (.isub, 1) := by decide +kernel
theorem dX7_undo_26 : decode cX7_undo 26 = .ok (.putfield 20, 3) := by decide +kernel
theorem dX7_undo_29 : decode cX7_undo 29 = .ok (.aload_n 0, 1) := by decide +kernel
theorem dX7_undo_30 : decode cX7_undo 30 = .ok (.getfield 20, 3) := by decide +kernel
theorem dX7_undo_33 : decode cX7_undo 33 = .ok (.ireturn, 1) := by decide +kernel
theorem dX7_isSlot_0 : decode cX7_isSlot 0 = .ok (.iload_n 0, 1) := by decide +kernel
theorem dX7_isSlot_1 : decode cX7_isSlot 1 = .ok (.ifCond .eq 8, 3) := by decide +kernel
theorem dX7_isSlot_4 : decode cX7_isSlot 4 = .ok (.iload_n 0, 1) := by decide +kernel
theorem dX7_isSlot_5 : decode cX7_isSlot 5 = .ok (.iconst 1, 1) := by decide +kernel
theorem dX7_isSlot_6 : decode cX7_isSlot 6 = .ok (.if_icmp .ne 7, 3) := by decide +kernel
theorem dX7_isSlot_9 : decode cX7_isSlot 9 = .ok (.iconst 1, 1) := by decide +kernel
theorem dX7_isSlot_10 : decode cX7_isSlot 10 = .ok (.goto 4, 3) := by decide +kernel
theorem dX7_isSlot_13 : decode cX7_isSlot 13 = .ok (.iconst 0, 1) := by decide +kernel
theorem dX7_isSlot_14 : decode cX7_isSlot 14 = .ok (.ireturn, 1) := by decide +kernel
theorem dX7_save_0 : decode cX7_save 0 = .ok (.iload_n 1, 1) := by decide +kernel
theorem dX7_save_1 : decode cX7_save 1 = .ok (.invokestatic 261, 3) := by decide +kernel
theorem dX7_save_4 : decode cX7_save 4 = .ok (.ifCond .ne 6, 3) := by decide +kernel
theorem dX7_save_7 : decode cX7_save 7 = .ok (.bipush (-2), 2) := by decide +kernel
theorem dX7_save_9 : decode cX7_save 9 = .ok (.ireturn, 1) := by decide +kernel
theorem dX7_save_10 : decode cX7_save 10 = .ok (.aload_n 0, 1) := by decide +kernel
theorem dX7_save_11 : decode cX7_save 11 = .ok (.iconst 0, 1) := by decide +kernel
theorem dX7_save_12 : decode cX7_save 12 = .ok (.bipush 7, 2) := by decide +kernel
theorem dX7_save_14 : decode cX7_save 14 = .ok (.iload_n 1, 1) := by decide +kernel
theorem dX7_save_15 : decode cX7_save 15 = .ok (.iadd, 1) := by decide +kernel
theorem dX7_save_16 : decode cX7_save 16 = .ok (.invokevirtual 24, 3) := by decide +kernel
theorem dX7_save_19 : decode cX7_save 19 = .ok (.aload_n 0, 1) := by decide +kernel
theorem dX7_save_20 : decode cX7_save 20 = .ok (.getfield 13, 3) := by decide +kernel
theorem dX7_save_23 : decode cX7_save 23 = .ok (.iload_n 1, 1) := by decide +kernel
theorem dX7_save_24 : decode cX7_save 24 = .ok (.iconst 1, 1) := by decide +kernel
theorem dX7_save_25 : decode cX7_save 25 = .ok (.bastore, 1) := by decide +kernel
theorem dX7_save_26 : decode cX7_save 26 = .ok (.aload_n 0, 1) := by decide +kernel
theorem dX7_save_27 : decode cX7_save 27 = .ok (.getfield 7, 3) := by decide +kernel
theorem dX7_save_30 : decode cX7_save 30 = .ok (.iconst 5, 1) := by decide +kernel
theorem dX7_save_31 : decode cX7_save 31 = .ok (.iaload, 1) := by decide +kernel
theorem dX7_save_32 : decode cX7_save 32 = .ok (.ireturn, 1) := by decide +kernel
theorem dX7_restore_0 : decode cX7_restore 0 = .ok (.iload_n 1, 1) := by decide +kernel
theorem dX7_restore_1 : decode cX7_restore 1 = .ok (.invokestatic 261, 3) := by decide +kernel
theorem dX7_restore_4 : decode cX7_restore 4 = .ok (.ifCond .ne 6, 3) := by decide +kernel
theorem dX7_restore_7 : decode cX7_restore 7 = .ok (.bipush (-2), 2) := by decide +kernel
theorem dX7_restore_9 : decode cX7_restore 9 = .ok (.ireturn, 1) := by decide +kernel
theorem dX7_restore_10 : decode cX7_restore 10 = .ok (.aload_n 0, 1) := by decide +kernel
theorem dX7_restore_11 : decode cX7_restore 11 = .ok (.getfield 13, 3) := by decide +kernel
theorem dX7_restore_14 : decode cX7_restore 14 = .ok (.iload_n 1, 1) := by decide +kernel
theorem dX7_restore_15 : decode cX7_restore 15 = .ok (.baload, 1) := by decide +kernel
theorem dX7_restore_16 : decode cX7_restore 16 = .ok (.ifCond .ne 6, 3) := by decide +kernel
theorem dX7_restore_19 : decode cX7_restore 19 = .ok (.bipush (-5), 2) := by decide +kernel
theorem dX7_restore_21 : decode cX7_restore 21 = .ok (.ireturn, 1) := by decide +kernel
theorem dX7_restore_22 : decode cX7_restore 22 = .ok (.aload_n 0, 1) := by decide +kernel
theorem dX7_restore_23 : decode cX7_restore 23 = .ok (.invokevirtual 129, 3) := by decide +kernel
theorem dX7_restore_26 : decode cX7_restore 26 = .ok (.aload_n 0, 1) := by decide +kernel
theorem dX7_restore_27 : decode cX7_restore 27 = .ok (.bipush 7, 2) := by decide +kernel
theorem dX7_restore_29 : decode cX7_restore 29 = .ok (.iload_n 1, 1) := by decide +kernel
theorem dX7_restore_30 : decode cX7_restore 30 = .ok (.iadd, 1) := by decide +kernel
theorem dX7_restore_31 : decode cX7_restore 31 = .ok (.iconst 0, 1) := by decide +kernel
theorem dX7_restore_32 : decode cX7_restore 32 = .ok (.invokevirtual 24, 3) := by decide +kernel
theorem dX7_restore_35 : decode cX7_restore 35 = .ok (.aload_n 0, 1) := by decide +kernel
theorem dX7_restore_36 : decode cX7_restore 36 = .ok (.getfield 7, 3) := by decide +kernel
theorem dX7_restore_39 : decode cX7_restore 39 = .ok (.iconst 5, 1) := by decide +kernel
theorem dX7_restore_40 : decode cX7_restore 40 = .ok (.iaload, 1) := by decide +kernel
theorem dX7_restore_41 : decode cX7_restore 41 = .ok (.ireturn, 1) := by decide +kernel
