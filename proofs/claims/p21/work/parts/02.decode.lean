theorem dX0_init_0 : decode cX0_init 0 = .ok (.aload_n 0, 1) := by decide +kernel
theorem dX0_init_1 : decode cX0_init 1 = .ok (.invokespecial 3, 3) := by decide +kernel
theorem dX0_init_4 : decode cX0_init 4 = .ok (.aload_n 0, 1) := by decide +kernel
theorem dX0_init_5 : decode cX0_init 5 = .ok (.sipush 672, 3) := by decide +kernel
theorem dX0_init_8 : decode cX0_init 8 = .ok (.newarray .int, 2) := by decide +kernel
theorem dX0_init_10 : decode cX0_init 10 = .ok (.putfield 11, 3) := by decide +kernel
theorem dX0_init_13 : decode cX0_init 13 = .ok (.return_, 1) := by decide +kernel
theorem dX0_size_0 : decode cX0_size 0 = .ok (.aload_n 0, 1) := by decide +kernel
theorem dX0_size_1 : decode cX0_size 1 = .ok (.getfield 15, 3) := by decide +kernel
theorem dX0_size_4 : decode cX0_size 4 = .ok (.ireturn, 1) := by decide +kernel
theorem dX0_record_0 : decode cX0_record 0 = .ok (.aload_n 0, 1) := by decide +kernel
theorem dX0_record_1 : decode cX0_record 1 = .ok (.getfield 15, 3) := by decide +kernel
theorem dX0_record_4 : decode cX0_record 4 = .ok (.iconst 4, 1) := by decide +kernel
theorem dX0_record_5 : decode cX0_record 5 = .ok (.if_icmp .lt 26, 3) := by decide +kernel
theorem dX0_record_8 : decode cX0_record 8 = .ok (.aload_n 0, 1) := by decide +kernel
theorem dX0_record_9 : decode cX0_record 9 = .ok (.getfield 11, 3) := by decide +kernel
theorem dX0_record_12 : decode cX0_record 12 = .ok (.sipush 168, 3) := by decide +kernel
theorem dX0_record_15 : decode cX0_record 15 = .ok (.aload_n 0, 1) := by decide +kernel
theorem dX0_record_16 : decode cX0_record 16 = .ok (.getfield 11, 3) := by decide +kernel
theorem dX0_record_19 : decode cX0_record 19 = .ok (.iconst 0, 1) := by decide +kernel
theorem dX0_record_20 : decode cX0_record 20 = .ok (.sipush 504, 3) := by decide +kernel
theorem dX0_record_23 : decode cX0_record 23 = .ok (.invokestatic 19, 3) := by decide +kernel
theorem dX0_record_26 : decode cX0_record 26 = .ok (.aload_n 0, 1) := by decide +kernel
theorem dX0_record_27 : decode cX0_record 27 = .ok (.iconst 3, 1) := by decide +kernel
theorem dX0_record_28 : decode cX0_record 28 = .ok (.putfield 15, 3) := by decide +kernel
theorem dX0_record_31 : decode cX0_record 31 = .ok (.aload_n 0, 1) := by decide +kernel
theorem dX0_record_32 : decode cX0_record 32 = .ok (.getfield 15, 3) := by decide +kernel
theorem dX0_record_35 : decode cX0_record 35 = .ok (.sipush 168, 3) := by decide +kernel
theorem dX0_record_38 : decode cX0_record 38 = .ok (.imul, 1) := by decide +kernel
theorem dX0_record_39 : decode cX0_record 39 = .ok (.istore 4, 2) := by decide +kernel
theorem dX0_record_41 : decode cX0_record 41 = .ok (.aload_n 1, 1) := by decide +kernel
theorem dX0_record_42 : decode cX0_record 42 = .ok (.aload_n 0, 1) := by decide +kernel
theorem dX0_record_43 : decode cX0_record 43 = .ok (.getfield 11, 3) := by decide +kernel
theorem dX0_record_46 : decode cX0_record 46 = .ok (.iload 4, 2) := by decide +kernel
theorem dX0_record_48 : decode cX0_record 48 = .ok (.invokevirtual 25, 3) := by decide +kernel
theorem dX0_record_51 : decode cX0_record 51 = .ok (.aload_n 2, 1) := by decide +kernel
theorem dX0_record_52 : decode cX0_record 52 = .ok (.aload_n 0, 1) := by decide +kernel
theorem dX0_record_53 : decode cX0_record 53 = .ok (.getfield 11, 3) := by decide +kernel
theorem dX0_record_56 : decode cX0_record 56 = .ok (.iload 4, 2) := by decide +kernel
theorem dX0_record_58 : decode cX0_record 58 = .ok (.bipush 56, 2) := by decide +kernel
theorem dX0_record_60 : decode cX0_record 60 = .ok (.iadd, 1) := by decide +kernel
theorem dX0_record_61 : decode cX0_record 61 = .ok (.invokevirtual 25, 3) := by decide +kernel
theorem dX0_record_64 : decode cX0_record 64 = .ok (.aload_n 3, 1) := by decide +kernel
theorem dX0_record_65 : decode cX0_record 65 = .ok (.aload_n 0, 1) := by decide +kernel
theorem dX0_record_66 : decode cX0_record 66 = .ok (.getfield 11, 3) := by decide +kernel
theorem dX0_record_69 : decode cX0_record 69 = .ok (.iload 4, 2) := by decide +kernel
theorem dX0_record_71 : decode cX0_record 71 = .ok (.bipush 112, 2) := by decide +kernel
theorem dX0_record_73 : decode cX0_record 73 = .ok (.iadd, 1) := by decide +kernel
theorem dX0_record_74 : decode cX0_record 74 = .ok (.invokevirtual 25, 3) := by decide +kernel
theorem dX0_record_77 : decode cX0_record 77 = .ok (.aload_n 0, 1) := by decide +kernel
theorem dX0_record_78 : decode cX0_record 78 = .ok (.dup, 1) := by decide +kernel
theorem dX0_record_79 : decode cX0_record 79 = .ok (.getfield 15, 3) := by decide +kernel
theorem dX0_record_82 : decode cX0_record 82 = .ok (.iconst 1, 1) := by decide +kernel
theorem dX0_record_83 : decode cX0_record 83 = .ok (.iadd, 1) := by decide +kernel
theorem dX0_record_84 : decode cX0_record 84 = .ok (.putfield 15, 3) := by decide +kernel
theorem dX0_record_87 : decode cX0_record 87 = .ok (.return_, 1) := by decide +kernel
theorem dX0_restore_0 : decode cX0_restore 0 = .ok (.aload_n 0, 1) := by decide +kernel
theorem dX0_restore_1 : decode cX0_restore 1 = .ok (.getfield 15, 3) := by decide +kernel
theorem dX0_restore_4 : decode cX0_restore 4 = .ok (.ifCond .le 59, 3) := by decide +kernel
theorem dX0_restore_7 : decode cX0_restore 7 = .ok (.aload_n 0, 1) := by decide +kernel
theorem dX0_restore_8 : decode cX0_restore 8 = .ok (.dup, 1) := by decide +kernel
theorem dX0_restore_9 : decode cX0_restore 9 = .ok (.getfield 15, 3) := by decide +kernel
theorem dX0_restore_12 : decode cX0_restore 12 = .ok (.iconst 1, 1) := by decide +kernel
theorem dX0_restore_13 : decode cX0_restore 13 = .ok (.isub, 1) := by decide +kernel
theorem dX0_restore_14 : decode cX0_restore 14 = .ok (.putfield 15, 3) := by decide +kernel
theorem dX0_restore_17 : decode cX0_restore 17 = .ok (.aload_n 0, 1) := by decide +kernel
theorem dX0_restore_18 : decode cX0_restore 18 = .ok (.getfield 15, 3) := by decide +kernel
theorem dX0_restore_21 : decode cX0_restore 21 = .ok (.sipush 168, 3) := by decide +kernel
theorem dX0_restore_24 : decode cX0_restore 24 = .ok (.imul, 1) := by decide +kernel
theorem dX0_restore_25 : decode cX0_restore 25 = .ok (.istore 4, 2) := by decide +kernel
theorem dX0_restore_27 : decode cX0_restore 27 = .ok (.aload_n 1, 1) := by decide +kernel
theorem dX0_restore_28 : decode cX0_restore 28 = .ok (.aload_n 0, 1) := by decide +kernel
theorem dX0_restore_29 : decode cX0_restore 29 = .ok (.getfield 11, 3) := by decide +kernel
theorem dX0_restore_32 : decode cX0_restore 32 = .ok (.iload 4, 2) := by decide +kernel
theorem dX0_restore_34 : decode cX0_restore 34 = .ok (.invokevirtual 29, 3) := by decide +kernel
theorem dX0_restore_37 : decode cX0_restore 37 = .ok (.aload_n 2, 1) := by decide +kernel
theorem dX0_restore_38 : decode cX0_restore 38 = .ok (.aload_n 0, 1) := by decide +kernel
theorem dX0_restore_39 : decode cX0_restore 39 = .ok (.getfield 11, 3) := by decide +kernel
theorem dX0_restore_42 : decode cX0_restore 42 = .ok (.iload 4, 2) := by decide +kernel
theorem dX0_restore_44 : decode cX0_restore 44 = .ok (.bipush 56, 2) := by decide +kernel
theorem dX0_restore_46 : decode cX0_restore 46 = .ok (.iadd, 1) := by decide +kernel
theorem dX0_restore_47 : decode cX0_restore 47 = .ok (.invokevirtual 29, 3) := by decide +kernel
theorem dX0_restore_50 : decode cX0_restore 50 = .ok (.aload_n 3, 1) := by decide +kernel
theorem dX0_restore_51 : decode cX0_restore 51 = .ok (.aload_n 0, 1) := by decide +kernel
theorem dX0_restore_52 : decode cX0_restore 52 = .ok (.getfield 11, 3) := by decide +kernel
theorem dX0_restore_55 : decode cX0_restore 55 = .ok (.iload 4, 2) := by decide +kernel
theorem dX0_restore_57 : decode cX0_restore 57 = .ok (.bipush 112, 2) := by decide +kernel
theorem dX0_restore_59 : decode cX0_restore 59 = .ok (.iadd, 1) := by decide +kernel
theorem dX0_restore_60 : decode cX0_restore 60 = .ok (.invokevirtual 29, 3) := by decide +kernel
theorem dX0_restore_63 : decode cX0_restore 63 = .ok (.return_, 1) := by decide +kernel
theorem dX1_init_0 : decode cX1_init 0 = .ok (.aload_n 0, 1) := by decide +kernel
theorem dX1_init_1 : decode cX1_init 1 = .ok (.invokespecial 3, 3) := by decide +kernel
theorem dX1_init_4 : decode cX1_init 4 = .ok (.aload_n 0, 1) := by decide +kernel
theorem dX1_init_5 : decode cX1_init 5 = .ok (.bipush 64, 2) := by decide +kernel
theorem dX1_init_7 : decode cX1_init 7 = .ok (.newarray .boolean, 2) := by decide +kernel
theorem dX1_init_9 : decode cX1_init 9 = .ok (.putfield 9, 3) := by decide +kernel
theorem dX1_init_12 : decode cX1_init 12 = .ok (.return_, 1) := by decide +kernel
theorem dX1_compare_0 : decode cX1_compare 0 = .ok (.iconst 0, 1) := by decide +kernel
theorem dX1_compare_1 : decode cX1_compare 1 = .ok (.istore_n 2, 1) := by decide +kernel
theorem dX1_compare_2 : decode cX1_compare 2 = .ok (.iload_n 2, 1) := by decide +kernel
theorem dX1_compare_3 : decode cX1_compare 3 = .ok (.bipush 8, 2) := by decide +kernel
theorem dX1_compare_5 : decode cX1_compare 5 = .ok (.if_icmp .ge 40, 3) := by decide +kernel
theorem dX1_compare_8 : decode cX1_compare 8 = .ok (.iconst 0, 1) := by decide +kernel
theorem dX1_compare_9 : decode cX1_compare 9 = .ok (.istore_n 3, 1) := by decide +kernel
theorem dX1_compare_10 : decode cX1_compare 10 = .ok (.iload_n 3, 1) := by decide +kernel
theorem dX1_compare_11 : decode cX1_compare 11 = .ok (.bipush 8, 2) := by decide +kernel
theorem dX1_compare_13 : decode cX1_compare 13 = .ok (.if_icmp .ge 26, 3) := by decide +kernel
theorem dX1_compare_16 : decode cX1_compare 16 = .ok (.aload_n 0, 1) := by decide +kernel
theorem dX1_compare_17 : decode cX1_compare 17 = .ok (.getfield 9, 3) := by decide +kernel
theorem dX1_compare_20 : decode cX1_compare 20 = .ok (.iload_n 2, 1) := by decide +kernel
theorem dX1_compare_21 : decode cX1_compare 21 = .ok (.bipush 8, 2) := by decide +kernel
theorem dX1_compare_23 : decode cX1_compare 23 = .ok (.imul, 1) := by decide +kernel
theorem dX1_compare_24 : decode cX1_compare 24 = .ok (.iload_n 3, 1) := by decide +kernel
theorem dX1_compare_25 : decode cX1_compare 25 = .ok (.iadd, 1) := by decide +kernel
theorem dX1_compare_26 : decode cX1_compare 26 = .ok (.aload_n 1, 1) := by decide +kernel
theorem dX1_compare_27 : decode cX1_compare 27 = .ok (.iload_n 2, 1) := by decide +kernel
theorem dX1_compare_28 : decode cX1_compare 28 = .ok (.iload_n 3, 1) := by decide +kernel
theorem dX1_compare_29 : decode cX1_compare 29 = .ok (.invokestatic 15, 3) := by decide +kernel
theorem dX1_compare_32 : decode cX1_compare 32 = .ok (.bastore, 1) := by decide +kernel
theorem dX1_compare_33 : decode cX1_compare 33 = .ok (.iinc 3 1, 3) := by decide +kernel
theorem dX1_compare_36 : decode cX1_compare 36 = .ok (.goto (-26), 3) := by decide +kernel
theorem dX1_compare_39 : decode cX1_compare 39 = .ok (.iinc 2 1, 3) := by decide +kernel
theorem dX1_compare_42 : decode cX1_compare 42 = .ok (.goto (-40), 3) := by decide +kernel
theorem dX1_compare_45 : decode cX1_compare 45 = .ok (.iconst 1, 1) := by decide +kernel
theorem dX1_compare_46 : decode cX1_compare 46 = .ok (.istore_n 2, 1) := by decide +kernel
theorem dX1_compare_47 : decode cX1_compare 47 = .ok (.iload_n 2, 1) := by decide +kernel
theorem dX1_compare_48 : decode cX1_compare 48 = .ok (.bipush 8, 2) := by decide +kernel
theorem dX1_compare_50 : decode cX1_compare 50 = .ok (.if_icmp .ge 14, 3) := by decide +kernel
theorem dX1_compare_53 : decode cX1_compare 53 = .ok (.aload_n 0, 1) := by decide +kernel
theorem dX1_compare_54 : decode cX1_compare 54 = .ok (.aload_n 1, 1) := by decide +kernel
theorem dX1_compare_55 : decode cX1_compare 55 = .ok (.invokevirtual 19, 3) := by decide +kernel
theorem dX1_compare_58 : decode cX1_compare 58 = .ok (.iinc 2 1, 3) := by decide +kernel
theorem dX1_compare_61 : decode cX1_compare 61 = .ok (.goto (-14), 3) := by decide +kernel
theorem dX1_compare_64 : decode cX1_compare 64 = .ok (.return_, 1) := by decide +kernel
theorem dX1_part_0 : decode cX1_part 0 = .ok (.iconst 0, 1) := by decide +kernel
theorem dX1_part_1 : decode cX1_part 1 = .ok (.istore_n 2, 1) := by decide +kernel
theorem dX1_part_2 : decode cX1_part 2 = .ok (.iload_n 2, 1) := by decide +kernel
theorem dX1_part_3 : decode cX1_part 3 = .ok (.bipush 8, 2) := by decide +kernel
theorem dX1_part_5 : decode cX1_part 5 = .ok (.if_icmp .ge 45, 3) := by decide +kernel
theorem dX1_part_8 : decode cX1_part 8 = .ok (.iconst 0, 1) := by decide +kernel
theorem dX1_part_9 : decode cX1_part 9 = .ok (.istore_n 3, 1) := by decide +kernel
theorem dX1_part_10 : decode cX1_part 10 = .ok (.iload_n 3, 1) := by decide +kernel
theorem dX1_part_11 : decode cX1_part 11 = .ok (.bipush 8, 2) := by decide +kernel
theorem dX1_part_13 : decode cX1_part 13 = .ok (.if_icmp .ge 31, 3) := by decide +kernel
theorem dX1_part_16 : decode cX1_part 16 = .ok (.aload_n 0, 1) := by decide +kernel
theorem dX1_part_17 : decode cX1_part 17 = .ok (.aload_n 1, 1) := by decide +kernel
theorem dX1_part_18 : decode cX1_part 18 = .ok (.iload_n 2, 1) := by decide +kernel
theorem dX1_part_19 : decode cX1_part 19 = .ok (.iload_n 3, 1) := by decide +kernel
theorem dX1_part_20 : decode cX1_part 20 = .ok (.invokevirtual 23, 3) := by decide +kernel
theorem dX1_part_23 : decode cX1_part 23 = .ok (.ifCond .ne 15, 3) := by decide +kernel
theorem dX1_part_26 : decode cX1_part 26 = .ok (.aload_n 0, 1) := by decide +kernel
theorem dX1_part_27 : decode cX1_part 27 = .ok (.getfield 9, 3) := by decide +kernel
theorem dX1_part_30 : decode cX1_part 30 = .ok (.iload_n 2, 1) := by decide +kernel
theorem dX1_part_31 : decode cX1_part 31 = .ok (.bipush 8, 2) := by decide +kernel
theorem dX1_part_33 : decode cX1_part 33 = .ok (.imul, 1) := by decide +kernel
theorem dX1_part_34 : decode cX1_part 34 = .ok (.iload_n 3, 1) := by decide +kernel
theorem dX1_part_35 : decode cX1_part 35 = .ok (.iadd, 1) := by decide +kernel
theorem dX1_part_36 : decode cX1_part 36 = .ok (.iconst 0, 1) := by decide +kernel
theorem dX1_part_37 : decode cX1_part 37 = .ok (.bastore, 1) := by decide +kernel
theorem dX1_part_38 : decode cX1_part 38 = .ok (.iinc 3 1, 3) := by decide +kernel
theorem dX1_part_41 : decode cX1_part 41 = .ok (.goto (-31), 3) := by decide +kernel
theorem dX1_part_44 : decode cX1_part 44 = .ok (.iinc 2 1, 3) := by decide +kernel
theorem dX1_part_47 : decode cX1_part 47 = .ok (.goto (-45), 3) := by decide +kernel
theorem dX1_part_50 : decode cX1_part 50 = .ok (.return_, 1) := by decide +kernel
theorem dX1_looksAlike_0 : decode cX1_looksAlike 0 = .ok (.aload_n 0, 1) := by decide +kernel
theorem dX1_looksAlike_1 : decode cX1_looksAlike 1 = .ok (.iload_n 1, 1) := by decide +kernel
theorem dX1_looksAlike_2 : decode cX1_looksAlike 2 = .ok (.invokevirtual 26, 3) := by decide +kernel
theorem dX1_looksAlike_5 : decode cX1_looksAlike 5 = .ok (.istore_n 3, 1) := by decide +kernel
theorem dX1_looksAlike_6 : decode cX1_looksAlike 6 = .ok (.iload_n 3, 1) := by decide +kernel
theorem dX1_looksAlike_7 : decode cX1_looksAlike 7 = .ok (.aload_n 0, 1) := by decide +kernel
theorem dX1_looksAlike_8 : decode cX1_looksAlike 8 = .ok (.iload_n 2, 1) := by decide +kernel
theorem dX1_looksAlike_9 : decode cX1_looksAlike 9 = .ok (.invokevirtual 26, 3) := by decide +kernel
theorem dX1_looksAlike_12 : decode cX1_looksAlike 12 = .ok (.if_icmp .ne 24, 3) := by decide +kernel
theorem dX1_looksAlike_15 : decode cX1_looksAlike 15 = .ok (.iload_n 3, 1) := by decide +kernel
theorem dX1_looksAlike_16 : decode cX1_looksAlike 16 = .ok (.ifCond .eq 16, 3) := by decide +kernel
theorem dX1_looksAlike_19 : decode cX1_looksAlike 19 = .ok (.aload_n 0, 1) := by decide +kernel
theorem dX1_looksAlike_20 : decode cX1_looksAlike 20 = .ok (.iload_n 1, 1) := by decide +kernel
theorem dX1_looksAlike_21 : decode cX1_looksAlike 21 = .ok (.invokevirtual 32, 3) := by decide +kernel
theorem dX1_looksAlike_24 : decode cX1_looksAlike 24 = .ok (.aload_n 0, 1) := by decide +kernel
theorem dX1_looksAlike_25 : decode cX1_looksAlike 25 = .ok (.iload_n 2, 1) := by decide +kernel
theorem dX1_looksAlike_26 : decode cX1_looksAlike 26 = .ok (.invokevirtual 32, 3) := by decide +kernel
theorem dX1_looksAlike_29 : decode cX1_looksAlike 29 = .ok (.if_icmp .ne 7, 3) := by decide +kernel
theorem dX1_looksAlike_32 : decode cX1_looksAlike 32 = .ok (.iconst 1, 1) := by decide +kernel
theorem dX1_looksAlike_33 : decode cX1_looksAlike 33 = .ok (.goto 4, 3) := by decide +kernel
theorem dX1_looksAlike_36 : decode cX1_looksAlike 36 = .ok (.iconst 0, 1) := by decide +kernel
theorem dX1_looksAlike_37 : decode cX1_looksAlike 37 = .ok (.ireturn, 1) := by decide +kernel
theorem dX1_leadsAlike_0 : decode cX1_leadsAlike 0 = .ok (.aload_n 1, 1) := by decide +kernel
theorem dX1_leadsAlike_1 : decode cX1_leadsAlike 1 = .ok (.iload_n 2, 1) := by decide +kernel
theorem dX1_leadsAlike_2 : decode cX1_leadsAlike 2 = .ok (.invokevirtual 26, 3) := by decide +kernel
theorem dX1_leadsAlike_5 : decode cX1_leadsAlike 5 = .ok (.ifCond .ne 5, 3) := by decide +kernel
theorem dX1_leadsAlike_8 : decode cX1_leadsAlike 8 = .ok (.iconst 1, 1) := by decide +kernel
theorem dX1_leadsAlike_9 : decode cX1_leadsAlike 9 = .ok (.ireturn, 1) := by decide +kernel
theorem dX1_leadsAlike_10 : decode cX1_leadsAlike 10 = .ok (.iconst 0, 1) := by decide +kernel
theorem dX1_leadsAlike_11 : decode cX1_leadsAlike 11 = .ok (.istore 4, 2) := by decide +kernel
theorem dX1_leadsAlike_13 : decode cX1_leadsAlike 13 = .ok (.iload 4, 2) := by decide +kernel
theorem dX1_leadsAlike_15 : decode cX1_leadsAlike 15 = .ok (.bipush 6, 2) := by decide +kernel
theorem dX1_leadsAlike_17 : decode cX1_leadsAlike 17 = .ok (.if_icmp .ge 52, 3) := by decide +kernel
theorem dX1_leadsAlike_20 : decode cX1_leadsAlike 20 = .ok (.aload_n 1, 1) := by decide +kernel
theorem dX1_leadsAlike_21 : decode cX1_leadsAlike 21 = .ok (.iload_n 2, 1) := by decide +kernel
theorem dX1_leadsAlike_22 : decode cX1_leadsAlike 22 = .ok (.iload 4, 2) := by decide +kernel
theorem dX1_leadsAlike_24 : decode cX1_leadsAlike 24 = .ok (.invokevirtual 35, 3) := by decide +kernel
theorem dX1_leadsAlike_27 : decode cX1_leadsAlike 27 = .ok (.istore 5, 2) := by decide +kernel
theorem dX1_leadsAlike_29 : decode cX1_leadsAlike 29 = .ok (.aload_n 1, 1) := by decide +kernel
theorem dX1_leadsAlike_30 : decode cX1_leadsAlike 30 = .ok (.iload_n 3, 1) := by decide +kernel
theorem dX1_leadsAlike_31 : decode cX1_leadsAlike 31 = .ok (.iload 4, 2) := by decide +kernel
theorem dX1_leadsAlike_33 : decode cX1_leadsAlike 33 = .ok (.invokevirtual 35, 3) := by decide +kernel
theorem dX1_leadsAlike_36 : decode cX1_leadsAlike 36 = .ok (.istore 6, 2) := by decide +kernel
theorem dX1_leadsAlike_38 : decode cX1_leadsAlike 38 = .ok (.iload 5, 2) := by decide +kernel
theorem dX1_leadsAlike_40 : decode cX1_leadsAlike 40 = .ok (.iconst (-1), 1) := by decide +kernel
theorem dX1_leadsAlike_41 : decode cX1_leadsAlike 41 = .ok (.if_icmp .eq 22, 3) := by decide +kernel
theorem dX1_leadsAlike_44 : decode cX1_leadsAlike 44 = .ok (.iload 6, 2) := by decide +kernel
theorem dX1_leadsAlike_46 : decode cX1_leadsAlike 46 = .ok (.iconst (-1), 1) := by decide +kernel
theorem dX1_leadsAlike_47 : decode cX1_leadsAlike 47 = .ok (.if_icmp .eq 16, 3) := by decide +kernel
theorem dX1_leadsAlike_50 : decode cX1_leadsAlike 50 = .ok (.aload_n 0, 1) := by decide +kernel
theorem dX1_leadsAlike_51 : decode cX1_leadsAlike 51 = .ok (.iload 5, 2) := by decide +kernel
theorem dX1_leadsAlike_53 : decode cX1_leadsAlike 53 = .ok (.iload 6, 2) := by decide +kernel
theorem dX1_leadsAlike_55 : decode cX1_leadsAlike 55 = .ok (.invokevirtual 39, 3) := by decide +kernel
theorem dX1_leadsAlike_58 : decode cX1_leadsAlike 58 = .ok (.ifCond .ne 5, 3) := by decide +kernel
theorem dX1_leadsAlike_61 : decode cX1_leadsAlike 61 = .ok (.iconst 0, 1) := by decide +kernel
theorem dX1_leadsAlike_62 : decode cX1_leadsAlike 62 = .ok (.ireturn, 1) := by decide +kernel
theorem dX1_leadsAlike_63 : decode cX1_leadsAlike 63 = .ok (.iinc 4 1, 3) := by decide +kernel
theorem dX1_leadsAlike_66 : decode cX1_leadsAlike 66 = .ok (.goto (-53), 3) := by decide +kernel
theorem dX1_leadsAlike_69 : decode cX1_leadsAlike 69 = .ok (.iconst 1, 1) := by decide +kernel
theorem dX1_leadsAlike_70 : decode cX1_leadsAlike 70 = .ok (.ireturn, 1) := by decide +kernel
theorem dX1_areAlike_0 : decode cX1_areAlike 0 = .ok (.iload_n 1, 1) := by decide +kernel
theorem dX1_areAlike_1 : decode cX1_areAlike 1 = .ok (.invokestatic 43, 3) := by decide +kernel
theorem dX1_areAlike_4 : decode cX1_areAlike 4 = .ok (.ifCond .eq 28, 3) := by decide +kernel
theorem dX1_areAlike_7 : decode cX1_areAlike 7 = .ok (.iload_n 2, 1) := by decide +kernel
theorem dX1_areAlike_8 : decode cX1_areAlike 8 = .ok (.invokestatic 43, 3) := by decide +kernel
theorem dX1_areAlike_11 : decode cX1_areAlike 11 = .ok (.ifCond .eq 21, 3) := by decide +kernel
theorem dX1_areAlike_14 : decode cX1_areAlike 14 = .ok (.aload_n 0, 1) := by decide +kernel
theorem dX1_areAlike_15 : decode cX1_areAlike 15 = .ok (.getfield 9, 3) := by decide +kernel
theorem dX1_areAlike_18 : decode cX1_areAlike 18 = .ok (.iload_n 1, 1) := by decide +kernel
theorem dX1_areAlike_19 : decode cX1_areAlike 19 = .ok (.bipush 8, 2) := by decide +kernel
theorem dX1_areAlike_21 : decode cX1_areAlike 21 = .ok (.imul, 1) := by decide +kernel
theorem dX1_areAlike_22 : decode cX1_areAlike 22 = .ok (.iload_n 2, 1) := by decide +kernel
theorem dX1_areAlike_23 : decode cX1_areAlike 23 = .ok (.iadd, 1) := by decide +kernel
theorem dX1_areAlike_24 : decode cX1_areAlike 24 = .ok (.baload, 1) := by decide +kernel
theorem dX1_areAlike_25 : decode cX1_areAlike 25 = .ok (.ifCond .eq 7, 3) := by decide +kernel
theorem dX1_areAlike_28 : decode cX1_areAlike 28 = .ok (.iconst 1, 1) := by decide +kernel
theorem dX1_areAlike_29 : decode cX1_areAlike 29 = .ok (.goto 4, 3) := by decide +kernel
theorem dX1_areAlike_32 : decode cX1_areAlike 32 = .ok (.iconst 0, 1) := by decide +kernel
theorem dX1_areAlike_33 : decode cX1_areAlike 33 = .ok (.ireturn, 1) := by decide +kernel
theorem dX1_lowestAlike_0 : decode cX1_lowestAlike 0 = .ok (.iconst 0, 1) := by decide +kernel
theorem dX1_lowestAlike_1 : decode cX1_lowestAlike 1 = .ok (.istore_n 2, 1) := by decide +kernel
theorem dX1_lowestAlike_2 : decode cX1_lowestAlike 2 = .ok (.iload_n 2, 1) := by decide +kernel
theorem dX1_lowestAlike_3 : decode cX1_lowestAlike 3 = .ok (.bipush 8, 2) := by decide +kernel
theorem dX1_lowestAlike_5 : decode cX1_lowestAlike 5 = .ok (.if_icmp .ge 20, 3) := by decide +kernel
theorem dX1_lowestAlike_8 : decode cX1_lowestAlike 8 = .ok (.aload_n 0, 1) := by decide +kernel
theorem dX1_lowestAlike_9 : decode cX1_lowestAlike 9 = .ok (.iload_n 1, 1) := by decide +kernel
theorem dX1_lowestAlike_10 : decode cX1_lowestAlike 10 = .ok (.iload_n 2, 1) := by decide +kernel
theorem dX1_lowestAlike_11 : decode cX1_lowestAlike 11 = .ok (.invokevirtual 39, 3) := by decide +kernel
theorem dX1_lowestAlike_14 : decode cX1_lowestAlike 14 = .ok (.ifCond .eq 5, 3) := by decide +kernel
theorem dX1_lowestAlike_17 : decode cX1_lowestAlike 17 = .ok (.iload_n 2, 1) := by decide +kernel
theorem dX1_lowestAlike_18 : decode cX1_lowestAlike 18 = .ok (.ireturn, 1) := by decide +kernel
theorem dX1_lowestAlike_19 : decode cX1_lowestAlike 19 = .ok (.iinc 2 1, 3) := by decide +kernel
theorem dX1_lowestAlike_22 : decode cX1_lowestAlike 22 = .ok (.goto (-20), 3) := by decide +kernel
theorem dX1_lowestAlike_25 : decode cX1_lowestAlike 25 = .ok (.iload_n 1, 1) := by decide +kernel
theorem dX1_lowestAlike_26 : decode cX1_lowestAlike 26 = .ok (.ireturn, 1) := by decide +kernel
theorem dX2_init_0 : decode cX2_init 0 = .ok (.aload_n 0, 1) := by decide +kernel
theorem dX2_init_1 : decode cX2_init 1 = .ok (.invokespecial 3, 3) := by decide +kernel
theorem dX2_init_4 : decode cX2_init 4 = .ok (.aload_n 0, 1) := by decide +kernel
theorem dX2_init_5 : decode cX2_init 5 = .ok (.bipush 64, 2) := by decide +kernel
theorem dX2_init_7 : decode cX2_init 7 = .ok (.newarray .int, 2) := by decide +kernel
theorem dX2_init_9 : decode cX2_init 9 = .ok (.putfield 9, 3) := by decide +kernel
theorem dX2_init_12 : decode cX2_init 12 = .ok (.aload_n 0, 1) := by decide +kernel
theorem dX2_init_13 : decode cX2_init 13 = .ok (.bipush 64, 2) := by decide +kernel
theorem dX2_init_15 : decode cX2_init 15 = .ok (.newarray .int, 2) := by decide +kernel
theorem dX2_init_17 : decode cX2_init 17 = .ok (.putfield 15, 3) := by decide +kernel
theorem dX2_init_20 : decode cX2_init 20 = .ok (.aload_n 0, 1) := by decide +kernel
theorem dX2_init_21 : decode cX2_init 21 = .ok (.bipush 64, 2) := by decide +kernel
theorem dX2_init_23 : decode cX2_init 23 = .ok (.newarray .int, 2) := by decide +kernel
theorem dX2_init_25 : decode cX2_init 25 = .ok (.putfield 18, 3) := by decide +kernel
theorem dX2_init_28 : decode cX2_init 28 = .ok (.aload_n 0, 1) := by decide +kernel
theorem dX2_init_29 : decode cX2_init 29 = .ok (.bipush 64, 2) := by decide +kernel
theorem dX2_init_31 : decode cX2_init 31 = .ok (.newarray .int, 2) := by decide +kernel
theorem dX2_init_33 : decode cX2_init 33 = .ok (.putfield 21, 3) := by decide +kernel
theorem dX2_init_36 : decode cX2_init 36 = .ok (.aload_n 0, 1) := by decide +kernel
theorem dX2_init_37 : decode cX2_init 37 = .ok (.bipush 64, 2) := by decide +kernel
theorem dX2_init_39 : decode cX2_init 39 = .ok (.newarray .int, 2) := by decide +kernel
theorem dX2_init_41 : decode cX2_init 41 = .ok (.putfield 24, 3) := by decide +kernel
theorem dX2_init_44 : decode cX2_init 44 = .ok (.aload_n 0, 1) := by decide +kernel
theorem dX2_init_45 : decode cX2_init 45 = .ok (.aload_n 1, 1) := by decide +kernel
theorem dX2_init_46 : decode cX2_init 46 = .ok (.putfield 27, 3) := by decide +kernel
theorem dX2_init_49 : decode cX2_init 49 = .ok (.aload_n 0, 1) := by decide +kernel
theorem dX2_init_50 : decode cX2_init 50 = .ok (.aload_n 1, 1) := by decide +kernel
theorem dX2_init_51 : decode cX2_init 51 = .ok (.putfield 31, 3) := by decide +kernel
theorem dX2_init_54 : decode cX2_init 54 = .ok (.return_, 1) := by decide +kernel
theorem dX2_walk_0 : decode cX2_walk 0 = .ok (.aload_n 0, 1) := by decide +kernel
theorem dX2_walk_1 : decode cX2_walk 1 = .ok (.aload_n 1, 1) := by decide +kernel
theorem dX2_walk_2 : decode cX2_walk 2 = .ok (.putfield 27, 3) := by decide +kernel
theorem dX2_walk_5 : decode cX2_walk 5 = .ok (.aload_n 0, 1) := by decide +kernel
theorem dX2_walk_6 : decode cX2_walk 6 = .ok (.aload_n 2, 1) := by decide +kernel
theorem dX2_walk_7 : decode cX2_walk 7 = .ok (.putfield 31, 3) := by decide +kernel
theorem dX2_walk_10 : decode cX2_walk 10 = .ok (.aload_n 0, 1) := by decide +kernel
theorem dX2_walk_11 : decode cX2_walk 11 = .ok (.getfield 15, 3) := by decide +kernel
theorem dX2_walk_14 : decode cX2_walk 14 = .ok (.iconst (-1), 1) := by decide +kernel
theorem dX2_walk_15 : decode cX2_walk 15 = .ok (.invokestatic 34, 3) := by decide +kernel
theorem dX2_walk_18 : decode cX2_walk 18 = .ok (.aload_n 0, 1) := by decide +kernel
theorem dX2_walk_19 : decode cX2_walk 19 = .ok (.iconst 0, 1) := by decide +kernel
theorem dX2_walk_20 : decode cX2_walk 20 = .ok (.putfield 40, 3) := by decide +kernel
theorem dX2_walk_23 : decode cX2_walk 23 = .ok (.aload_n 0, 1) := by decide +kernel
theorem dX2_walk_24 : decode cX2_walk 24 = .ok (.iconst 0, 1) := by decide +kernel
theorem dX2_walk_25 : decode cX2_walk 25 = .ok (.iconst 0, 1) := by decide +kernel
theorem dX2_walk_26 : decode cX2_walk 26 = .ok (.iconst (-1), 1) := by decide +kernel
theorem dX2_walk_27 : decode cX2_walk 27 = .ok (.iconst (-1), 1) := by decide +kernel
theorem dX2_walk_28 : decode cX2_walk 28 = .ok (.invokevirtual 44, 3) := by decide +kernel
theorem dX2_walk_31 : decode cX2_walk 31 = .ok (.iconst 0, 1) := by decide +kernel
theorem dX2_walk_32 : decode cX2_walk 32 = .ok (.istore_n 3, 1) := by decide +kernel
theorem dX2_walk_33 : decode cX2_walk 33 = .ok (.iload_n 3, 1) := by decide +kernel
theorem dX2_walk_34 : decode cX2_walk 34 = .ok (.aload_n 0, 1) := by decide +kernel
theorem dX2_walk_35 : decode cX2_walk 35 = .ok (.getfield 40, 3) := by decide +kernel
theorem dX2_walk_38 : decode cX2_walk 38 = .ok (.if_icmp .ge 75, 3) := by decide +kernel
theorem dX2_walk_41 : decode cX2_walk 41 = .ok (.iload_n 3, 1) := by decide +kernel
theorem dX2_walk_42 : decode cX2_walk 42 = .ok (.bipush 64, 2) := by decide +kernel
theorem dX2_walk_44 : decode cX2_walk 44 = .ok (.if_icmp .ge 69, 3) := by decide +kernel
theorem dX2_walk_47 : decode cX2_walk 47 = .ok (.iconst 0, 1) := by decide +kernel
theorem dX2_walk_48 : decode cX2_walk 48 = .ok (.istore 4, 2) := by decide +kernel
theorem dX2_walk_50 : decode cX2_walk 50 = .ok (.iload 4, 2) := by decide +kernel
theorem dX2_walk_52 : decode cX2_walk 52 = .ok (.bipush 6, 2) := by decide +kernel
theorem dX2_walk_54 : decode cX2_walk 54 = .ok (.if_icmp .ge 53, 3) := by decide +kernel
theorem dX2_walk_57 : decode cX2_walk 57 = .ok (.aload_n 0, 1) := by decide +kernel
theorem dX2_walk_58 : decode cX2_walk 58 = .ok (.iload_n 3, 1) := by decide +kernel
theorem dX2_walk_59 : decode cX2_walk 59 = .ok (.iload 4, 2) := by decide +kernel
theorem dX2_walk_61 : decode cX2_walk 61 = .ok (.invokevirtual 48, 3) := by decide +kernel
theorem dX2_walk_64 : decode cX2_walk 64 = .ok (.istore 5, 2) := by decide +kernel
theorem dX2_walk_66 : decode cX2_walk 66 = .ok (.iload 5, 2) := by decide +kernel
theorem dX2_walk_68 : decode cX2_walk 68 = .ok (.iconst (-1), 1) := by decide +kernel
theorem dX2_walk_69 : decode cX2_walk 69 = .ok (.if_icmp .eq 32, 3) := by decide +kernel
theorem dX2_walk_72 : decode cX2_walk 72 = .ok (.aload_n 0, 1) := by decide +kernel
theorem dX2_walk_73 : decode cX2_walk 73 = .ok (.getfield 15, 3) := by decide +kernel
theorem dX2_walk_76 : decode cX2_walk 76 = .ok (.iload 5, 2) := by decide +kernel
theorem dX2_walk_78 : decode cX2_walk 78 = .ok (.invokestatic 52, 3) := by decide +kernel
theorem dX2_walk_81 : decode cX2_walk 81 = .ok (.iconst (-1), 1) := by decide +kernel
theorem dX2_walk_82 : decode cX2_walk 82 = .ok (.if_icmp .ne 19, 3) := by decide +kernel
theorem dX2_walk_85 : decode cX2_walk 85 = .ok (.aload_n 0, 1) := by decide +kernel
theorem dX2_walk_86 : decode cX2_walk 86 = .ok (.iload 5, 2) := by decide +kernel
theorem dX2_walk_88 : decode cX2_walk 88 = .ok (.aload_n 0, 1) := by decide +kernel
theorem dX2_walk_89 : decode cX2_walk 89 = .ok (.iload_n 3, 1) := by decide +kernel
theorem dX2_walk_90 : decode cX2_walk 90 = .ok (.invokevirtual 56, 3) := by decide +kernel
theorem dX2_walk_93 : decode cX2_walk 93 = .ok (.iconst 1, 1) := by decide +kernel
theorem dX2_walk_94 : decode cX2_walk 94 = .ok (.iadd, 1) := by decide +kernel
theorem dX2_walk_95 : decode cX2_walk 95 = .ok (.iload_n 3, 1) := by decide +kernel
theorem dX2_walk_96 : decode cX2_walk 96 = .ok (.iload 4, 2) := by decide +kernel
theorem dX2_walk_98 : decode cX2_walk 98 = .ok (.invokevirtual 44, 3) := by decide +kernel
theorem dX2_walk_101 : decode cX2_walk 101 = .ok (.iinc 4 1, 3) := by decide +kernel
theorem dX2_walk_104 : decode cX2_walk 104 = .ok (.goto (-54), 3) := by decide +kernel
theorem dX2_walk_107 : decode cX2_walk 107 = .ok (.iinc 3 1, 3) := by decide +kernel
theorem dX2_walk_110 : decode cX2_walk 110 = .ok (.goto (-77), 3) := by decide +kernel
theorem dX2_walk_113 : decode cX2_walk 113 = .ok (.return_, 1) := by decide +kernel
theorem dX2_add_0 : decode cX2_add 0 = .ok (.iload_n 1, 1) := by decide +kernel
theorem dX2_add_1 : decode cX2_add 1 = .ok (.ifCond .lt 79, 3) := by decide +kernel
theorem dX2_add_4 : decode cX2_add 4 = .ok (.iload_n 1, 1) := by decide +kernel
theorem dX2_add_5 : decode cX2_add 5 = .ok (.bipush 64, 2) := by decide +kernel
theorem dX2_add_7 : decode cX2_add 7 = .ok (.if_icmp .ge 73, 3) := by decide +kernel
theorem dX2_add_10 : decode cX2_add 10 = .ok (.aload_n 0, 1) := by decide +kernel
theorem dX2_add_11 : decode cX2_add 11 = .ok (.getfield 40, 3) := by decide +kernel
theorem dX2_add_14 : decode cX2_add 14 = .ok (.bipush 64, 2) := by decide +kernel
theorem dX2_add_16 : decode cX2_add 16 = .ok (.if_icmp .ge 64, 3) := by decide +kernel
theorem dX2_add_19 : decode cX2_add 19 = .ok (.aload_n 0, 1) := by decide +kernel
theorem dX2_add_20 : decode cX2_add 20 = .ok (.getfield 9, 3) := by decide +kernel
theorem dX2_add_23 : decode cX2_add 23 = .ok (.aload_n 0, 1) := by decide +kernel
theorem dX2_add_24 : decode cX2_add 24 = .ok (.getfield 40, 3) := by decide +kernel
theorem dX2_add_27 : decode cX2_add 27 = .ok (.iload_n 1, 1) := by decide +kernel
theorem dX2_add_28 : decode cX2_add 28 = .ok (.iastore, 1) := by decide +kernel
theorem dX2_add_29 : decode cX2_add 29 = .ok (.aload_n 0, 1) := by decide +kernel
theorem dX2_add_30 : decode cX2_add 30 = .ok (.getfield 18, 3) := by decide +kernel
theorem dX2_add_33 : decode cX2_add 33 = .ok (.aload_n 0, 1) := by decide +kernel
theorem dX2_add_34 : decode cX2_add 34 = .ok (.getfield 40, 3) := by decide +kernel
theorem dX2_add_37 : decode cX2_add 37 = .ok (.iload_n 2, 1) := by decide +kernel
theorem dX2_add_38 : decode cX2_add 38 = .ok (.iastore, 1) := by decide +kernel
theorem dX2_add_39 : decode cX2_add 39 = .ok (.aload_n 0, 1) := by decide +kernel
theorem dX2_add_40 : decode cX2_add 40 = .ok (.getfield 21, 3) := by decide +kernel
theorem dX2_add_43 : decode cX2_add 43 = .ok (.aload_n 0, 1) := by decide +kernel
theorem dX2_add_44 : decode cX2_add 44 = .ok (.getfield 40, 3) := by decide +kernel
theorem dX2_add_47 : decode cX2_add 47 = .ok (.iload_n 3, 1) := by decide +kernel
theorem dX2_add_48 : decode cX2_add 48 = .ok (.iastore, 1) := by decide +kernel
theorem dX2_add_49 : decode cX2_add 49 = .ok (.aload_n 0, 1) := by decide +kernel
theorem dX2_add_50 : decode cX2_add 50 = .ok (.getfield 24, 3) := by decide +kernel
theorem dX2_add_53 : decode cX2_add 53 = .ok (.aload_n 0, 1) := by decide +kernel
theorem dX2_add_54 : decode cX2_add 54 = .ok (.getfield 40, 3) := by decide +kernel
theorem dX2_add_57 : decode cX2_add 57 = .ok (.iload 4, 2) := by decide +kernel
theorem dX2_add_59 : decode cX2_add 59 = .ok (.iastore, 1) := by decide +kernel
theorem dX2_add_60 : decode cX2_add 60 = .ok (.aload_n 0, 1) := by decide +kernel
theorem dX2_add_61 : decode cX2_add 61 = .ok (.getfield 15, 3) := by decide +kernel
theorem dX2_add_64 : decode cX2_add 64 = .ok (.iload_n 1, 1) := by decide +kernel
theorem dX2_add_65 : decode cX2_add 65 = .ok (.aload_n 0, 1) := by decide +kernel
theorem dX2_add_66 : decode cX2_add 66 = .ok (.getfield 40, 3) := by decide +kernel
theorem dX2_add_69 : decode cX2_add 69 = .ok (.iastore, 1) := by decide +kernel
theorem dX2_add_70 : decode cX2_add 70 = .ok (.aload_n 0, 1) := by decide +kernel
theorem dX2_add_71 : decode cX2_add 71 = .ok (.dup, 1) := by decide +kernel
theorem dX2_add_72 : decode cX2_add 72 = .ok (.getfield 40, 3) := by decide +kernel
theorem dX2_add_75 : decode cX2_add 75 = .ok (.iconst 1, 1) := by decide +kernel
theorem dX2_add_76 : decode cX2_add 76 = .ok (.iadd, 1) := by decide +kernel
theorem dX2_add_77 : decode cX2_add 77 = .ok (.putfield 40, 3) := by decide +kernel
theorem dX2_add_80 : decode cX2_add 80 = .ok (.return_, 1) := by decide +kernel
theorem dX2_pairBehind_0 : decode cX2_pairBehind 0 = .ok (.aload_n 0, 1) := by decide +kernel
theorem dX2_pairBehind_1 : decode cX2_pairBehind 1 = .ok (.iload_n 1, 1) := by decide +kernel
theorem dX2_pairBehind_2 : decode cX2_pairBehind 2 = .ok (.invokevirtual 60, 3) := by decide +kernel
theorem dX2_pairBehind_5 : decode cX2_pairBehind 5 = .ok (.istore_n 3, 1) := by decide +kernel
theorem dX2_pairBehind_6 : decode cX2_pairBehind 6 = .ok (.aload_n 0, 1) := by decide +kernel
theorem dX2_pairBehind_7 : decode cX2_pairBehind 7 = .ok (.iload_n 1, 1) := by decide +kernel
theorem dX2_pairBehind_8 : decode cX2_pairBehind 8 = .ok (.invokevirtual 63, 3) := by decide +kernel
theorem dX2_pairBehind_11 : decode cX2_pairBehind 11 = .ok (.istore 4, 2) := by decide +kernel
theorem dX2_pairBehind_13 : decode cX2_pairBehind 13 = .ok (.aload_n 0, 1) := by decide +kernel
theorem dX2_pairBehind_14 : decode cX2_pairBehind 14 = .ok (.getfield 27, 3) := by decide +kernel
theorem dX2_pairBehind_17 : decode cX2_pairBehind 17 = .ok (.iload_n 3, 1) := by decide +kernel
theorem dX2_pairBehind_18 : decode cX2_pairBehind 18 = .ok (.iload_n 2, 1) := by decide +kernel
theorem dX2_pairBehind_19 : decode cX2_pairBehind 19 = .ok (.invokevirtual 66, 3) := by decide +kernel
theorem dX2_pairBehind_22 : decode cX2_pairBehind 22 = .ok (.istore 5, 2) := by decide +kernel
theorem dX2_pairBehind_24 : decode cX2_pairBehind 24 = .ok (.aload_n 0, 1) := by decide +kernel
theorem dX2_pairBehind_25 : decode cX2_pairBehind 25 = .ok (.getfield 31, 3) := by decide +kernel
theorem dX2_pairBehind_28 : decode cX2_pairBehind 28 = .ok (.iload 4, 2) := by decide +kernel
theorem dX2_pairBehind_30 : decode cX2_pairBehind 30 = .ok (.iload_n 2, 1) := by decide +kernel
theorem dX2_pairBehind_31 : decode cX2_pairBehind 31 = .ok (.invokevirtual 66, 3) := by decide +kernel
theorem dX2_pairBehind_34 : decode cX2_pairBehind 34 = .ok (.istore 6, 2) := by decide +kernel
theorem dX2_pairBehind_36 : decode cX2_pairBehind 36 = .ok (.iload 5, 2) := by decide +kernel
theorem dX2_pairBehind_38 : decode cX2_pairBehind 38 = .ok (.iconst (-1), 1) := by decide +kernel
theorem dX2_pairBehind_39 : decode cX2_pairBehind 39 = .ok (.if_icmp .eq 33, 3) := by decide +kernel
theorem dX2_pairBehind_42 : decode cX2_pairBehind 42 = .ok (.iload 6, 2) := by decide +kernel
theorem dX2_pairBehind_44 : decode cX2_pairBehind 44 = .ok (.iconst (-1), 1) := by decide +kernel
theorem dX2_pairBehind_45 : decode cX2_pairBehind 45 = .ok (.if_icmp .eq 27, 3) := by decide +kernel
theorem dX2_pairBehind_48 : decode cX2_pairBehind 48 = .ok (.aload_n 0, 1) := by decide +kernel
theorem dX2_pairBehind_49 : decode cX2_pairBehind 49 = .ok (.aload_n 0, 1) := by decide +kernel
theorem dX2_pairBehind_50 : decode cX2_pairBehind 50 = .ok (.getfield 27, 3) := by decide +kernel
theorem dX2_pairBehind_53 : decode cX2_pairBehind 53 = .ok (.iload_n 3, 1) := by decide +kernel
theorem dX2_pairBehind_54 : decode cX2_pairBehind 54 = .ok (.invokevirtual 71, 3) := by decide +kernel
theorem dX2_pairBehind_57 : decode cX2_pairBehind 57 = .ok (.aload_n 0, 1) := by decide +kernel
theorem dX2_pairBehind_58 : decode cX2_pairBehind 58 = .ok (.getfield 31, 3) := by decide +kernel
theorem dX2_pairBehind_61 : decode cX2_pairBehind 61 = .ok (.iload 4, 2) := by decide +kernel
theorem dX2_pairBehind_63 : decode cX2_pairBehind 63 = .ok (.invokevirtual 71, 3) := by decide +kernel
theorem dX2_pairBehind_66 : decode cX2_pairBehind 66 = .ok (.invokevirtual 74, 3) := by decide +kernel
theorem dX2_pairBehind_69 : decode cX2_pairBehind 69 = .ok (.ifCond .ne 5, 3) := by decide +kernel
theorem dX2_pairBehind_72 : decode cX2_pairBehind 72 = .ok (.iconst (-1), 1) := by decide +kernel
theorem dX2_pairBehind_73 : decode cX2_pairBehind 73 = .ok (.ireturn, 1) := by decide +kernel
theorem dX2_pairBehind_74 : decode cX2_pairBehind 74 = .ok (.iload 5, 2) := by decide +kernel
theorem dX2_pairBehind_76 : decode cX2_pairBehind 76 = .ok (.bipush 8, 2) := by decide +kernel
theorem dX2_pairBehind_78 : decode cX2_pairBehind 78 = .ok (.imul, 1) := by decide +kernel
theorem dX2_pairBehind_79 : decode cX2_pairBehind 79 = .ok (.iload 6, 2) := by decide +kernel
theorem dX2_pairBehind_81 : decode cX2_pairBehind 81 = .ok (.iadd, 1) := by decide +kernel
theorem dX2_pairBehind_82 : decode cX2_pairBehind 82 = .ok (.ireturn, 1) := by decide +kernel
theorem dX2_positionBehind_0 : decode cX2_positionBehind 0 = .ok (.aload_n 0, 1) := by decide +kernel
theorem dX2_positionBehind_1 : decode cX2_positionBehind 1 = .ok (.getfield 15, 3) := by decide +kernel
theorem dX2_positionBehind_4 : decode cX2_positionBehind 4 = .ok (.aload_n 0, 1) := by decide +kernel
theorem dX2_positionBehind_5 : decode cX2_positionBehind 5 = .ok (.iload_n 1, 1) := by decide +kernel
theorem dX2_positionBehind_6 : decode cX2_positionBehind 6 = .ok (.iload_n 2, 1) := by decide +kernel
theorem dX2_positionBehind_7 : decode cX2_positionBehind 7 = .ok (.invokevirtual 48, 3) := by decide +kernel
theorem dX2_positionBehind_10 : decode cX2_positionBehind 10 = .ok (.invokestatic 52, 3) := by decide +kernel
theorem dX2_positionBehind_13 : decode cX2_positionBehind 13 = .ok (.ireturn, 1) := by decide +kernel
theorem dX2_size_0 : decode cX2_size 0 = .ok (.aload_n 0, 1) := by decide +kernel
theorem dX2_size_1 : decode cX2_size 1 = .ok (.getfield 40, 3) := by decide +kernel
theorem dX2_size_4 : decode cX2_size 4 = .ok (.ireturn, 1) := by decide +kernel
theorem dX2_has_0 : decode cX2_has 0 = .ok (.iload_n 1, 1) := by decide +kernel
theorem dX2_has_1 : decode cX2_has 1 = .ok (.ifCond .lt 15, 3) := by decide +kernel
theorem dX2_has_4 : decode cX2_has 4 = .ok (.iload_n 1, 1) := by decide +kernel
theorem dX2_has_5 : decode cX2_has 5 = .ok (.aload_n 0, 1) := by decide +kernel
theorem dX2_has_6 : decode cX2_has 6 = .ok (.getfield 40, 3) := by decide +kernel
theorem dX2_has_9 : decode cX2_has 9 = .ok (.if_icmp .ge 7, 3) := by decide +kernel
theorem dX2_has_12 : decode cX2_has 12 = .ok (.iconst 1, 1) := by decide +kernel
theorem dX2_has_13 : decode cX2_has 13 = .ok (.goto 4, 3) := by decide +kernel
theorem dX2_has_16 : decode cX2_has 16 = .ok (.iconst 0, 1) := by decide +kernel
theorem dX2_has_17 : decode cX2_has 17 = .ok (.ireturn, 1) := by decide +kernel
theorem dX2_stateOfOne_0 : decode cX2_stateOfOne 0 = .ok (.aload_n 0, 1) := by decide +kernel
theorem dX2_stateOfOne_1 : decode cX2_stateOfOne 1 = .ok (.getfield 9, 3) := by decide +kernel
theorem dX2_stateOfOne_4 : decode cX2_stateOfOne 4 = .ok (.iload_n 1, 1) := by decide +kernel
theorem dX2_stateOfOne_5 : decode cX2_stateOfOne 5 = .ok (.invokestatic 52, 3) := by decide +kernel
theorem dX2_stateOfOne_8 : decode cX2_stateOfOne 8 = .ok (.bipush 8, 2) := by decide +kernel
theorem dX2_stateOfOne_10 : decode cX2_stateOfOne 10 = .ok (.idiv, 1) := by decide +kernel
theorem dX2_stateOfOne_11 : decode cX2_stateOfOne 11 = .ok (.ireturn, 1) := by decide +kernel
theorem dX2_stateOfOther_0 : decode cX2_stateOfOther 0 = .ok (.aload_n 0, 1) := by decide +kernel
theorem dX2_stateOfOther_1 : decode cX2_stateOfOther 1 = .ok (.getfield 9, 3) := by decide +kernel
theorem dX2_stateOfOther_4 : decode cX2_stateOfOther 4 = .ok (.iload_n 1, 1) := by decide +kernel
theorem dX2_stateOfOther_5 : decode cX2_stateOfOther 5 = .ok (.invokestatic 52, 3) := by decide +kernel
theorem dX2_stateOfOther_8 : decode cX2_stateOfOther 8 = .ok (.bipush 8, 2) := by decide +kernel
theorem dX2_stateOfOther_10 : decode cX2_stateOfOther 10 = .ok (.irem, 1) := by decide +kernel
theorem dX2_stateOfOther_11 : decode cX2_stateOfOther 11 = .ok (.ireturn, 1) := by decide +kernel
theorem dX2_kindOfOne_0 : decode cX2_kindOfOne 0 = .ok (.aload_n 0, 1) := by decide +kernel
theorem dX2_kindOfOne_1 : decode cX2_kindOfOne 1 = .ok (.getfield 27, 3) := by decide +kernel
theorem dX2_kindOfOne_4 : decode cX2_kindOfOne 4 = .ok (.aload_n 0, 1) := by decide +kernel
theorem dX2_kindOfOne_5 : decode cX2_kindOfOne 5 = .ok (.iload_n 1, 1) := by decide +kernel
theorem dX2_kindOfOne_6 : decode cX2_kindOfOne 6 = .ok (.invokevirtual 60, 3) := by decide +kernel
theorem dX2_kindOfOne_9 : decode cX2_kindOfOne 9 = .ok (.invokevirtual 71, 3) := by decide +kernel
theorem dX2_kindOfOne_12 : decode cX2_kindOfOne 12 = .ok (.ireturn, 1) := by decide +kernel
theorem dX2_kindOfOther_0 : decode cX2_kindOfOther 0 = .ok (.aload_n 0, 1) := by decide +kernel
theorem dX2_kindOfOther_1 : decode cX2_kindOfOther 1 = .ok (.getfield 31, 3) := by decide +kernel
theorem dX2_kindOfOther_4 : decode cX2_kindOfOther 4 = .ok (.aload_n 0, 1) := by decide +kernel
theorem dX2_kindOfOther_5 : decode cX2_kindOfOther 5 = .ok (.iload_n 1, 1) := by decide +kernel
theorem dX2_kindOfOther_6 : decode cX2_kindOfOther 6 = .ok (.invokevirtual 63, 3) := by decide +kernel
theorem dX2_kindOfOther_9 : decode cX2_kindOfOther 9 = .ok (.invokevirtual 71, 3) := by decide +kernel
theorem dX2_kindOfOther_12 : decode cX2_kindOfOther 12 = .ok (.ireturn, 1) := by decide +kernel
theorem dX2_lengthOf_0 : decode cX2_lengthOf 0 = .ok (.aload_n 0, 1) := by decide +kernel
theorem dX2_lengthOf_1 : decode cX2_lengthOf 1 = .ok (.getfield 18, 3) := by decide +kernel
theorem dX2_lengthOf_4 : decode cX2_lengthOf 4 = .ok (.iload_n 1, 1) := by decide +kernel
theorem dX2_lengthOf_5 : decode cX2_lengthOf 5 = .ok (.invokestatic 52, 3) := by decide +kernel
theorem dX2_lengthOf_8 : decode cX2_lengthOf 8 = .ok (.ireturn, 1) := by decide +kernel
theorem dX2_reasonOf_0 : decode cX2_reasonOf 0 = .ok (.aload_n 0, 1) := by decide +kernel
theorem dX2_reasonOf_1 : decode cX2_reasonOf 1 = .ok (.iload_n 1, 1) := by decide +kernel
theorem dX2_reasonOf_2 : decode cX2_reasonOf 2 = .ok (.invokevirtual 60, 3) := by decide +kernel
theorem dX2_reasonOf_5 : decode cX2_reasonOf 5 = .ok (.istore_n 2, 1) := by decide +kernel
theorem dX2_reasonOf_6 : decode cX2_reasonOf 6 = .ok (.aload_n 0, 1) := by decide +kernel
theorem dX2_reasonOf_7 : decode cX2_reasonOf 7 = .ok (.iload_n 1, 1) := by decide +kernel
theorem dX2_reasonOf_8 : decode cX2_reasonOf 8 = .ok (.invokevirtual 63, 3) := by decide +kernel
theorem dX2_reasonOf_11 : decode cX2_reasonOf 11 = .ok (.istore_n 3, 1) := by decide +kernel
theorem dX2_reasonOf_12 : decode cX2_reasonOf 12 = .ok (.aload_n 0, 1) := by decide +kernel
theorem dX2_reasonOf_13 : decode cX2_reasonOf 13 = .ok (.aload_n 0, 1) := by decide +kernel
theorem dX2_reasonOf_14 : decode cX2_reasonOf 14 = .ok (.getfield 27, 3) := by decide +kernel
theorem dX2_reasonOf_17 : decode cX2_reasonOf 17 = .ok (.iload_n 2, 1) := by decide +kernel
theorem dX2_reasonOf_18 : decode cX2_reasonOf 18 = .ok (.invokevirtual 71, 3) := by decide +kernel
theorem dX2_reasonOf_21 : decode cX2_reasonOf 21 = .ok (.aload_n 0, 1) := by decide +kernel
theorem dX2_reasonOf_22 : decode cX2_reasonOf 22 = .ok (.getfield 27, 3) := by decide +kernel
theorem dX2_reasonOf_25 : decode cX2_reasonOf 25 = .ok (.iload_n 2, 1) := by decide +kernel
theorem dX2_reasonOf_26 : decode cX2_reasonOf 26 = .ok (.invokevirtual 78, 3) := by decide +kernel
theorem dX2_reasonOf_29 : decode cX2_reasonOf 29 = .ok (.aload_n 0, 1) := by decide +kernel
theorem dX2_reasonOf_30 : decode cX2_reasonOf 30 = .ok (.getfield 31, 3) := by decide +kernel
theorem dX2_reasonOf_33 : decode cX2_reasonOf 33 = .ok (.iload_n 3, 1) := by decide +kernel
theorem dX2_reasonOf_34 : decode cX2_reasonOf 34 = .ok (.invokevirtual 71, 3) := by decide +kernel
theorem dX2_reasonOf_37 : decode cX2_reasonOf 37 = .ok (.aload_n 0, 1) := by decide +kernel
theorem dX2_reasonOf_38 : decode cX2_reasonOf 38 = .ok (.getfield 31, 3) := by decide +kernel
theorem dX2_reasonOf_41 : decode cX2_reasonOf 41 = .ok (.iload_n 3, 1) := by decide +kernel
theorem dX2_reasonOf_42 : decode cX2_reasonOf 42 = .ok (.invokevirtual 78, 3) := by decide +kernel
theorem dX2_reasonOf_45 : decode cX2_reasonOf 45 = .ok (.invokevirtual 81, 3) := by decide +kernel
theorem dX2_reasonOf_48 : decode cX2_reasonOf 48 = .ok (.ireturn, 1) := by decide +kernel
theorem dX2_firstLackedWord_0 : decode cX2_firstLackedWord 0 = .ok (.aload_n 0, 1) := by decide +kernel
theorem dX2_firstLackedWord_1 : decode cX2_firstLackedWord 1 = .ok (.iload_n 1, 1) := by decide +kernel
theorem dX2_firstLackedWord_2 : decode cX2_firstLackedWord 2 = .ok (.invokevirtual 85, 3) := by decide +kernel
theorem dX2_firstLackedWord_5 : decode cX2_firstLackedWord 5 = .ok (.istore_n 2, 1) := by decide +kernel
theorem dX2_firstLackedWord_6 : decode cX2_firstLackedWord 6 = .ok (.aload_n 0, 1) := by decide +kernel
theorem dX2_firstLackedWord_7 : decode cX2_firstLackedWord 7 = .ok (.iload_n 2, 1) := by decide +kernel
theorem dX2_firstLackedWord_8 : decode cX2_firstLackedWord 8 = .ok (.aload_n 0, 1) := by decide +kernel
theorem dX2_firstLackedWord_9 : decode cX2_firstLackedWord 9 = .ok (.iload_n 1, 1) := by decide +kernel
theorem dX2_firstLackedWord_10 : decode cX2_firstLackedWord 10 = .ok (.invokevirtual 88, 3) := by decide +kernel
theorem dX2_firstLackedWord_13 : decode cX2_firstLackedWord 13 = .ok (.invokevirtual 74, 3) := by decide +kernel
theorem dX2_firstLackedWord_16 : decode cX2_firstLackedWord 16 = .ok (.ifCond .ne 5, 3) := by decide +kernel
theorem dX2_firstLackedWord_19 : decode cX2_firstLackedWord 19 = .ok (.iconst (-1), 1) := by decide +kernel
theorem dX2_firstLackedWord_20 : decode cX2_firstLackedWord 20 = .ok (.ireturn, 1) := by decide +kernel
theorem dX2_firstLackedWord_21 : decode cX2_firstLackedWord 21 = .ok (.aload_n 0, 1) := by decide +kernel
theorem dX2_firstLackedWord_22 : decode cX2_firstLackedWord 22 = .ok (.getfield 27, 3) := by decide +kernel
theorem dX2_firstLackedWord_25 : decode cX2_firstLackedWord 25 = .ok (.aload_n 0, 1) := by decide +kernel
theorem dX2_firstLackedWord_26 : decode cX2_firstLackedWord 26 = .ok (.iload_n 1, 1) := by decide +kernel
theorem dX2_firstLackedWord_27 : decode cX2_firstLackedWord 27 = .ok (.invokevirtual 60, 3) := by decide +kernel
theorem dX2_firstLackedWord_30 : decode cX2_firstLackedWord 30 = .ok (.invokevirtual 78, 3) := by decide +kernel
theorem dX2_firstLackedWord_33 : decode cX2_firstLackedWord 33 = .ok (.istore_n 3, 1) := by decide +kernel
theorem dX2_firstLackedWord_34 : decode cX2_firstLackedWord 34 = .ok (.aload_n 0, 1) := by decide +kernel
theorem dX2_firstLackedWord_35 : decode cX2_firstLackedWord 35 = .ok (.getfield 31, 3) := by decide +kernel
theorem dX2_firstLackedWord_38 : decode cX2_firstLackedWord 38 = .ok (.aload_n 0, 1) := by decide +kernel
theorem dX2_firstLackedWord_39 : decode cX2_firstLackedWord 39 = .ok (.iload_n 1, 1) := by decide +kernel
theorem dX2_firstLackedWord_40 : decode cX2_firstLackedWord 40 = .ok (.invokevirtual 63, 3) := by decide +kernel
theorem dX2_firstLackedWord_43 : decode cX2_firstLackedWord 43 = .ok (.invokevirtual 78, 3) := by decide +kernel
theorem dX2_firstLackedWord_46 : decode cX2_firstLackedWord 46 = .ok (.istore 4, 2) := by decide +kernel
theorem dX2_firstLackedWord_48 : decode cX2_firstLackedWord 48 = .ok (.iload_n 2, 1) := by decide +kernel
theorem dX2_firstLackedWord_49 : decode cX2_firstLackedWord 49 = .ok (.iload_n 3, 1) := by decide +kernel
theorem dX2_firstLackedWord_50 : decode cX2_firstLackedWord 50 = .ok (.iload 4, 2) := by decide +kernel
theorem dX2_firstLackedWord_52 : decode cX2_firstLackedWord 52 = .ok (.invokestatic 91, 3) := by decide +kernel
theorem dX2_firstLackedWord_55 : decode cX2_firstLackedWord 55 = .ok (.invokestatic 95, 3) := by decide +kernel
theorem dX2_firstLackedWord_58 : decode cX2_firstLackedWord 58 = .ok (.ireturn, 1) := by decide +kernel
theorem dX2_lackedWords_0 : decode cX2_lackedWords 0 = .ok (.iload_n 0, 1) := by decide +kernel
theorem dX2_lackedWords_1 : decode cX2_lackedWords 1 = .ok (.iconst 1, 1) := by decide +kernel
theorem dX2_lackedWords_2 : decode cX2_lackedWords 2 = .ok (.if_icmp .ne 11, 3) := by decide +kernel
theorem dX2_lackedWords_5 : decode cX2_lackedWords 5 = .ok (.iload_n 1, 1) := by decide +kernel
theorem dX2_lackedWords_6 : decode cX2_lackedWords 6 = .ok (.iload_n 2, 1) := by decide +kernel
theorem dX2_lackedWords_7 : decode cX2_lackedWords 7 = .ok (.iconst (-1), 1) := by decide +kernel
theorem dX2_lackedWords_8 : decode cX2_lackedWords 8 = .ok (.ixor, 1) := by decide +kernel
theorem dX2_lackedWords_9 : decode cX2_lackedWords 9 = .ok (.iand, 1) := by decide +kernel
theorem dX2_lackedWords_10 : decode cX2_lackedWords 10 = .ok (.goto 8, 3) := by decide +kernel
theorem dX2_lackedWords_13 : decode cX2_lackedWords 13 = .ok (.iload_n 2, 1) := by decide +kernel
theorem dX2_lackedWords_14 : decode cX2_lackedWords 14 = .ok (.iload_n 1, 1) := by decide +kernel
theorem dX2_lackedWords_15 : decode cX2_lackedWords 15 = .ok (.iconst (-1), 1) := by decide +kernel
theorem dX2_lackedWords_16 : decode cX2_lackedWords 16 = .ok (.ixor, 1) := by decide +kernel
theorem dX2_lackedWords_17 : decode cX2_lackedWords 17 = .ok (.iand, 1) := by decide +kernel
theorem dX2_lackedWords_18 : decode cX2_lackedWords 18 = .ok (.ireturn, 1) := by decide +kernel
theorem dX2_firstFaulty_0 : decode cX2_firstFaulty 0 = .ok (.iconst 0, 1) := by decide +kernel
theorem dX2_firstFaulty_1 : decode cX2_firstFaulty 1 = .ok (.istore_n 1, 1) := by decide +kernel
theorem dX2_firstFaulty_2 : decode cX2_firstFaulty 2 = .ok (.iload_n 1, 1) := by decide +kernel
theorem dX2_firstFaulty_3 : decode cX2_firstFaulty 3 = .ok (.aload_n 0, 1) := by decide +kernel
theorem dX2_firstFaulty_4 : decode cX2_firstFaulty 4 = .ok (.getfield 40, 3) := by decide +kernel
theorem dX2_firstFaulty_7 : decode cX2_firstFaulty 7 = .ok (.if_icmp .ge 19, 3) := by decide +kernel
theorem dX2_firstFaulty_10 : decode cX2_firstFaulty 10 = .ok (.aload_n 0, 1) := by decide +kernel
theorem dX2_firstFaulty_11 : decode cX2_firstFaulty 11 = .ok (.iload_n 1, 1) := by decide +kernel
theorem dX2_firstFaulty_12 : decode cX2_firstFaulty 12 = .ok (.invokevirtual 98, 3) := by decide +kernel
theorem dX2_firstFaulty_15 : decode cX2_firstFaulty 15 = .ok (.ifCond .eq 5, 3) := by decide +kernel
theorem dX2_firstFaulty_18 : decode cX2_firstFaulty 18 = .ok (.iload_n 1, 1) := by decide +kernel
theorem dX2_firstFaulty_19 : decode cX2_firstFaulty 19 = .ok (.ireturn, 1) := by decide +kernel
theorem dX2_firstFaulty_20 : decode cX2_firstFaulty 20 = .ok (.iinc 1 1, 3) := by decide +kernel
theorem dX2_firstFaulty_23 : decode cX2_firstFaulty 23 = .ok (.goto (-21), 3) := by decide +kernel
theorem dX2_firstFaulty_26 : decode cX2_firstFaulty 26 = .ok (.iconst (-1), 1) := by decide +kernel
theorem dX2_firstFaulty_27 : decode cX2_firstFaulty 27 = .ok (.ireturn, 1) := by decide +kernel
theorem dX2_tellMore_0 : decode cX2_tellMore 0 = .ok (.iload_n 2, 1) := by decide +kernel
theorem dX2_tellMore_1 : decode cX2_tellMore 1 = .ok (.lookupswitch 42 #[(3, 27), (4, 33)], 27) := by decide +kernel
theorem dX2_tellMore_28 : decode cX2_tellMore 28 = .ok (.aload_n 0, 1) := by decide +kernel
theorem dX2_tellMore_29 : decode cX2_tellMore 29 = .ok (.iload_n 1, 1) := by decide +kernel
theorem dX2_tellMore_30 : decode cX2_tellMore 30 = .ok (.invokevirtual 98, 3) := by decide +kernel
theorem dX2_tellMore_33 : decode cX2_tellMore 33 = .ok (.ireturn, 1) := by decide +kernel
theorem dX2_tellMore_34 : decode cX2_tellMore 34 = .ok (.aload_n 0, 1) := by decide +kernel
theorem dX2_tellMore_35 : decode cX2_tellMore 35 = .ok (.iload_n 1, 1) := by decide +kernel
theorem dX2_tellMore_36 : decode cX2_tellMore 36 = .ok (.invokevirtual 101, 3) := by decide +kernel
theorem dX2_tellMore_39 : decode cX2_tellMore 39 = .ok (.invokestatic 104, 3) := by decide +kernel
theorem dX2_tellMore_42 : decode cX2_tellMore 42 = .ok (.ireturn, 1) := by decide +kernel
theorem dX2_tellMore_43 : decode cX2_tellMore 43 = .ok (.aload_n 0, 1) := by decide +kernel
theorem dX2_tellMore_44 : decode cX2_tellMore 44 = .ok (.iload_n 1, 1) := by decide +kernel
theorem dX2_tellMore_45 : decode cX2_tellMore 45 = .ok (.iload_n 2, 1) := by decide +kernel
theorem dX2_tellMore_46 : decode cX2_tellMore 46 = .ok (.bipush 10, 2) := by decide +kernel
theorem dX2_tellMore_48 : decode cX2_tellMore 48 = .ok (.isub, 1) := by decide +kernel
theorem dX2_tellMore_49 : decode cX2_tellMore 49 = .ok (.invokevirtual 107, 3) := by decide +kernel
theorem dX2_tellMore_52 : decode cX2_tellMore 52 = .ok (.invokestatic 104, 3) := by decide +kernel
theorem dX2_tellMore_55 : decode cX2_tellMore 55 = .ok (.ireturn, 1) := by decide +kernel
theorem dX2_wordOfRow_0 : decode cX2_wordOfRow 0 = .ok (.iload_n 1, 1) := by decide +kernel
theorem dX2_wordOfRow_1 : decode cX2_wordOfRow 1 = .ok (.istore_n 3, 1) := by decide +kernel
theorem dX2_wordOfRow_2 : decode cX2_wordOfRow 2 = .ok (.aload_n 0, 1) := by decide +kernel
theorem dX2_wordOfRow_3 : decode cX2_wordOfRow 3 = .ok (.iload_n 1, 1) := by decide +kernel
theorem dX2_wordOfRow_4 : decode cX2_wordOfRow 4 = .ok (.invokevirtual 56, 3) := by decide +kernel
theorem dX2_wordOfRow_7 : decode cX2_wordOfRow 7 = .ok (.istore 4, 2) := by decide +kernel
theorem dX2_wordOfRow_9 : decode cX2_wordOfRow 9 = .ok (.iload 4, 2) := by decide +kernel
theorem dX2_wordOfRow_11 : decode cX2_wordOfRow 11 = .ok (.iload_n 2, 1) := by decide +kernel
theorem dX2_wordOfRow_12 : decode cX2_wordOfRow 12 = .ok (.iconst 1, 1) := by decide +kernel
theorem dX2_wordOfRow_13 : decode cX2_wordOfRow 13 = .ok (.iadd, 1) := by decide +kernel
theorem dX2_wordOfRow_14 : decode cX2_wordOfRow 14 = .ok (.if_icmp .le 18, 3) := by decide +kernel
theorem dX2_wordOfRow_17 : decode cX2_wordOfRow 17 = .ok (.aload_n 0, 1) := by decide +kernel
theorem dX2_wordOfRow_18 : decode cX2_wordOfRow 18 = .ok (.getfield 21, 3) := by decide +kernel
theorem dX2_wordOfRow_21 : decode cX2_wordOfRow 21 = .ok (.iload_n 3, 1) := by decide +kernel
theorem dX2_wordOfRow_22 : decode cX2_wordOfRow 22 = .ok (.invokestatic 52, 3) := by decide +kernel
theorem dX2_wordOfRow_25 : decode cX2_wordOfRow 25 = .ok (.istore_n 3, 1) := by decide +kernel
theorem dX2_wordOfRow_26 : decode cX2_wordOfRow 26 = .ok (.iinc 4 (-1), 3) := by decide +kernel
theorem dX2_wordOfRow_29 : decode cX2_wordOfRow 29 = .ok (.goto (-20), 3) := by decide +kernel
theorem dX2_wordOfRow_32 : decode cX2_wordOfRow 32 = .ok (.iload_n 2, 1) := by decide +kernel
theorem dX2_wordOfRow_33 : decode cX2_wordOfRow 33 = .ok (.aload_n 0, 1) := by decide +kernel
theorem dX2_wordOfRow_34 : decode cX2_wordOfRow 34 = .ok (.iload_n 1, 1) := by decide +kernel
theorem dX2_wordOfRow_35 : decode cX2_wordOfRow 35 = .ok (.invokevirtual 56, 3) := by decide +kernel
theorem dX2_wordOfRow_38 : decode cX2_wordOfRow 38 = .ok (.if_icmp .ge 14, 3) := by decide +kernel
theorem dX2_wordOfRow_41 : decode cX2_wordOfRow 41 = .ok (.aload_n 0, 1) := by decide +kernel
theorem dX2_wordOfRow_42 : decode cX2_wordOfRow 42 = .ok (.getfield 24, 3) := by decide +kernel
theorem dX2_wordOfRow_45 : decode cX2_wordOfRow 45 = .ok (.iload_n 3, 1) := by decide +kernel
theorem dX2_wordOfRow_46 : decode cX2_wordOfRow 46 = .ok (.invokestatic 52, 3) := by decide +kernel
theorem dX2_wordOfRow_49 : decode cX2_wordOfRow 49 = .ok (.goto 4, 3) := by decide +kernel
theorem dX2_wordOfRow_52 : decode cX2_wordOfRow 52 = .ok (.iconst (-1), 1) := by decide +kernel
theorem dX2_wordOfRow_53 : decode cX2_wordOfRow 53 = .ok (.ireturn, 1) := by decide +kernel
theorem dX3_init_0 : decode cX3_init 0 = .ok (.aload_n 0, 1) := by decide +kernel
theorem dX3_init_1 : decode cX3_init 1 = .ok (.invokespecial 3, 3) := by decide +kernel
theorem dX3_init_4 : decode cX3_init 4 = .ok (.aload_n 0, 1) := by decide +kernel
theorem dX3_init_5 : decode cX3_init 5 = .ok (.bipush 56, 2) := by decide +kernel
theorem dX3_init_7 : decode cX3_init 7 = .ok (.newarray .int, 2) := by decide +kernel
theorem dX3_init_9 : decode cX3_init 9 = .ok (.putfield 11, 3) := by decide +kernel
theorem dX3_init_12 : decode cX3_init 12 = .ok (.aload_n 0, 1) := by decide +kernel
theorem dX3_init_13 : decode cX3_init 13 = .ok (.invokevirtual 15, 3) := by decide +kernel
theorem dX3_init_16 : decode cX3_init 16 = .ok (.return_, 1) := by decide +kernel
theorem dX3_clear_0 : decode cX3_clear 0 = .ok (.iconst 0, 1) := by decide +kernel
theorem dX3_clear_1 : decode cX3_clear 1 = .ok (.istore_n 1, 1) := by decide +kernel
theorem dX3_clear_2 : decode cX3_clear 2 = .ok (.iload_n 1, 1) := by decide +kernel
theorem dX3_clear_3 : decode cX3_clear 3 = .ok (.bipush 8, 2) := by decide +kernel
theorem dX3_clear_5 : decode cX3_clear 5 = .ok (.if_icmp .ge 36, 3) := by decide +kernel
theorem dX3_clear_8 : decode cX3_clear 8 = .ok (.aload_n 0, 1) := by decide +kernel
theorem dX3_clear_9 : decode cX3_clear 9 = .ok (.iload_n 1, 1) := by decide +kernel
theorem dX3_clear_10 : decode cX3_clear 10 = .ok (.iconst 0, 1) := by decide +kernel
theorem dX3_clear_11 : decode cX3_clear 11 = .ok (.invokevirtual 18, 3) := by decide +kernel
theorem dX3_clear_14 : decode cX3_clear 14 = .ok (.iconst 0, 1) := by decide +kernel
theorem dX3_clear_15 : decode cX3_clear 15 = .ok (.istore_n 2, 1) := by decide +kernel
theorem dX3_clear_16 : decode cX3_clear 16 = .ok (.iload_n 2, 1) := by decide +kernel
theorem dX3_clear_17 : decode cX3_clear 17 = .ok (.bipush 6, 2) := by decide +kernel
theorem dX3_clear_19 : decode cX3_clear 19 = .ok (.if_icmp .ge 16, 3) := by decide +kernel
theorem dX3_clear_22 : decode cX3_clear 22 = .ok (.aload_n 0, 1) := by decide +kernel
theorem dX3_clear_23 : decode cX3_clear 23 = .ok (.iload_n 1, 1) := by decide +kernel
theorem dX3_clear_24 : decode cX3_clear 24 = .ok (.iload_n 2, 1) := by decide +kernel
theorem dX3_clear_25 : decode cX3_clear 25 = .ok (.iconst (-1), 1) := by decide +kernel
theorem dX3_clear_26 : decode cX3_clear 26 = .ok (.invokevirtual 22, 3) := by decide +kernel
theorem dX3_clear_29 : decode cX3_clear 29 = .ok (.iinc 2 1, 3) := by decide +kernel
theorem dX3_clear_32 : decode cX3_clear 32 = .ok (.goto (-16), 3) := by decide +kernel
theorem dX3_clear_35 : decode cX3_clear 35 = .ok (.iinc 1 1, 3) := by decide +kernel
theorem dX3_clear_38 : decode cX3_clear 38 = .ok (.goto (-36), 3) := by decide +kernel
theorem dX3_clear_41 : decode cX3_clear 41 = .ok (.return_, 1) := by decide +kernel
theorem dX3_kindOf_0 : decode cX3_kindOf 0 = .ok (.iload_n 1, 1) := by decide +kernel
theorem dX3_kindOf_1 : decode cX3_kindOf 1 = .ok (.invokestatic 26, 3) := by decide +kernel
theorem dX3_kindOf_4 : decode cX3_kindOf 4 = .ok (.ifCond .eq 15, 3) := by decide +kernel
theorem dX3_kindOf_7 : decode cX3_kindOf 7 = .ok (.aload_n 0, 1) := by decide +kernel
theorem dX3_kindOf_8 : decode cX3_kindOf 8 = .ok (.getfield 11, 3) := by decide +kernel
theorem dX3_kindOf_11 : decode cX3_kindOf 11 = .ok (.iload_n 1, 1) := by decide +kernel
theorem dX3_kindOf_12 : decode cX3_kindOf 12 = .ok (.bipush 7, 2) := by decide +kernel
theorem dX3_kindOf_14 : decode cX3_kindOf 14 = .ok (.imul, 1) := by decide +kernel
theorem dX3_kindOf_15 : decode cX3_kindOf 15 = .ok (.iaload, 1) := by decide +kernel
theorem dX3_kindOf_16 : decode cX3_kindOf 16 = .ok (.goto 4, 3) := by decide +kernel
theorem dX3_kindOf_19 : decode cX3_kindOf 19 = .ok (.iconst 0, 1) := by decide +kernel
theorem dX3_kindOf_20 : decode cX3_kindOf 20 = .ok (.ireturn, 1) := by decide +kernel
theorem dX3_setKind_0 : decode cX3_setKind 0 = .ok (.iload_n 1, 1) := by decide +kernel
theorem dX3_setKind_1 : decode cX3_setKind 1 = .ok (.invokestatic 26, 3) := by decide +kernel
theorem dX3_setKind_4 : decode cX3_setKind 4 = .ok (.ifCond .eq 13, 3) := by decide +kernel
theorem dX3_setKind_7 : decode cX3_setKind 7 = .ok (.aload_n 0, 1) := by decide +kernel
theorem dX3_setKind_8 : decode cX3_setKind 8 = .ok (.getfield 11, 3) := by decide +kernel
theorem dX3_setKind_11 : decode cX3_setKind 11 = .ok (.iload_n 1, 1) := by decide +kernel
theorem dX3_setKind_12 : decode cX3_setKind 12 = .ok (.bipush 7, 2) := by decide +kernel
theorem dX3_setKind_14 : decode cX3_setKind 14 = .ok (.imul, 1) := by decide +kernel
theorem dX3_setKind_15 : decode cX3_setKind 15 = .ok (.iload_n 2, 1) := by decide +kernel
theorem dX3_setKind_16 : decode cX3_setKind 16 = .ok (.iastore, 1) := by decide +kernel
theorem dX3_setKind_17 : decode cX3_setKind 17 = .ok (.return_, 1) := by decide +kernel
theorem dX3_targetOf_0 : decode cX3_targetOf 0 = .ok (.iload_n 1, 1) := by decide +kernel
theorem dX3_targetOf_1 : decode cX3_targetOf 1 = .ok (.invokestatic 26, 3) := by decide +kernel
theorem dX3_targetOf_4 : decode cX3_targetOf 4 = .ok (.ifCond .eq 26, 3) := by decide +kernel
theorem dX3_targetOf_7 : decode cX3_targetOf 7 = .ok (.iload_n 2, 1) := by decide +kernel
theorem dX3_targetOf_8 : decode cX3_targetOf 8 = .ok (.invokestatic 30, 3) := by decide +kernel
theorem dX3_targetOf_11 : decode cX3_targetOf 11 = .ok (.ifCond .eq 19, 3) := by decide +kernel
theorem dX3_targetOf_14 : decode cX3_targetOf 14 = .ok (.aload_n 0, 1) := by decide +kernel
theorem dX3_targetOf_15 : decode cX3_targetOf 15 = .ok (.getfield 11, 3) := by decide +kernel
theorem dX3_targetOf_18 : decode cX3_targetOf 18 = .ok (.iload_n 1, 1) := by decide +kernel
theorem dX3_targetOf_19 : decode cX3_targetOf 19 = .ok (.bipush 7, 2) := by decide +kernel
theorem dX3_targetOf_21 : decode cX3_targetOf 21 = .ok (.imul, 1) := by decide +kernel
theorem dX3_targetOf_22 : decode cX3_targetOf 22 = .ok (.iconst 1, 1) := by decide +kernel
theorem dX3_targetOf_23 : decode cX3_targetOf 23 = .ok (.iadd, 1) := by decide +kernel
theorem dX3_targetOf_24 : decode cX3_targetOf 24 = .ok (.iload_n 2, 1) := by decide +kernel
theorem dX3_targetOf_25 : decode cX3_targetOf 25 = .ok (.iadd, 1) := by decide +kernel
theorem dX3_targetOf_26 : decode cX3_targetOf 26 = .ok (.iaload, 1) := by decide +kernel
theorem dX3_targetOf_27 : decode cX3_targetOf 27 = .ok (.goto 4, 3) := by decide +kernel
theorem dX3_targetOf_30 : decode cX3_targetOf 30 = .ok (.iconst (-1), 1) := by decide +kernel
theorem dX3_targetOf_31 : decode cX3_targetOf 31 = .ok (.ireturn, 1) := by decide +kernel
theorem dX3_setTarget_0 : decode cX3_setTarget 0 = .ok (.iload_n 1, 1) := by decide +kernel
theorem dX3_setTarget_1 : decode cX3_setTarget 1 = .ok (.invokestatic 26, 3) := by decide +kernel
theorem dX3_setTarget_4 : decode cX3_setTarget 4 = .ok (.ifCond .eq 24, 3) := by decide +kernel
theorem dX3_setTarget_7 : decode cX3_setTarget 7 = .ok (.iload_n 2, 1) := by decide +kernel
theorem dX3_setTarget_8 : decode cX3_setTarget 8 = .ok (.invokestatic 30, 3) := by decide +kernel
theorem dX3_setTarget_11 : decode cX3_setTarget 11 = .ok (.ifCond .eq 17, 3) := by decide +kernel
theorem dX3_setTarget_14 : decode cX3_setTarget 14 = .ok (.aload_n 0, 1) := by decide +kernel
theorem dX3_setTarget_15 : decode cX3_setTarget 15 = .ok (.getfield 11, 3) := by decide +kernel
theorem dX3_setTarget_18 : decode cX3_setTarget 18 = .ok (.iload_n 1, 1) := by decide +kernel
theorem dX3_setTarget_19 : decode cX3_setTarget 19 = .ok (.bipush 7, 2) := by decide +kernel
theorem dX3_setTarget_21 : decode cX3_setTarget 21 = .ok (.imul, 1) := by decide +kernel
theorem dX3_setTarget_22 : decode cX3_setTarget 22 = .ok (.iconst 1, 1) := by decide +kernel
theorem dX3_setTarget_23 : decode cX3_setTarget 23 = .ok (.iadd, 1) := by decide +kernel
theorem dX3_setTarget_24 : decode cX3_setTarget 24 = .ok (.iload_n 2, 1) := by decide +kernel
theorem dX3_setTarget_25 : decode cX3_setTarget 25 = .ok (.iadd, 1) := by decide +kernel
theorem dX3_setTarget_26 : decode cX3_setTarget 26 = .ok (.iload_n 3, 1) := by decide +kernel
theorem dX3_setTarget_27 : decode cX3_setTarget 27 = .ok (.iastore, 1) := by decide +kernel
theorem dX3_setTarget_28 : decode cX3_setTarget 28 = .ok (.return_, 1) := by decide +kernel
theorem dX3_wordsOf_0 : decode cX3_wordsOf 0 = .ok (.iconst 0, 1) := by decide +kernel
theorem dX3_wordsOf_1 : decode cX3_wordsOf 1 = .ok (.istore_n 2, 1) := by decide +kernel
theorem dX3_wordsOf_2 : decode cX3_wordsOf 2 = .ok (.iconst 0, 1) := by decide +kernel
theorem dX3_wordsOf_3 : decode cX3_wordsOf 3 = .ok (.istore_n 3, 1) := by decide +kernel
theorem dX3_wordsOf_4 : decode cX3_wordsOf 4 = .ok (.iload_n 3, 1) := by decide +kernel
theorem dX3_wordsOf_5 : decode cX3_wordsOf 5 = .ok (.bipush 6, 2) := by decide +kernel
theorem dX3_wordsOf_7 : decode cX3_wordsOf 7 = .ok (.if_icmp .ge 25, 3) := by decide +kernel
theorem dX3_wordsOf_10 : decode cX3_wordsOf 10 = .ok (.aload_n 0, 1) := by decide +kernel
theorem dX3_wordsOf_11 : decode cX3_wordsOf 11 = .ok (.iload_n 1, 1) := by decide +kernel
theorem dX3_wordsOf_12 : decode cX3_wordsOf 12 = .ok (.iload_n 3, 1) := by decide +kernel
theorem dX3_wordsOf_13 : decode cX3_wordsOf 13 = .ok (.invokevirtual 33, 3) := by decide +kernel
theorem dX3_wordsOf_16 : decode cX3_wordsOf 16 = .ok (.iconst (-1), 1) := by decide +kernel
theorem dX3_wordsOf_17 : decode cX3_wordsOf 17 = .ok (.if_icmp .eq 9, 3) := by decide +kernel
theorem dX3_wordsOf_20 : decode cX3_wordsOf 20 = .ok (.iload_n 2, 1) := by decide +kernel
theorem dX3_wordsOf_21 : decode cX3_wordsOf 21 = .ok (.iconst 1, 1) := by decide +kernel
theorem dX3_wordsOf_22 : decode cX3_wordsOf 22 = .ok (.iload_n 3, 1) := by decide +kernel
theorem dX3_wordsOf_23 : decode cX3_wordsOf 23 = .ok (.ishl, 1) := by decide +kernel
theorem dX3_wordsOf_24 : decode cX3_wordsOf 24 = .ok (.ior, 1) := by decide +kernel
theorem dX3_wordsOf_25 : decode cX3_wordsOf 25 = .ok (.istore_n 2, 1) := by decide +kernel
theorem dX3_wordsOf_26 : decode cX3_wordsOf 26 = .ok (.iinc 3 1, 3) := by decide +kernel
theorem dX3_wordsOf_29 : decode cX3_wordsOf 29 = .ok (.goto (-25), 3) := by decide +kernel
theorem dX3_wordsOf_32 : decode cX3_wordsOf 32 = .ok (.iload_n 2, 1) := by decide +kernel
theorem dX3_wordsOf_33 : decode cX3_wordsOf 33 = .ok (.ireturn, 1) := by decide +kernel
theorem dX3_arrows_0 : decode cX3_arrows 0 = .ok (.iconst 0, 1) := by decide +kernel
theorem dX3_arrows_1 : decode cX3_arrows 1 = .ok (.istore_n 1, 1) := by decide +kernel
theorem dX3_arrows_2 : decode cX3_arrows 2 = .ok (.iconst 0, 1) := by decide +kernel
theorem dX3_arrows_3 : decode cX3_arrows 3 = .ok (.istore_n 2, 1) := by decide +kernel
theorem dX3_arrows_4 : decode cX3_arrows 4 = .ok (.iload_n 2, 1) := by decide +kernel
theorem dX3_arrows_5 : decode cX3_arrows 5 = .ok (.bipush 8, 2) := by decide +kernel
theorem dX3_arrows_7 : decode cX3_arrows 7 = .ok (.if_icmp .ge 20, 3) := by decide +kernel
theorem dX3_arrows_10 : decode cX3_arrows 10 = .ok (.iload_n 1, 1) := by decide +kernel
theorem dX3_arrows_11 : decode cX3_arrows 11 = .ok (.aload_n 0, 1) := by decide +kernel
theorem dX3_arrows_12 : decode cX3_arrows 12 = .ok (.iload_n 2, 1) := by decide +kernel
theorem dX3_arrows_13 : decode cX3_arrows 13 = .ok (.invokevirtual 37, 3) := by decide +kernel
theorem dX3_arrows_16 : decode cX3_arrows 16 = .ok (.invokestatic 41, 3) := by decide +kernel
theorem dX3_arrows_19 : decode cX3_arrows 19 = .ok (.iadd, 1) := by decide +kernel
theorem dX3_arrows_20 : decode cX3_arrows 20 = .ok (.istore_n 1, 1) := by decide +kernel
theorem dX3_arrows_21 : decode cX3_arrows 21 = .ok (.iinc 2 1, 3) := by decide +kernel
theorem dX3_arrows_24 : decode cX3_arrows 24 = .ok (.goto (-20), 3) := by decide +kernel
theorem dX3_arrows_27 : decode cX3_arrows 27 = .ok (.iload_n 1, 1) := by decide +kernel
theorem dX3_arrows_28 : decode cX3_arrows 28 = .ok (.ireturn, 1) := by decide +kernel
theorem dX3_lastingStates_0 : decode cX3_lastingStates 0 = .ok (.iconst 0, 1) := by decide +kernel
theorem dX3_lastingStates_1 : decode cX3_lastingStates 1 = .ok (.istore_n 1, 1) := by decide +kernel
theorem dX3_lastingStates_2 : decode cX3_lastingStates 2 = .ok (.iconst 0, 1) := by decide +kernel
theorem dX3_lastingStates_3 : decode cX3_lastingStates 3 = .ok (.istore_n 2, 1) := by decide +kernel
theorem dX3_lastingStates_4 : decode cX3_lastingStates 4 = .ok (.iload_n 2, 1) := by decide +kernel
theorem dX3_lastingStates_5 : decode cX3_lastingStates 5 = .ok (.bipush 8, 2) := by decide +kernel
theorem dX3_lastingStates_7 : decode cX3_lastingStates 7 = .ok (.if_icmp .ge 20, 3) := by decide +kernel
theorem dX3_lastingStates_10 : decode cX3_lastingStates 10 = .ok (.aload_n 0, 1) := by decide +kernel
theorem dX3_lastingStates_11 : decode cX3_lastingStates 11 = .ok (.iload_n 2, 1) := by decide +kernel
theorem dX3_lastingStates_12 : decode cX3_lastingStates 12 = .ok (.invokevirtual 46, 3) := by decide +kernel
theorem dX3_lastingStates_15 : decode cX3_lastingStates 15 = .ok (.ifCond .eq 6, 3) := by decide +kernel
theorem dX3_lastingStates_18 : decode cX3_lastingStates 18 = .ok (.iinc 1 1, 3) := by decide +kernel
theorem dX3_lastingStates_21 : decode cX3_lastingStates 21 = .ok (.iinc 2 1, 3) := by decide +kernel
theorem dX3_lastingStates_24 : decode cX3_lastingStates 24 = .ok (.goto (-20), 3) := by decide +kernel
theorem dX3_lastingStates_27 : decode cX3_lastingStates 27 = .ok (.iload_n 1, 1) := by decide +kernel
theorem dX3_lastingStates_28 : decode cX3_lastingStates 28 = .ok (.ireturn, 1) := by decide +kernel
theorem dX3_swapSides_0 : decode cX3_swapSides 0 = .ok (.iconst 0, 1) := by decide +kernel
theorem dX3_swapSides_1 : decode cX3_swapSides 1 = .ok (.istore_n 1, 1) := by decide +kernel
theorem dX3_swapSides_2 : decode cX3_swapSides 2 = .ok (.iload_n 1, 1) := by decide +kernel
theorem dX3_swapSides_3 : decode cX3_swapSides 3 = .ok (.bipush 8, 2) := by decide +kernel
theorem dX3_swapSides_5 : decode cX3_swapSides 5 = .ok (.if_icmp .ge 34, 3) := by decide +kernel
theorem dX3_swapSides_8 : decode cX3_swapSides 8 = .ok (.aload_n 0, 1) := by decide +kernel
theorem dX3_swapSides_9 : decode cX3_swapSides 9 = .ok (.iload_n 1, 1) := by decide +kernel
theorem dX3_swapSides_10 : decode cX3_swapSides 10 = .ok (.invokevirtual 46, 3) := by decide +kernel
theorem dX3_swapSides_13 : decode cX3_swapSides 13 = .ok (.istore_n 2, 1) := by decide +kernel
theorem dX3_swapSides_14 : decode cX3_swapSides 14 = .ok (.iload_n 2, 1) := by decide +kernel
theorem dX3_swapSides_15 : decode cX3_swapSides 15 = .ok (.ifCond .eq 18, 3) := by decide +kernel
theorem dX3_swapSides_18 : decode cX3_swapSides 18 = .ok (.aload_n 0, 1) := by decide +kernel
theorem dX3_swapSides_19 : decode cX3_swapSides 19 = .ok (.iload_n 1, 1) := by decide +kernel
theorem dX3_swapSides_20 : decode cX3_swapSides 20 = .ok (.iload_n 2, 1) := by decide +kernel
theorem dX3_swapSides_21 : decode cX3_swapSides 21 = .ok (.iconst 1, 1) := by decide +kernel
theorem dX3_swapSides_22 : decode cX3_swapSides 22 = .ok (.if_icmp .ne 7, 3) := by decide +kernel
theorem dX3_swapSides_25 : decode cX3_swapSides 25 = .ok (.iconst 2, 1) := by decide +kernel
theorem dX3_swapSides_26 : decode cX3_swapSides 26 = .ok (.goto 4, 3) := by decide +kernel
theorem dX3_swapSides_29 : decode cX3_swapSides 29 = .ok (.iconst 1, 1) := by decide +kernel
theorem dX3_swapSides_30 : decode cX3_swapSides 30 = .ok (.invokevirtual 18, 3) := by decide +kernel
theorem dX3_swapSides_33 : decode cX3_swapSides 33 = .ok (.iinc 1 1, 3) := by decide +kernel
theorem dX3_swapSides_36 : decode cX3_swapSides 36 = .ok (.goto (-34), 3) := by decide +kernel
theorem dX3_swapSides_39 : decode cX3_swapSides 39 = .ok (.return_, 1) := by decide +kernel
theorem dX3_comesTo_0 : decode cX3_comesTo 0 = .ok (.iload_n 1, 1) := by decide +kernel
theorem dX3_comesTo_1 : decode cX3_comesTo 1 = .ok (.invokestatic 26, 3) := by decide +kernel
theorem dX3_comesTo_4 : decode cX3_comesTo 4 = .ok (.ifCond .eq 9, 3) := by decide +kernel
theorem dX3_comesTo_7 : decode cX3_comesTo 7 = .ok (.iconst 1, 1) := by decide +kernel
theorem dX3_comesTo_8 : decode cX3_comesTo 8 = .ok (.iload_n 1, 1) := by decide +kernel
theorem dX3_comesTo_9 : decode cX3_comesTo 9 = .ok (.ishl, 1) := by decide +kernel
theorem dX3_comesTo_10 : decode cX3_comesTo 10 = .ok (.goto 4, 3) := by decide +kernel
theorem dX3_comesTo_13 : decode cX3_comesTo 13 = .ok (.iconst 0, 1) := by decide +kernel
theorem dX3_comesTo_14 : decode cX3_comesTo 14 = .ok (.istore_n 2, 1) := by decide +kernel
theorem dX3_comesTo_15 : decode cX3_comesTo 15 = .ok (.iconst 1, 1) := by decide +kernel
theorem dX3_comesTo_16 : decode cX3_comesTo 16 = .ok (.istore_n 3, 1) := by decide +kernel
theorem dX3_comesTo_17 : decode cX3_comesTo 17 = .ok (.iload_n 3, 1) := by decide +kernel
theorem dX3_comesTo_18 : decode cX3_comesTo 18 = .ok (.bipush 8, 2) := by decide +kernel
theorem dX3_comesTo_20 : decode cX3_comesTo 20 = .ok (.if_icmp .ge 43, 3) := by decide +kernel
theorem dX3_comesTo_23 : decode cX3_comesTo 23 = .ok (.iconst 0, 1) := by decide +kernel
theorem dX3_comesTo_24 : decode cX3_comesTo 24 = .ok (.istore 4, 2) := by decide +kernel
theorem dX3_comesTo_26 : decode cX3_comesTo 26 = .ok (.iload 4, 2) := by decide +kernel
theorem dX3_comesTo_28 : decode cX3_comesTo 28 = .ok (.bipush 8, 2) := by decide +kernel
theorem dX3_comesTo_30 : decode cX3_comesTo 30 = .ok (.if_icmp .ge 27, 3) := by decide +kernel
theorem dX3_comesTo_33 : decode cX3_comesTo 33 = .ok (.iload_n 2, 1) := by decide +kernel
theorem dX3_comesTo_34 : decode cX3_comesTo 34 = .ok (.iload 4, 2) := by decide +kernel
theorem dX3_comesTo_36 : decode cX3_comesTo 36 = .ok (.invokestatic 49, 3) := by decide +kernel
theorem dX3_comesTo_39 : decode cX3_comesTo 39 = .ok (.ifCond .eq 12, 3) := by decide +kernel
theorem dX3_comesTo_42 : decode cX3_comesTo 42 = .ok (.iload_n 2, 1) := by decide +kernel
theorem dX3_comesTo_43 : decode cX3_comesTo 43 = .ok (.aload_n 0, 1) := by decide +kernel
theorem dX3_comesTo_44 : decode cX3_comesTo 44 = .ok (.iload 4, 2) := by decide +kernel
theorem dX3_comesTo_46 : decode cX3_comesTo 46 = .ok (.invokevirtual 53, 3) := by decide +kernel
theorem dX3_comesTo_49 : decode cX3_comesTo 49 = .ok (.ior, 1) := by decide +kernel
theorem dX3_comesTo_50 : decode cX3_comesTo 50 = .ok (.istore_n 2, 1) := by decide +kernel
theorem dX3_comesTo_51 : decode cX3_comesTo 51 = .ok (.iinc 4 1, 3) := by decide +kernel
theorem dX3_comesTo_54 : decode cX3_comesTo 54 = .ok (.goto (-28), 3) := by decide +kernel
theorem dX3_comesTo_57 : decode cX3_comesTo 57 = .ok (.iinc 3 1, 3) := by decide +kernel
theorem dX3_comesTo_60 : decode cX3_comesTo 60 = .ok (.goto (-43), 3) := by decide +kernel
theorem dX3_comesTo_63 : decode cX3_comesTo 63 = .ok (.iload_n 2, 1) := by decide +kernel
theorem dX3_comesTo_64 : decode cX3_comesTo 64 = .ok (.ireturn, 1) := by decide +kernel
theorem dX3_statesBehind_0 : decode cX3_statesBehind 0 = .ok (.iconst 0, 1) := by decide +kernel
theorem dX3_statesBehind_1 : decode cX3_statesBehind 1 = .ok (.istore_n 2, 1) := by decide +kernel
theorem dX3_statesBehind_2 : decode cX3_statesBehind 2 = .ok (.iconst 0, 1) := by decide +kernel
theorem dX3_statesBehind_3 : decode cX3_statesBehind 3 = .ok (.istore_n 3, 1) := by decide +kernel
theorem dX3_statesBehind_4 : decode cX3_statesBehind 4 = .ok (.iload_n 3, 1) := by decide +kernel
theorem dX3_statesBehind_5 : decode cX3_statesBehind 5 = .ok (.bipush 6, 2) := by decide +kernel
theorem dX3_statesBehind_7 : decode cX3_statesBehind 7 = .ok (.if_icmp .ge 38, 3) := by decide +kernel
theorem dX3_statesBehind_10 : decode cX3_statesBehind 10 = .ok (.aload_n 0, 1) := by decide +kernel
theorem dX3_statesBehind_11 : decode cX3_statesBehind 11 = .ok (.iload_n 1, 1) := by decide +kernel
theorem dX3_statesBehind_12 : decode cX3_statesBehind 12 = .ok (.iload_n 3, 1) := by decide +kernel
theorem dX3_statesBehind_13 : decode cX3_statesBehind 13 = .ok (.invokevirtual 33, 3) := by decide +kernel
theorem dX3_statesBehind_16 : decode cX3_statesBehind 16 = .ok (.istore 4, 2) := by decide +kernel
theorem dX3_statesBehind_18 : decode cX3_statesBehind 18 = .ok (.iload 4, 2) := by decide +kernel
theorem dX3_statesBehind_20 : decode cX3_statesBehind 20 = .ok (.iconst (-1), 1) := by decide +kernel
theorem dX3_statesBehind_21 : decode cX3_statesBehind 21 = .ok (.if_icmp .eq 18, 3) := by decide +kernel
theorem dX3_statesBehind_24 : decode cX3_statesBehind 24 = .ok (.aload_n 0, 1) := by decide +kernel
theorem dX3_statesBehind_25 : decode cX3_statesBehind 25 = .ok (.iload_n 1, 1) := by decide +kernel
theorem dX3_statesBehind_26 : decode cX3_statesBehind 26 = .ok (.invokevirtual 46, 3) := by decide +kernel
theorem dX3_statesBehind_29 : decode cX3_statesBehind 29 = .ok (.ifCond .eq 10, 3) := by decide +kernel
theorem dX3_statesBehind_32 : decode cX3_statesBehind 32 = .ok (.iload_n 2, 1) := by decide +kernel
theorem dX3_statesBehind_33 : decode cX3_statesBehind 33 = .ok (.iconst 1, 1) := by decide +kernel
theorem dX3_statesBehind_34 : decode cX3_statesBehind 34 = .ok (.iload 4, 2) := by decide +kernel
theorem dX3_statesBehind_36 : decode cX3_statesBehind 36 = .ok (.ishl, 1) := by decide +kernel
theorem dX3_statesBehind_37 : decode cX3_statesBehind 37 = .ok (.ior, 1) := by decide +kernel
theorem dX3_statesBehind_38 : decode cX3_statesBehind 38 = .ok (.istore_n 2, 1) := by decide +kernel
theorem dX3_statesBehind_39 : decode cX3_statesBehind 39 = .ok (.iinc 3 1, 3) := by decide +kernel
theorem dX3_statesBehind_42 : decode cX3_statesBehind 42 = .ok (.goto (-38), 3) := by decide +kernel
theorem dX3_statesBehind_45 : decode cX3_statesBehind 45 = .ok (.iload_n 2, 1) := by decide +kernel
theorem dX3_statesBehind_46 : decode cX3_statesBehind 46 = .ok (.ireturn, 1) := by decide +kernel
theorem dX3_take_0 : decode cX3_take 0 = .ok (.aload_n 1, 1) := by decide +kernel
theorem dX3_take_1 : decode cX3_take 1 = .ok (.getfield 11, 3) := by decide +kernel
theorem dX3_take_4 : decode cX3_take 4 = .ok (.iconst 0, 1) := by decide +kernel
theorem dX3_take_5 : decode cX3_take 5 = .ok (.aload_n 0, 1) := by decide +kernel
theorem dX3_take_6 : decode cX3_take 6 = .ok (.getfield 11, 3) := by decide +kernel
theorem dX3_take_9 : decode cX3_take 9 = .ok (.iconst 0, 1) := by decide +kernel
theorem dX3_take_10 : decode cX3_take 10 = .ok (.bipush 56, 2) := by decide +kernel
theorem dX3_take_12 : decode cX3_take 12 = .ok (.invokestatic 56, 3) := by decide +kernel
theorem dX3_take_15 : decode cX3_take 15 = .ok (.return_, 1) := by decide +kernel
theorem dX3_saveTo_0 : decode cX3_saveTo 0 = .ok (.iload_n 2, 1) := by decide +kernel
theorem dX3_saveTo_1 : decode cX3_saveTo 1 = .ok (.ifCond .lt 24, 3) := by decide +kernel
theorem dX3_saveTo_4 : decode cX3_saveTo 4 = .ok (.iload_n 2, 1) := by decide +kernel
theorem dX3_saveTo_5 : decode cX3_saveTo 5 = .ok (.aload_n 1, 1) := by decide +kernel
theorem dX3_saveTo_6 : decode cX3_saveTo 6 = .ok (.arraylength, 1) := by decide +kernel
theorem dX3_saveTo_7 : decode cX3_saveTo 7 = .ok (.bipush 56, 2) := by decide +kernel
theorem dX3_saveTo_9 : decode cX3_saveTo 9 = .ok (.isub, 1) := by decide +kernel
theorem dX3_saveTo_10 : decode cX3_saveTo 10 = .ok (.if_icmp .gt 15, 3) := by decide +kernel
theorem dX3_saveTo_13 : decode cX3_saveTo 13 = .ok (.aload_n 0, 1) := by decide +kernel
theorem dX3_saveTo_14 : decode cX3_saveTo 14 = .ok (.getfield 11, 3) := by decide +kernel
theorem dX3_saveTo_17 : decode cX3_saveTo 17 = .ok (.iconst 0, 1) := by decide +kernel
theorem dX3_saveTo_18 : decode cX3_saveTo 18 = .ok (.aload_n 1, 1) := by decide +kernel
theorem dX3_saveTo_19 : decode cX3_saveTo 19 = .ok (.iload_n 2, 1) := by decide +kernel
theorem dX3_saveTo_20 : decode cX3_saveTo 20 = .ok (.bipush 56, 2) := by decide +kernel
theorem dX3_saveTo_22 : decode cX3_saveTo 22 = .ok (.invokestatic 56, 3) := by decide +kernel
theorem dX3_saveTo_25 : decode cX3_saveTo 25 = .ok (.return_, 1) := by decide +kernel
theorem dX3_loadFrom_0 : decode cX3_loadFrom 0 = .ok (.iload_n 2, 1) := by decide +kernel
theorem dX3_loadFrom_1 : decode cX3_loadFrom 1 = .ok (.ifCond .lt 24, 3) := by decide +kernel
theorem dX3_loadFrom_4 : decode cX3_loadFrom 4 = .ok (.iload_n 2, 1) := by decide +kernel
theorem dX3_loadFrom_5 : decode cX3_loadFrom 5 = .ok (.aload_n 1, 1) := by decide +kernel
theorem dX3_loadFrom_6 : decode cX3_loadFrom 6 = .ok (.arraylength, 1) := by decide +kernel
theorem dX3_loadFrom_7 : decode cX3_loadFrom 7 = .ok (.bipush 56, 2) := by decide +kernel
theorem dX3_loadFrom_9 : decode cX3_loadFrom 9 = .ok (.isub, 1) := by decide +kernel
theorem dX3_loadFrom_10 : decode cX3_loadFrom 10 = .ok (.if_icmp .gt 15, 3) := by decide +kernel
theorem dX3_loadFrom_13 : decode cX3_loadFrom 13 = .ok (.aload_n 1, 1) := by decide +kernel
theorem dX3_loadFrom_14 : decode cX3_loadFrom 14 = .ok (.iload_n 2, 1) := by decide +kernel
theorem dX3_loadFrom_15 : decode cX3_loadFrom 15 = .ok (.aload_n 0, 1) := by decide +kernel
theorem dX3_loadFrom_16 : decode cX3_loadFrom 16 = .ok (.getfield 11, 3) := by decide +kernel
theorem dX3_loadFrom_19 : decode cX3_loadFrom 19 = .ok (.iconst 0, 1) := by decide +kernel
theorem dX3_loadFrom_20 : decode cX3_loadFrom 20 = .ok (.bipush 56, 2) := by decide +kernel
theorem dX3_loadFrom_22 : decode cX3_loadFrom 22 = .ok (.invokestatic 56, 3) := by decide +kernel
theorem dX3_loadFrom_25 : decode cX3_loadFrom 25 = .ok (.return_, 1) := by decide +kernel
theorem dX4_init_0 : decode cX4_init 0 = .ok (.aload_n 0, 1) := by decide +kernel
theorem dX4_init_1 : decode cX4_init 1 = .ok (.invokespecial 3, 3) := by decide +kernel
theorem dX4_init_4 : decode cX4_init 4 = .ok (.aload_n 0, 1) := by decide +kernel
theorem dX4_init_5 : decode cX4_init 5 = .ok (.bipush 80, 2) := by decide +kernel
theorem dX4_init_7 : decode cX4_init 7 = .ok (.newarray .int, 2) := by decide +kernel
theorem dX4_init_9 : decode cX4_init 9 = .ok (.putfield 11, 3) := by decide +kernel
theorem dX4_init_12 : decode cX4_init 12 = .ok (.aload_n 0, 1) := by decide +kernel
theorem dX4_init_13 : decode cX4_init 13 = .ok (.new 15, 3) := by decide +kernel
theorem dX4_init_16 : decode cX4_init 16 = .ok (.dup, 1) := by decide +kernel
theorem dX4_init_17 : decode cX4_init 17 = .ok (.invokespecial 17, 3) := by decide +kernel
theorem dX4_init_20 : decode cX4_init 20 = .ok (.putfield 18, 3) := by decide +kernel
theorem dX4_init_23 : decode cX4_init 23 = .ok (.return_, 1) := by decide +kernel
theorem dX4_length_0 : decode cX4_length 0 = .ok (.aload_n 0, 1) := by decide +kernel
theorem dX4_length_1 : decode cX4_length 1 = .ok (.getfield 22, 3) := by decide +kernel
theorem dX4_length_4 : decode cX4_length 4 = .ok (.ireturn, 1) := by decide +kernel
theorem dX4_isFull_0 : decode cX4_isFull 0 = .ok (.aload_n 0, 1) := by decide +kernel
theorem dX4_isFull_1 : decode cX4_isFull 1 = .ok (.getfield 22, 3) := by decide +kernel
theorem dX4_isFull_4 : decode cX4_isFull 4 = .ok (.bipush 80, 2) := by decide +kernel
theorem dX4_isFull_6 : decode cX4_isFull 6 = .ok (.if_icmp .lt 7, 3) := by decide +kernel
theorem dX4_isFull_9 : decode cX4_isFull 9 = .ok (.iconst 1, 1) := by decide +kernel
theorem dX4_isFull_10 : decode cX4_isFull 10 = .ok (.goto 4, 3) := by decide +kernel
theorem dX4_isFull_13 : decode cX4_isFull 13 = .ok (.iconst 0, 1) := by decide +kernel
theorem dX4_isFull_14 : decode cX4_isFull 14 = .ok (.ireturn, 1) := by decide +kernel
theorem dX4_append_0 : decode cX4_append 0 = .ok (.aload_n 0, 1) := by decide +kernel
theorem dX4_append_1 : decode cX4_append 1 = .ok (.getfield 22, 3) := by decide +kernel
theorem dX4_append_4 : decode cX4_append 4 = .ok (.bipush 80, 2) := by decide +kernel
theorem dX4_append_6 : decode cX4_append 6 = .ok (.if_icmp .ge 23, 3) := by decide +kernel
theorem dX4_append_9 : decode cX4_append 9 = .ok (.aload_n 0, 1) := by decide +kernel
theorem dX4_append_10 : decode cX4_append 10 = .ok (.getfield 11, 3) := by decide +kernel
theorem dX4_append_13 : decode cX4_append 13 = .ok (.aload_n 0, 1) := by decide +kernel
theorem dX4_append_14 : decode cX4_append 14 = .ok (.getfield 22, 3) := by decide +kernel
theorem dX4_append_17 : decode cX4_append 17 = .ok (.iload_n 1, 1) := by decide +kernel
theorem dX4_append_18 : decode cX4_append 18 = .ok (.iastore, 1) := by decide +kernel
theorem dX4_append_19 : decode cX4_append 19 = .ok (.aload_n 0, 1) := by decide +kernel
theorem dX4_append_20 : decode cX4_append 20 = .ok (.dup, 1) := by decide +kernel
theorem dX4_append_21 : decode cX4_append 21 = .ok (.getfield 22, 3) := by decide +kernel
theorem dX4_append_24 : decode cX4_append 24 = .ok (.iconst 1, 1) := by decide +kernel
theorem dX4_append_25 : decode cX4_append 25 = .ok (.iadd, 1) := by decide +kernel
theorem dX4_append_26 : decode cX4_append 26 = .ok (.putfield 22, 3) := by decide +kernel
theorem dX4_append_29 : decode cX4_append 29 = .ok (.return_, 1) := by decide +kernel
theorem dX4_clear_0 : decode cX4_clear 0 = .ok (.aload_n 0, 1) := by decide +kernel
theorem dX4_clear_1 : decode cX4_clear 1 = .ok (.iconst 0, 1) := by decide +kernel
theorem dX4_clear_2 : decode cX4_clear 2 = .ok (.putfield 22, 3) := by decide +kernel
theorem dX4_clear_5 : decode cX4_clear 5 = .ok (.return_, 1) := by decide +kernel
theorem dX4_draft_0 : decode cX4_draft 0 = .ok (.aload_n 0, 1) := by decide +kernel
theorem dX4_draft_1 : decode cX4_draft 1 = .ok (.getfield 18, 3) := by decide +kernel
theorem dX4_draft_4 : decode cX4_draft 4 = .ok (.areturn, 1) := by decide +kernel
theorem dX4_toldStates_0 : decode cX4_toldStates 0 = .ok (.aload_n 0, 1) := by decide +kernel
theorem dX4_toldStates_1 : decode cX4_toldStates 1 = .ok (.getfield 26, 3) := by decide +kernel
theorem dX4_toldStates_4 : decode cX4_toldStates 4 = .ok (.invokestatic 29, 3) := by decide +kernel
theorem dX4_toldStates_7 : decode cX4_toldStates 7 = .ok (.ireturn, 1) := by decide +kernel
theorem dX4_isFaulty_0 : decode cX4_isFaulty 0 = .ok (.aload_n 0, 1) := by decide +kernel
theorem dX4_isFaulty_1 : decode cX4_isFaulty 1 = .ok (.getfield 35, 3) := by decide +kernel
theorem dX4_isFaulty_4 : decode cX4_isFaulty 4 = .ok (.ifCond .eq 7, 3) := by decide +kernel
theorem dX4_isFaulty_7 : decode cX4_isFaulty 7 = .ok (.iconst 1, 1) := by decide +kernel
theorem dX4_isFaulty_8 : decode cX4_isFaulty 8 = .ok (.goto 4, 3) := by decide +kernel
theorem dX4_isFaulty_11 : decode cX4_isFaulty 11 = .ok (.iconst 0, 1) := by decide +kernel
theorem dX4_isFaulty_12 : decode cX4_isFaulty 12 = .ok (.ireturn, 1) := by decide +kernel
theorem dX4_faultPosition_0 : decode cX4_faultPosition 0 = .ok (.aload_n 0, 1) := by decide +kernel
theorem dX4_faultPosition_1 : decode cX4_faultPosition 1 = .ok (.getfield 38, 3) := by decide +kernel
theorem dX4_faultPosition_4 : decode cX4_faultPosition 4 = .ok (.ireturn, 1) := by decide +kernel
theorem dX4_faultReason_0 : decode cX4_faultReason 0 = .ok (.aload_n 0, 1) := by decide +kernel
theorem dX4_faultReason_1 : decode cX4_faultReason 1 = .ok (.getfield 35, 3) := by decide +kernel
theorem dX4_faultReason_4 : decode cX4_faultReason 4 = .ok (.ireturn, 1) := by decide +kernel
theorem dX4_faultCause_0 : decode cX4_faultCause 0 = .ok (.aload_n 0, 1) := by decide +kernel
theorem dX4_faultCause_1 : decode cX4_faultCause 1 = .ok (.getfield 41, 3) := by decide +kernel
theorem dX4_faultCause_4 : decode cX4_faultCause 4 = .ok (.ireturn, 1) := by decide +kernel
theorem dX4_parse_0 : decode cX4_parse 0 = .ok (.aload_n 0, 1) := by decide +kernel
theorem dX4_parse_1 : decode cX4_parse 1 = .ok (.getfield 18, 3) := by decide +kernel
theorem dX4_parse_4 : decode cX4_parse 4 = .ok (.invokevirtual 44, 3) := by decide +kernel
theorem dX4_parse_7 : decode cX4_parse 7 = .ok (.aload_n 0, 1) := by decide +kernel
theorem dX4_parse_8 : decode cX4_parse 8 = .ok (.iconst 0, 1) := by decide +kernel
theorem dX4_parse_9 : decode cX4_parse 9 = .ok (.putfield 26, 3) := by decide +kernel
theorem dX4_parse_12 : decode cX4_parse 12 = .ok (.aload_n 0, 1) := by decide +kernel
theorem dX4_parse_13 : decode cX4_parse 13 = .ok (.iconst (-1), 1) := by decide +kernel
theorem dX4_parse_14 : decode cX4_parse 14 = .ok (.iconst 0, 1) := by decide +kernel
theorem dX4_parse_15 : decode cX4_parse 15 = .ok (.iconst (-1), 1) := by decide +kernel
theorem dX4_parse_16 : decode cX4_parse 16 = .ok (.invokevirtual 47, 3) := by decide +kernel
theorem dX4_parse_19 : decode cX4_parse 19 = .ok (.iconst 0, 1) := by decide +kernel
theorem dX4_parse_20 : decode cX4_parse 20 = .ok (.istore_n 1, 1) := by decide +kernel
theorem dX4_parse_21 : decode cX4_parse 21 = .ok (.iconst 0, 1) := by decide +kernel
theorem dX4_parse_22 : decode cX4_parse 22 = .ok (.istore_n 2, 1) := by decide +kernel
theorem dX4_parse_23 : decode cX4_parse 23 = .ok (.iload_n 2, 1) := by decide +kernel
theorem dX4_parse_24 : decode cX4_parse 24 = .ok (.bipush 80, 2) := by decide +kernel
theorem dX4_parse_26 : decode cX4_parse 26 = .ok (.if_icmp .ge 102, 3) := by decide +kernel
theorem dX4_parse_29 : decode cX4_parse 29 = .ok (.iload_n 1, 1) := by decide +kernel
theorem dX4_parse_30 : decode cX4_parse 30 = .ok (.aload_n 0, 1) := by decide +kernel
theorem dX4_parse_31 : decode cX4_parse 31 = .ok (.getfield 22, 3) := by decide +kernel
theorem dX4_parse_34 : decode cX4_parse 34 = .ok (.if_icmp .ge 94, 3) := by decide +kernel
theorem dX4_parse_37 : decode cX4_parse 37 = .ok (.aload_n 0, 1) := by decide +kernel
theorem dX4_parse_38 : decode cX4_parse 38 = .ok (.invokevirtual 51, 3) := by decide +kernel
theorem dX4_parse_41 : decode cX4_parse 41 = .ok (.ifCond .ne 87, 3) := by decide +kernel
theorem dX4_parse_44 : decode cX4_parse 44 = .ok (.iload_n 1, 1) := by decide +kernel
theorem dX4_parse_45 : decode cX4_parse 45 = .ok (.istore_n 3, 1) := by decide +kernel
theorem dX4_parse_46 : decode cX4_parse 46 = .ok (.iconst 0, 1) := by decide +kernel
theorem dX4_parse_47 : decode cX4_parse 47 = .ok (.aload_n 0, 1) := by decide +kernel
theorem dX4_parse_48 : decode cX4_parse 48 = .ok (.iload_n 3, 1) := by decide +kernel
theorem dX4_parse_49 : decode cX4_parse 49 = .ok (.invokevirtual 55, 3) := by decide +kernel
theorem dX4_parse_52 : decode cX4_parse 52 = .ok (.invokestatic 58, 3) := by decide +kernel
theorem dX4_parse_55 : decode cX4_parse 55 = .ok (.istore 4, 2) := by decide +kernel
theorem dX4_parse_57 : decode cX4_parse 57 = .ok (.iconst 0, 1) := by decide +kernel
theorem dX4_parse_58 : decode cX4_parse 58 = .ok (.istore 5, 2) := by decide +kernel
theorem dX4_parse_60 : decode cX4_parse 60 = .ok (.iload 5, 2) := by decide +kernel
theorem dX4_parse_62 : decode cX4_parse 62 = .ok (.bipush 80, 2) := by decide +kernel
theorem dX4_parse_64 : decode cX4_parse 64 = .ok (.if_icmp .ge 30, 3) := by decide +kernel
theorem dX4_parse_67 : decode cX4_parse 67 = .ok (.iload 4, 2) := by decide +kernel
theorem dX4_parse_69 : decode cX4_parse 69 = .ok (.iconst 5, 1) := by decide +kernel
theorem dX4_parse_70 : decode cX4_parse 70 = .ok (.if_icmp .ge 24, 3) := by decide +kernel
theorem dX4_parse_73 : decode cX4_parse 73 = .ok (.iinc 3 1, 3) := by decide +kernel
theorem dX4_parse_76 : decode cX4_parse 76 = .ok (.iload 4, 2) := by decide +kernel
theorem dX4_parse_78 : decode cX4_parse 78 = .ok (.aload_n 0, 1) := by decide +kernel
theorem dX4_parse_79 : decode cX4_parse 79 = .ok (.iload_n 3, 1) := by decide +kernel
theorem dX4_parse_80 : decode cX4_parse 80 = .ok (.invokevirtual 55, 3) := by decide +kernel
theorem dX4_parse_83 : decode cX4_parse 83 = .ok (.invokestatic 58, 3) := by decide +kernel
theorem dX4_parse_86 : decode cX4_parse 86 = .ok (.istore 4, 2) := by decide +kernel
theorem dX4_parse_88 : decode cX4_parse 88 = .ok (.iinc 5 1, 3) := by decide +kernel
theorem dX4_parse_91 : decode cX4_parse 91 = .ok (.goto (-31), 3) := by decide +kernel
theorem dX4_parse_94 : decode cX4_parse 94 = .ok (.iload 4, 2) := by decide +kernel
theorem dX4_parse_96 : decode cX4_parse 96 = .ok (.iconst 5, 1) := by decide +kernel
theorem dX4_parse_97 : decode cX4_parse 97 = .ok (.if_icmp .ne 12, 3) := by decide +kernel
theorem dX4_parse_100 : decode cX4_parse 100 = .ok (.aload_n 0, 1) := by decide +kernel
theorem dX4_parse_101 : decode cX4_parse 101 = .ok (.iload_n 1, 1) := by decide +kernel
theorem dX4_parse_102 : decode cX4_parse 102 = .ok (.iload_n 3, 1) := by decide +kernel
theorem dX4_parse_103 : decode cX4_parse 103 = .ok (.invokevirtual 62, 3) := by decide +kernel
theorem dX4_parse_106 : decode cX4_parse 106 = .ok (.goto 12, 3) := by decide +kernel
theorem dX4_parse_109 : decode cX4_parse 109 = .ok (.aload_n 0, 1) := by decide +kernel
theorem dX4_parse_110 : decode cX4_parse 110 = .ok (.iload_n 1, 1) := by decide +kernel
theorem dX4_parse_111 : decode cX4_parse 111 = .ok (.iconst 1, 1) := by decide +kernel
theorem dX4_parse_112 : decode cX4_parse 112 = .ok (.iload_n 3, 1) := by decide +kernel
theorem dX4_parse_113 : decode cX4_parse 113 = .ok (.iload_n 1, 1) := by decide +kernel
theorem dX4_parse_114 : decode cX4_parse 114 = .ok (.isub, 1) := by decide +kernel
theorem dX4_parse_115 : decode cX4_parse 115 = .ok (.invokevirtual 47, 3) := by decide +kernel
theorem dX4_parse_118 : decode cX4_parse 118 = .ok (.iload_n 3, 1) := by decide +kernel
theorem dX4_parse_119 : decode cX4_parse 119 = .ok (.iconst 1, 1) := by decide +kernel
theorem dX4_parse_120 : decode cX4_parse 120 = .ok (.iadd, 1) := by decide +kernel
theorem dX4_parse_121 : decode cX4_parse 121 = .ok (.istore_n 1, 1) := by decide +kernel
theorem dX4_parse_122 : decode cX4_parse 122 = .ok (.iinc 2 1, 3) := by decide +kernel
theorem dX4_parse_125 : decode cX4_parse 125 = .ok (.goto (-102), 3) := by decide +kernel
theorem dX4_parse_128 : decode cX4_parse 128 = .ok (.return_, 1) := by decide +kernel
theorem dX4_after_0 : decode cX4_after 0 = .ok (.iload_n 0, 1) := by decide +kernel
theorem dX4_after_1 : decode cX4_after 1 = .ok (.tableswitch 138 0 4 #[35, 52, 81, 94, 121], 35) := by decide +kernel
theorem dX4_after_36 : decode cX4_after 36 = .ok (.iload_n 1, 1) := by decide +kernel
theorem dX4_after_37 : decode cX4_after 37 = .ok (.bipush 48, 2) := by decide +kernel
theorem dX4_after_39 : decode cX4_after 39 = .ok (.isub, 1) := by decide +kernel
theorem dX4_after_40 : decode cX4_after 40 = .ok (.invokestatic 66, 3) := by decide +kernel
theorem dX4_after_43 : decode cX4_after 43 = .ok (.ifCond .eq 7, 3) := by decide +kernel
theorem dX4_after_46 : decode cX4_after 46 = .ok (.iconst 1, 1) := by decide +kernel
theorem dX4_after_47 : decode cX4_after 47 = .ok (.goto 5, 3) := by decide +kernel
theorem dX4_after_50 : decode cX4_after 50 = .ok (.bipush 6, 2) := by decide +kernel
theorem dX4_after_52 : decode cX4_after 52 = .ok (.ireturn, 1) := by decide +kernel
theorem dX4_after_53 : decode cX4_after 53 = .ok (.iload_n 1, 1) := by decide +kernel
theorem dX4_after_54 : decode cX4_after 54 = .ok (.bipush 46, 2) := by decide +kernel
theorem dX4_after_56 : decode cX4_after 56 = .ok (.if_icmp .ne 7, 3) := by decide +kernel
theorem dX4_after_59 : decode cX4_after 59 = .ok (.iconst 2, 1) := by decide +kernel
theorem dX4_after_60 : decode cX4_after 60 = .ok (.goto 21, 3) := by decide +kernel
theorem dX4_after_63 : decode cX4_after 63 = .ok (.iload_n 1, 1) := by decide +kernel
theorem dX4_after_64 : decode cX4_after 64 = .ok (.bipush 33, 2) := by decide +kernel
theorem dX4_after_66 : decode cX4_after 66 = .ok (.if_icmp .eq 9, 3) := by decide +kernel
theorem dX4_after_69 : decode cX4_after 69 = .ok (.iload_n 1, 1) := by decide +kernel
theorem dX4_after_70 : decode cX4_after 70 = .ok (.bipush 63, 2) := by decide +kernel
theorem dX4_after_72 : decode cX4_after 72 = .ok (.if_icmp .ne 7, 3) := by decide +kernel
theorem dX4_after_75 : decode cX4_after 75 = .ok (.iconst 3, 1) := by decide +kernel
theorem dX4_after_76 : decode cX4_after 76 = .ok (.goto 5, 3) := by decide +kernel
theorem dX4_after_79 : decode cX4_after 79 = .ok (.bipush 6, 2) := by decide +kernel
theorem dX4_after_81 : decode cX4_after 81 = .ok (.ireturn, 1) := by decide +kernel
theorem dX4_after_82 : decode cX4_after 82 = .ok (.iload_n 1, 1) := by decide +kernel
theorem dX4_after_83 : decode cX4_after 83 = .ok (.bipush 59, 2) := by decide +kernel
theorem dX4_after_85 : decode cX4_after 85 = .ok (.if_icmp .ne 7, 3) := by decide +kernel
theorem dX4_after_88 : decode cX4_after 88 = .ok (.iconst 5, 1) := by decide +kernel
theorem dX4_after_89 : decode cX4_after 89 = .ok (.goto 5, 3) := by decide +kernel
theorem dX4_after_92 : decode cX4_after 92 = .ok (.bipush 6, 2) := by decide +kernel
theorem dX4_after_94 : decode cX4_after 94 = .ok (.ireturn, 1) := by decide +kernel
theorem dX4_after_95 : decode cX4_after 95 = .ok (.iload_n 1, 1) := by decide +kernel
theorem dX4_after_96 : decode cX4_after 96 = .ok (.bipush 59, 2) := by decide +kernel
theorem dX4_after_98 : decode cX4_after 98 = .ok (.if_icmp .ne 7, 3) := by decide +kernel
theorem dX4_after_101 : decode cX4_after 101 = .ok (.iconst 5, 1) := by decide +kernel
theorem dX4_after_102 : decode cX4_after 102 = .ok (.goto 19, 3) := by decide +kernel
theorem dX4_after_105 : decode cX4_after 105 = .ok (.iload_n 1, 1) := by decide +kernel
theorem dX4_after_106 : decode cX4_after 106 = .ok (.bipush 97, 2) := by decide +kernel
theorem dX4_after_108 : decode cX4_after 108 = .ok (.isub, 1) := by decide +kernel
theorem dX4_after_109 : decode cX4_after 109 = .ok (.invokestatic 70, 3) := by decide +kernel
theorem dX4_after_112 : decode cX4_after 112 = .ok (.ifCond .eq 7, 3) := by decide +kernel
theorem dX4_after_115 : decode cX4_after 115 = .ok (.iconst 4, 1) := by decide +kernel
theorem dX4_after_116 : decode cX4_after 116 = .ok (.goto 5, 3) := by decide +kernel
theorem dX4_after_119 : decode cX4_after 119 = .ok (.bipush 6, 2) := by decide +kernel
theorem dX4_after_121 : decode cX4_after 121 = .ok (.ireturn, 1) := by decide +kernel
theorem dX4_after_122 : decode cX4_after 122 = .ok (.iload_n 1, 1) := by decide +kernel
theorem dX4_after_123 : decode cX4_after 123 = .ok (.bipush 48, 2) := by decide +kernel
theorem dX4_after_125 : decode cX4_after 125 = .ok (.isub, 1) := by decide +kernel
theorem dX4_after_126 : decode cX4_after 126 = .ok (.invokestatic 66, 3) := by decide +kernel
theorem dX4_after_129 : decode cX4_after 129 = .ok (.ifCond .eq 7, 3) := by decide +kernel
theorem dX4_after_132 : decode cX4_after 132 = .ok (.iconst 3, 1) := by decide +kernel
theorem dX4_after_133 : decode cX4_after 133 = .ok (.goto 5, 3) := by decide +kernel
theorem dX4_after_136 : decode cX4_after 136 = .ok (.bipush 6, 2) := by decide +kernel
theorem dX4_after_138 : decode cX4_after 138 = .ok (.ireturn, 1) := by decide +kernel
theorem dX4_after_139 : decode cX4_after 139 = .ok (.bipush 6, 2) := by decide +kernel
theorem dX4_after_141 : decode cX4_after 141 = .ok (.ireturn, 1) := by decide +kernel
theorem dX4_takeState_0 : decode cX4_takeState 0 = .ok (.aload_n 0, 1) := by decide +kernel
theorem dX4_takeState_1 : decode cX4_takeState 1 = .ok (.iload_n 1, 1) := by decide +kernel
theorem dX4_takeState_2 : decode cX4_takeState 2 = .ok (.invokevirtual 55, 3) := by decide +kernel
theorem dX4_takeState_5 : decode cX4_takeState 5 = .ok (.bipush 48, 2) := by decide +kernel
theorem dX4_takeState_7 : decode cX4_takeState 7 = .ok (.isub, 1) := by decide +kernel
theorem dX4_takeState_8 : decode cX4_takeState 8 = .ok (.istore_n 3, 1) := by decide +kernel
theorem dX4_takeState_9 : decode cX4_takeState 9 = .ok (.aload_n 0, 1) := by decide +kernel
theorem dX4_takeState_10 : decode cX4_takeState 10 = .ok (.getfield 26, 3) := by decide +kernel
theorem dX4_takeState_13 : decode cX4_takeState 13 = .ok (.iload_n 3, 1) := by decide +kernel
theorem dX4_takeState_14 : decode cX4_takeState 14 = .ok (.invokestatic 73, 3) := by decide +kernel
theorem dX4_takeState_17 : decode cX4_takeState 17 = .ok (.ifCond .eq 11, 3) := by decide +kernel
theorem dX4_takeState_20 : decode cX4_takeState 20 = .ok (.aload_n 0, 1) := by decide +kernel
theorem dX4_takeState_21 : decode cX4_takeState 21 = .ok (.iload_n 1, 1) := by decide +kernel
theorem dX4_takeState_22 : decode cX4_takeState 22 = .ok (.iconst 2, 1) := by decide +kernel
theorem dX4_takeState_23 : decode cX4_takeState 23 = .ok (.iconst (-1), 1) := by decide +kernel
theorem dX4_takeState_24 : decode cX4_takeState 24 = .ok (.invokevirtual 47, 3) := by decide +kernel
theorem dX4_takeState_27 : decode cX4_takeState 27 = .ok (.return_, 1) := by decide +kernel
theorem dX4_takeState_28 : decode cX4_takeState 28 = .ok (.aload_n 0, 1) := by decide +kernel
theorem dX4_takeState_29 : decode cX4_takeState 29 = .ok (.dup, 1) := by decide +kernel
theorem dX4_takeState_30 : decode cX4_takeState 30 = .ok (.getfield 26, 3) := by decide +kernel
theorem dX4_takeState_33 : decode cX4_takeState 33 = .ok (.iconst 1, 1) := by decide +kernel
theorem dX4_takeState_34 : decode cX4_takeState 34 = .ok (.iload_n 3, 1) := by decide +kernel
theorem dX4_takeState_35 : decode cX4_takeState 35 = .ok (.ishl, 1) := by decide +kernel
theorem dX4_takeState_36 : decode cX4_takeState 36 = .ok (.ior, 1) := by decide +kernel
theorem dX4_takeState_37 : decode cX4_takeState 37 = .ok (.putfield 26, 3) := by decide +kernel
theorem dX4_takeState_40 : decode cX4_takeState 40 = .ok (.aload_n 0, 1) := by decide +kernel
theorem dX4_takeState_41 : decode cX4_takeState 41 = .ok (.iload_n 1, 1) := by decide +kernel
theorem dX4_takeState_42 : decode cX4_takeState 42 = .ok (.iconst 1, 1) := by decide +kernel
theorem dX4_takeState_43 : decode cX4_takeState 43 = .ok (.iadd, 1) := by decide +kernel
theorem dX4_takeState_44 : decode cX4_takeState 44 = .ok (.invokevirtual 55, 3) := by decide +kernel
theorem dX4_takeState_47 : decode cX4_takeState 47 = .ok (.istore 4, 2) := by decide +kernel
theorem dX4_takeState_49 : decode cX4_takeState 49 = .ok (.aload_n 0, 1) := by decide +kernel
theorem dX4_takeState_50 : decode cX4_takeState 50 = .ok (.getfield 18, 3) := by decide +kernel
theorem dX4_takeState_53 : decode cX4_takeState 53 = .ok (.iload_n 3, 1) := by decide +kernel
theorem dX4_takeState_54 : decode cX4_takeState 54 = .ok (.iload 4, 2) := by decide +kernel
theorem dX4_takeState_56 : decode cX4_takeState 56 = .ok (.bipush 46, 2) := by decide +kernel
theorem dX4_takeState_58 : decode cX4_takeState 58 = .ok (.if_icmp .ne 7, 3) := by decide +kernel
theorem dX4_takeState_61 : decode cX4_takeState 61 = .ok (.iconst 0, 1) := by decide +kernel
theorem dX4_takeState_62 : decode cX4_takeState 62 = .ok (.goto 15, 3) := by decide +kernel
theorem dX4_takeState_65 : decode cX4_takeState 65 = .ok (.iload 4, 2) := by decide +kernel
theorem dX4_takeState_67 : decode cX4_takeState 67 = .ok (.bipush 33, 2) := by decide +kernel
theorem dX4_takeState_69 : decode cX4_takeState 69 = .ok (.if_icmp .ne 7, 3) := by decide +kernel
theorem dX4_takeState_72 : decode cX4_takeState 72 = .ok (.iconst 1, 1) := by decide +kernel
theorem dX4_takeState_73 : decode cX4_takeState 73 = .ok (.goto 4, 3) := by decide +kernel
theorem dX4_takeState_76 : decode cX4_takeState 76 = .ok (.iconst 2, 1) := by decide +kernel
theorem dX4_takeState_77 : decode cX4_takeState 77 = .ok (.invokevirtual 77, 3) := by decide +kernel
theorem dX4_takeState_80 : decode cX4_takeState 80 = .ok (.iload_n 1, 1) := by decide +kernel
theorem dX4_takeState_81 : decode cX4_takeState 81 = .ok (.iconst 2, 1) := by decide +kernel
theorem dX4_takeState_82 : decode cX4_takeState 82 = .ok (.iadd, 1) := by decide +kernel
theorem dX4_takeState_83 : decode cX4_takeState 83 = .ok (.istore 5, 2) := by decide +kernel
theorem dX4_takeState_85 : decode cX4_takeState 85 = .ok (.iload 5, 2) := by decide +kernel
theorem dX4_takeState_87 : decode cX4_takeState 87 = .ok (.iload_n 2, 1) := by decide +kernel
theorem dX4_takeState_88 : decode cX4_takeState 88 = .ok (.if_icmp .ge 64, 3) := by decide +kernel
theorem dX4_takeState_91 : decode cX4_takeState 91 = .ok (.aload_n 0, 1) := by decide +kernel
theorem dX4_takeState_92 : decode cX4_takeState 92 = .ok (.iload 5, 2) := by decide +kernel
theorem dX4_takeState_94 : decode cX4_takeState 94 = .ok (.invokevirtual 55, 3) := by decide +kernel
theorem dX4_takeState_97 : decode cX4_takeState 97 = .ok (.bipush 97, 2) := by decide +kernel
theorem dX4_takeState_99 : decode cX4_takeState 99 = .ok (.isub, 1) := by decide +kernel
theorem dX4_takeState_100 : decode cX4_takeState 100 = .ok (.istore 6, 2) := by decide +kernel
theorem dX4_takeState_102 : decode cX4_takeState 102 = .ok (.aload_n 0, 1) := by decide +kernel
theorem dX4_takeState_103 : decode cX4_takeState 103 = .ok (.getfield 18, 3) := by decide +kernel
theorem dX4_takeState_106 : decode cX4_takeState 106 = .ok (.iload_n 3, 1) := by decide +kernel
theorem dX4_takeState_107 : decode cX4_takeState 107 = .ok (.iload 6, 2) := by decide +kernel
theorem dX4_takeState_109 : decode cX4_takeState 109 = .ok (.invokevirtual 80, 3) := by decide +kernel
theorem dX4_takeState_112 : decode cX4_takeState 112 = .ok (.iconst (-1), 1) := by decide +kernel
theorem dX4_takeState_113 : decode cX4_takeState 113 = .ok (.if_icmp .eq 12, 3) := by decide +kernel
theorem dX4_takeState_116 : decode cX4_takeState 116 = .ok (.aload_n 0, 1) := by decide +kernel
theorem dX4_takeState_117 : decode cX4_takeState 117 = .ok (.iload_n 1, 1) := by decide +kernel
theorem dX4_takeState_118 : decode cX4_takeState 118 = .ok (.iconst 3, 1) := by decide +kernel
theorem dX4_takeState_119 : decode cX4_takeState 119 = .ok (.iload 6, 2) := by decide +kernel
theorem dX4_takeState_121 : decode cX4_takeState 121 = .ok (.invokevirtual 47, 3) := by decide +kernel
theorem dX4_takeState_124 : decode cX4_takeState 124 = .ok (.return_, 1) := by decide +kernel
theorem dX4_takeState_125 : decode cX4_takeState 125 = .ok (.aload_n 0, 1) := by decide +kernel
theorem dX4_takeState_126 : decode cX4_takeState 126 = .ok (.getfield 18, 3) := by decide +kernel
theorem dX4_takeState_129 : decode cX4_takeState 129 = .ok (.iload_n 3, 1) := by decide +kernel
theorem dX4_takeState_130 : decode cX4_takeState 130 = .ok (.iload 6, 2) := by decide +kernel
theorem dX4_takeState_132 : decode cX4_takeState 132 = .ok (.aload_n 0, 1) := by decide +kernel
theorem dX4_takeState_133 : decode cX4_takeState 133 = .ok (.iload 5, 2) := by decide +kernel
theorem dX4_takeState_135 : decode cX4_takeState 135 = .ok (.iconst 1, 1) := by decide +kernel
theorem dX4_takeState_136 : decode cX4_takeState 136 = .ok (.iadd, 1) := by decide +kernel
theorem dX4_takeState_137 : decode cX4_takeState 137 = .ok (.invokevirtual 55, 3) := by decide +kernel
theorem dX4_takeState_140 : decode cX4_takeState 140 = .ok (.bipush 48, 2) := by decide +kernel
theorem dX4_takeState_142 : decode cX4_takeState 142 = .ok (.isub, 1) := by decide +kernel
theorem dX4_takeState_143 : decode cX4_takeState 143 = .ok (.invokevirtual 83, 3) := by decide +kernel
theorem dX4_takeState_146 : decode cX4_takeState 146 = .ok (.iinc 5 2, 3) := by decide +kernel
theorem dX4_takeState_149 : decode cX4_takeState 149 = .ok (.goto (-64), 3) := by decide +kernel
theorem dX4_takeState_152 : decode cX4_takeState 152 = .ok (.return_, 1) := by decide +kernel
theorem dX4_setFault_0 : decode cX4_setFault 0 = .ok (.aload_n 0, 1) := by decide +kernel
theorem dX4_setFault_1 : decode cX4_setFault 1 = .ok (.iload_n 1, 1) := by decide +kernel
theorem dX4_setFault_2 : decode cX4_setFault 2 = .ok (.putfield 38, 3) := by decide +kernel
theorem dX4_setFault_5 : decode cX4_setFault 5 = .ok (.aload_n 0, 1) := by decide +kernel
theorem dX4_setFault_6 : decode cX4_setFault 6 = .ok (.iload_n 2, 1) := by decide +kernel
theorem dX4_setFault_7 : decode cX4_setFault 7 = .ok (.putfield 35, 3) := by decide +kernel
theorem dX4_setFault_10 : decode cX4_setFault 10 = .ok (.aload_n 0, 1) := by decide +kernel
theorem dX4_setFault_11 : decode cX4_setFault 11 = .ok (.iload_n 3, 1) := by decide +kernel
theorem dX4_setFault_12 : decode cX4_setFault 12 = .ok (.putfield 41, 3) := by decide +kernel
theorem dX4_setFault_15 : decode cX4_setFault 15 = .ok (.return_, 1) := by decide +kernel
theorem dX4_characterAt_0 : decode cX4_characterAt 0 = .ok (.iload_n 1, 1) := by decide +kernel
theorem dX4_characterAt_1 : decode cX4_characterAt 1 = .ok (.aload_n 0, 1) := by decide +kernel
theorem dX4_characterAt_2 : decode cX4_characterAt 2 = .ok (.getfield 22, 3) := by decide +kernel
theorem dX4_characterAt_5 : decode cX4_characterAt 5 = .ok (.if_icmp .ge 14, 3) := by decide +kernel
theorem dX4_characterAt_8 : decode cX4_characterAt 8 = .ok (.aload_n 0, 1) := by decide +kernel
theorem dX4_characterAt_9 : decode cX4_characterAt 9 = .ok (.getfield 11, 3) := by decide +kernel
theorem dX4_characterAt_12 : decode cX4_characterAt 12 = .ok (.iload_n 1, 1) := by decide +kernel
theorem dX4_characterAt_13 : decode cX4_characterAt 13 = .ok (.invokestatic 86, 3) := by decide +kernel
theorem dX4_characterAt_16 : decode cX4_characterAt 16 = .ok (.goto 4, 3) := by decide +kernel
theorem dX4_characterAt_19 : decode cX4_characterAt 19 = .ok (.iconst (-1), 1) := by decide +kernel
theorem dX4_characterAt_20 : decode cX4_characterAt 20 = .ok (.ireturn, 1) := by decide +kernel
theorem dX5_init_0 : decode cX5_init 0 = .ok (.aload_n 0, 1) := by decide +kernel
theorem dX5_init_1 : decode cX5_init 1 = .ok (.invokespecial 3, 3) := by decide +kernel
theorem dX5_init_4 : decode cX5_init 4 = .ok (.aload_n 0, 1) := by decide +kernel
theorem dX5_init_5 : decode cX5_init 5 = .ok (.bipush 64, 2) := by decide +kernel
theorem dX5_init_7 : decode cX5_init 7 = .ok (.newarray .int, 2) := by decide +kernel
theorem dX5_init_9 : decode cX5_init 9 = .ok (.putfield 9, 3) := by decide +kernel
theorem dX5_init_12 : decode cX5_init 12 = .ok (.aload_n 0, 1) := by decide +kernel
theorem dX5_init_13 : decode cX5_init 13 = .ok (.bipush 64, 2) := by decide +kernel
theorem dX5_init_15 : decode cX5_init 15 = .ok (.newarray .long, 2) := by decide +kernel
theorem dX5_init_17 : decode cX5_init 17 = .ok (.putfield 15, 3) := by decide +kernel
theorem dX5_init_20 : decode cX5_init 20 = .ok (.aload_n 0, 1) := by decide +kernel
theorem dX5_init_21 : decode cX5_init 21 = .ok (.bipush 64, 2) := by decide +kernel
theorem dX5_init_23 : decode cX5_init 23 = .ok (.newarray .int, 2) := by decide +kernel
theorem dX5_init_25 : decode cX5_init 25 = .ok (.putfield 19, 3) := by decide +kernel
theorem dX5_init_28 : decode cX5_init 28 = .ok (.return_, 1) := by decide +kernel
theorem dX5_rowsToEnds_0 : decode cX5_rowsToEnds 0 = .ok (.aload_n 0, 1) := by decide +kernel
theorem dX5_rowsToEnds_1 : decode cX5_rowsToEnds 1 = .ok (.aload_n 1, 1) := by decide +kernel
theorem dX5_rowsToEnds_2 : decode cX5_rowsToEnds 2 = .ok (.invokevirtual 22, 3) := by decide +kernel
theorem dX5_rowsToEnds_5 : decode cX5_rowsToEnds 5 = .ok (.lconst 0, 1) := by decide +kernel
theorem dX5_rowsToEnds_6 : decode cX5_rowsToEnds 6 = .ok (.lstore_n 2, 1) := by decide +kernel
theorem dX5_rowsToEnds_7 : decode cX5_rowsToEnds 7 = .ok (.aload_n 0, 1) := by decide +kernel
theorem dX5_rowsToEnds_8 : decode cX5_rowsToEnds 8 = .ok (.getfield 15, 3) := by decide +kernel
theorem dX5_rowsToEnds_11 : decode cX5_rowsToEnds 11 = .ok (.iconst 0, 1) := by decide +kernel
theorem dX5_rowsToEnds_12 : decode cX5_rowsToEnds 12 = .ok (.lconst 1, 1) := by decide +kernel
theorem dX5_rowsToEnds_13 : decode cX5_rowsToEnds 13 = .ok (.lastore, 1) := by decide +kernel
theorem dX5_rowsToEnds_14 : decode cX5_rowsToEnds 14 = .ok (.aload_n 0, 1) := by decide +kernel
theorem dX5_rowsToEnds_15 : decode cX5_rowsToEnds 15 = .ok (.getfield 9, 3) := by decide +kernel
theorem dX5_rowsToEnds_18 : decode cX5_rowsToEnds 18 = .ok (.iconst 0, 1) := by decide +kernel
theorem dX5_rowsToEnds_19 : decode cX5_rowsToEnds 19 = .ok (.iaload, 1) := by decide +kernel
theorem dX5_rowsToEnds_20 : decode cX5_rowsToEnds 20 = .ok (.ifCond .ne 8, 3) := by decide +kernel
theorem dX5_rowsToEnds_23 : decode cX5_rowsToEnds 23 = .ok (.aload_n 0, 1) := by decide +kernel
theorem dX5_rowsToEnds_24 : decode cX5_rowsToEnds 24 = .ok (.iconst 0, 1) := by decide +kernel
theorem dX5_rowsToEnds_25 : decode cX5_rowsToEnds 25 = .ok (.invokevirtual 26, 3) := by decide +kernel
theorem dX5_rowsToEnds_28 : decode cX5_rowsToEnds 28 = .ok (.iconst 0, 1) := by decide +kernel
theorem dX5_rowsToEnds_29 : decode cX5_rowsToEnds 29 = .ok (.istore 4, 2) := by decide +kernel
theorem dX5_rowsToEnds_31 : decode cX5_rowsToEnds 31 = .ok (.iload 4, 2) := by decide +kernel
theorem dX5_rowsToEnds_33 : decode cX5_rowsToEnds 33 = .ok (.aload_n 0, 1) := by decide +kernel
theorem dX5_rowsToEnds_34 : decode cX5_rowsToEnds 34 = .ok (.getfield 30, 3) := by decide +kernel
theorem dX5_rowsToEnds_37 : decode cX5_rowsToEnds 37 = .ok (.if_icmp .ge 80, 3) := by decide +kernel
theorem dX5_rowsToEnds_40 : decode cX5_rowsToEnds 40 = .ok (.iload 4, 2) := by decide +kernel
theorem dX5_rowsToEnds_42 : decode cX5_rowsToEnds 42 = .ok (.bipush 64, 2) := by decide +kernel
theorem dX5_rowsToEnds_44 : decode cX5_rowsToEnds 44 = .ok (.if_icmp .ge 73, 3) := by decide +kernel
theorem dX5_rowsToEnds_47 : decode cX5_rowsToEnds 47 = .ok (.aload_n 0, 1) := by decide +kernel
theorem dX5_rowsToEnds_48 : decode cX5_rowsToEnds 48 = .ok (.getfield 19, 3) := by decide +kernel
theorem dX5_rowsToEnds_51 : decode cX5_rowsToEnds 51 = .ok (.iload 4, 2) := by decide +kernel
theorem dX5_rowsToEnds_53 : decode cX5_rowsToEnds 53 = .ok (.iaload, 1) := by decide +kernel
theorem dX5_rowsToEnds_54 : decode cX5_rowsToEnds 54 = .ok (.istore 5, 2) := by decide +kernel
theorem dX5_rowsToEnds_56 : decode cX5_rowsToEnds 56 = .ok (.aload_n 1, 1) := by decide +kernel
theorem dX5_rowsToEnds_57 : decode cX5_rowsToEnds 57 = .ok (.iload 5, 2) := by decide +kernel
theorem dX5_rowsToEnds_59 : decode cX5_rowsToEnds 59 = .ok (.invokevirtual 34, 3) := by decide +kernel
theorem dX5_rowsToEnds_62 : decode cX5_rowsToEnds 62 = .ok (.ifCond .eq 15, 3) := by decide +kernel
theorem dX5_rowsToEnds_65 : decode cX5_rowsToEnds 65 = .ok (.lload_n 2, 1) := by decide +kernel
theorem dX5_rowsToEnds_66 : decode cX5_rowsToEnds 66 = .ok (.aload_n 0, 1) := by decide +kernel
theorem dX5_rowsToEnds_67 : decode cX5_rowsToEnds 67 = .ok (.iload 5, 2) := by decide +kernel
theorem dX5_rowsToEnds_69 : decode cX5_rowsToEnds 69 = .ok (.invokevirtual 40, 3) := by decide +kernel
theorem dX5_rowsToEnds_72 : decode cX5_rowsToEnds 72 = .ok (.ladd, 1) := by decide +kernel
theorem dX5_rowsToEnds_73 : decode cX5_rowsToEnds 73 = .ok (.invokestatic 44, 3) := by decide +kernel
theorem dX5_rowsToEnds_76 : decode cX5_rowsToEnds 76 = .ok (.lstore_n 2, 1) := by decide +kernel
theorem dX5_rowsToEnds_77 : decode cX5_rowsToEnds 77 = .ok (.iconst 0, 1) := by decide +kernel
theorem dX5_rowsToEnds_78 : decode cX5_rowsToEnds 78 = .ok (.istore 6, 2) := by decide +kernel
theorem dX5_rowsToEnds_80 : decode cX5_rowsToEnds 80 = .ok (.iload 6, 2) := by decide +kernel
theorem dX5_rowsToEnds_82 : decode cX5_rowsToEnds 82 = .ok (.bipush 6, 2) := by decide +kernel
theorem dX5_rowsToEnds_84 : decode cX5_rowsToEnds 84 = .ok (.if_icmp .ge 27, 3) := by decide +kernel
theorem dX5_rowsToEnds_87 : decode cX5_rowsToEnds 87 = .ok (.aload_n 0, 1) := by decide +kernel
theorem dX5_rowsToEnds_88 : decode cX5_rowsToEnds 88 = .ok (.aload_n 1, 1) := by decide +kernel
theorem dX5_rowsToEnds_89 : decode cX5_rowsToEnds 89 = .ok (.iload 5, 2) := by decide +kernel
theorem dX5_rowsToEnds_91 : decode cX5_rowsToEnds 91 = .ok (.iload 6, 2) := by decide +kernel
theorem dX5_rowsToEnds_93 : decode cX5_rowsToEnds 93 = .ok (.invokevirtual 48, 3) := by decide +kernel
theorem dX5_rowsToEnds_96 : decode cX5_rowsToEnds 96 = .ok (.aload_n 0, 1) := by decide +kernel
theorem dX5_rowsToEnds_97 : decode cX5_rowsToEnds 97 = .ok (.iload 5, 2) := by decide +kernel
theorem dX5_rowsToEnds_99 : decode cX5_rowsToEnds 99 = .ok (.invokevirtual 40, 3) := by decide +kernel
theorem dX5_rowsToEnds_102 : decode cX5_rowsToEnds 102 = .ok (.invokevirtual 52, 3) := by decide +kernel
theorem dX5_rowsToEnds_105 : decode cX5_rowsToEnds 105 = .ok (.iinc 6 1, 3) := by decide +kernel
theorem dX5_rowsToEnds_108 : decode cX5_rowsToEnds 108 = .ok (.goto (-28), 3) := by decide +kernel
theorem dX5_rowsToEnds_111 : decode cX5_rowsToEnds 111 = .ok (.iinc 4 1, 3) := by decide +kernel
theorem dX5_rowsToEnds_114 : decode cX5_rowsToEnds 114 = .ok (.goto (-83), 3) := by decide +kernel
theorem dX5_rowsToEnds_117 : decode cX5_rowsToEnds 117 = .ok (.aload_n 0, 1) := by decide +kernel
theorem dX5_rowsToEnds_118 : decode cX5_rowsToEnds 118 = .ok (.getfield 30, 3) := by decide +kernel
theorem dX5_rowsToEnds_121 : decode cX5_rowsToEnds 121 = .ok (.aload_n 1, 1) := by decide +kernel
theorem dX5_rowsToEnds_122 : decode cX5_rowsToEnds 122 = .ok (.invokevirtual 56, 3) := by decide +kernel
theorem dX5_rowsToEnds_125 : decode cX5_rowsToEnds 125 = .ok (.if_icmp .ge 9, 3) := by decide +kernel
theorem dX5_rowsToEnds_128 : decode cX5_rowsToEnds 128 = .ok (.ldc2_w 60, 3) := by decide +kernel
theorem dX5_rowsToEnds_131 : decode cX5_rowsToEnds 131 = .ok (.goto 4, 3) := by decide +kernel
theorem dX5_rowsToEnds_134 : decode cX5_rowsToEnds 134 = .ok (.lload_n 2, 1) := by decide +kernel
theorem dX5_rowsToEnds_135 : decode cX5_rowsToEnds 135 = .ok (.lreturn, 1) := by decide +kernel
theorem dX5_countWays_0 : decode cX5_countWays 0 = .ok (.aload_n 0, 1) := by decide +kernel
theorem dX5_countWays_1 : decode cX5_countWays 1 = .ok (.getfield 9, 3) := by decide +kernel
theorem dX5_countWays_4 : decode cX5_countWays 4 = .ok (.iconst 0, 1) := by decide +kernel
theorem dX5_countWays_5 : decode cX5_countWays 5 = .ok (.invokestatic 62, 3) := by decide +kernel
theorem dX5_countWays_8 : decode cX5_countWays 8 = .ok (.aload_n 0, 1) := by decide +kernel
theorem dX5_countWays_9 : decode cX5_countWays 9 = .ok (.getfield 15, 3) := by decide +kernel
theorem dX5_countWays_12 : decode cX5_countWays 12 = .ok (.lconst 0, 1) := by decide +kernel
theorem dX5_countWays_13 : decode cX5_countWays 13 = .ok (.invokestatic 68, 3) := by decide +kernel
theorem dX5_countWays_16 : decode cX5_countWays 16 = .ok (.aload_n 0, 1) := by decide +kernel
theorem dX5_countWays_17 : decode cX5_countWays 17 = .ok (.iconst 0, 1) := by decide +kernel
theorem dX5_countWays_18 : decode cX5_countWays 18 = .ok (.putfield 30, 3) := by decide +kernel
theorem dX5_countWays_21 : decode cX5_countWays 21 = .ok (.iconst 0, 1) := by decide +kernel
theorem dX5_countWays_22 : decode cX5_countWays 22 = .ok (.istore_n 2, 1) := by decide +kernel
theorem dX5_countWays_23 : decode cX5_countWays 23 = .ok (.iload_n 2, 1) := by decide +kernel
theorem dX5_countWays_24 : decode cX5_countWays 24 = .ok (.aload_n 1, 1) := by decide +kernel
theorem dX5_countWays_25 : decode cX5_countWays 25 = .ok (.invokevirtual 56, 3) := by decide +kernel
theorem dX5_countWays_28 : decode cX5_countWays 28 = .ok (.if_icmp .ge 50, 3) := by decide +kernel
theorem dX5_countWays_31 : decode cX5_countWays 31 = .ok (.iconst 0, 1) := by decide +kernel
theorem dX5_countWays_32 : decode cX5_countWays 32 = .ok (.istore_n 3, 1) := by decide +kernel
theorem dX5_countWays_33 : decode cX5_countWays 33 = .ok (.iload_n 3, 1) := by decide +kernel
theorem dX5_countWays_34 : decode cX5_countWays 34 = .ok (.bipush 6, 2) := by decide +kernel
theorem dX5_countWays_36 : decode cX5_countWays 36 = .ok (.if_icmp .ge 36, 3) := by decide +kernel
theorem dX5_countWays_39 : decode cX5_countWays 39 = .ok (.aload_n 1, 1) := by decide +kernel
theorem dX5_countWays_40 : decode cX5_countWays 40 = .ok (.iload_n 2, 1) := by decide +kernel
theorem dX5_countWays_41 : decode cX5_countWays 41 = .ok (.iload_n 3, 1) := by decide +kernel
theorem dX5_countWays_42 : decode cX5_countWays 42 = .ok (.invokevirtual 48, 3) := by decide +kernel
theorem dX5_countWays_45 : decode cX5_countWays 45 = .ok (.istore 4, 2) := by decide +kernel
theorem dX5_countWays_47 : decode cX5_countWays 47 = .ok (.iload 4, 2) := by decide +kernel
theorem dX5_countWays_49 : decode cX5_countWays 49 = .ok (.invokestatic 71, 3) := by decide +kernel
theorem dX5_countWays_52 : decode cX5_countWays 52 = .ok (.ifCond .eq 14, 3) := by decide +kernel
theorem dX5_countWays_55 : decode cX5_countWays 55 = .ok (.aload_n 0, 1) := by decide +kernel
theorem dX5_countWays_56 : decode cX5_countWays 56 = .ok (.getfield 9, 3) := by decide +kernel
theorem dX5_countWays_59 : decode cX5_countWays 59 = .ok (.iload 4, 2) := by decide +kernel
theorem dX5_countWays_61 : decode cX5_countWays 61 = .ok (.dup2, 1) := by decide +kernel
theorem dX5_countWays_62 : decode cX5_countWays 62 = .ok (.iaload, 1) := by decide +kernel
theorem dX5_countWays_63 : decode cX5_countWays 63 = .ok (.iconst 1, 1) := by decide +kernel
theorem dX5_countWays_64 : decode cX5_countWays 64 = .ok (.iadd, 1) := by decide +kernel
theorem dX5_countWays_65 : decode cX5_countWays 65 = .ok (.iastore, 1) := by decide +kernel
theorem dX5_countWays_66 : decode cX5_countWays 66 = .ok (.iinc 3 1, 3) := by decide +kernel
theorem dX5_countWays_69 : decode cX5_countWays 69 = .ok (.goto (-36), 3) := by decide +kernel
theorem dX5_countWays_72 : decode cX5_countWays 72 = .ok (.iinc 2 1, 3) := by decide +kernel
theorem dX5_countWays_75 : decode cX5_countWays 75 = .ok (.goto (-52), 3) := by decide +kernel
theorem dX5_countWays_78 : decode cX5_countWays 78 = .ok (.return_, 1) := by decide +kernel
theorem dX5_goAlong_0 : decode cX5_goAlong 0 = .ok (.iload_n 1, 1) := by decide +kernel
theorem dX5_goAlong_1 : decode cX5_goAlong 1 = .ok (.invokestatic 71, 3) := by decide +kernel
theorem dX5_goAlong_4 : decode cX5_goAlong 4 = .ok (.ifCond .eq 44, 3) := by decide +kernel
theorem dX5_goAlong_7 : decode cX5_goAlong 7 = .ok (.aload_n 0, 1) := by decide +kernel
theorem dX5_goAlong_8 : decode cX5_goAlong 8 = .ok (.getfield 15, 3) := by decide +kernel
theorem dX5_goAlong_11 : decode cX5_goAlong 11 = .ok (.iload_n 1, 1) := by decide +kernel
theorem dX5_goAlong_12 : decode cX5_goAlong 12 = .ok (.aload_n 0, 1) := by decide +kernel
theorem dX5_goAlong_13 : decode cX5_goAlong 13 = .ok (.getfield 15, 3) := by decide +kernel
theorem dX5_goAlong_16 : decode cX5_goAlong 16 = .ok (.iload_n 1, 1) := by decide +kernel
theorem dX5_goAlong_17 : decode cX5_goAlong 17 = .ok (.laload, 1) := by decide +kernel
theorem dX5_goAlong_18 : decode cX5_goAlong 18 = .ok (.lload_n 2, 1) := by decide +kernel
theorem dX5_goAlong_19 : decode cX5_goAlong 19 = .ok (.ladd, 1) := by decide +kernel
theorem dX5_goAlong_20 : decode cX5_goAlong 20 = .ok (.invokestatic 44, 3) := by decide +kernel
theorem dX5_goAlong_23 : decode cX5_goAlong 23 = .ok (.lastore, 1) := by decide +kernel
theorem dX5_goAlong_24 : decode cX5_goAlong 24 = .ok (.aload_n 0, 1) := by decide +kernel
theorem dX5_goAlong_25 : decode cX5_goAlong 25 = .ok (.getfield 9, 3) := by decide +kernel
theorem dX5_goAlong_28 : decode cX5_goAlong 28 = .ok (.iload_n 1, 1) := by decide +kernel
theorem dX5_goAlong_29 : decode cX5_goAlong 29 = .ok (.dup2, 1) := by decide +kernel
theorem dX5_goAlong_30 : decode cX5_goAlong 30 = .ok (.iaload, 1) := by decide +kernel
theorem dX5_goAlong_31 : decode cX5_goAlong 31 = .ok (.iconst 1, 1) := by decide +kernel
theorem dX5_goAlong_32 : decode cX5_goAlong 32 = .ok (.isub, 1) := by decide +kernel
theorem dX5_goAlong_33 : decode cX5_goAlong 33 = .ok (.iastore, 1) := by decide +kernel
theorem dX5_goAlong_34 : decode cX5_goAlong 34 = .ok (.aload_n 0, 1) := by decide +kernel
theorem dX5_goAlong_35 : decode cX5_goAlong 35 = .ok (.getfield 9, 3) := by decide +kernel
theorem dX5_goAlong_38 : decode cX5_goAlong 38 = .ok (.iload_n 1, 1) := by decide +kernel
theorem dX5_goAlong_39 : decode cX5_goAlong 39 = .ok (.iaload, 1) := by decide +kernel
theorem dX5_goAlong_40 : decode cX5_goAlong 40 = .ok (.ifCond .ne 8, 3) := by decide +kernel
theorem dX5_goAlong_43 : decode cX5_goAlong 43 = .ok (.aload_n 0, 1) := by decide +kernel
theorem dX5_goAlong_44 : decode cX5_goAlong 44 = .ok (.iload_n 1, 1) := by decide +kernel
theorem dX5_goAlong_45 : decode cX5_goAlong 45 = .ok (.invokevirtual 26, 3) := by decide +kernel
theorem dX5_goAlong_48 : decode cX5_goAlong 48 = .ok (.return_, 1) := by decide +kernel
theorem dX5_setReady_0 : decode cX5_setReady 0 = .ok (.aload_n 0, 1) := by decide +kernel
theorem dX5_setReady_1 : decode cX5_setReady 1 = .ok (.getfield 30, 3) := by decide +kernel
theorem dX5_setReady_4 : decode cX5_setReady 4 = .ok (.bipush 64, 2) := by decide +kernel
theorem dX5_setReady_6 : decode cX5_setReady 6 = .ok (.if_icmp .ge 23, 3) := by decide +kernel
theorem dX5_setReady_9 : decode cX5_setReady 9 = .ok (.aload_n 0, 1) := by decide +kernel
theorem dX5_setReady_10 : decode cX5_setReady 10 = .ok (.getfield 19, 3) := by decide +kernel
theorem dX5_setReady_13 : decode cX5_setReady 13 = .ok (.aload_n 0, 1) := by decide +kernel
theorem dX5_setReady_14 : decode cX5_setReady 14 = .ok (.getfield 30, 3) := by decide +kernel
theorem dX5_setReady_17 : decode cX5_setReady 17 = .ok (.iload_n 1, 1) := by decide +kernel
theorem dX5_setReady_18 : decode cX5_setReady 18 = .ok (.iastore, 1) := by decide +kernel
theorem dX5_setReady_19 : decode cX5_setReady 19 = .ok (.aload_n 0, 1) := by decide +kernel
theorem dX5_setReady_20 : decode cX5_setReady 20 = .ok (.dup, 1) := by decide +kernel
theorem dX5_setReady_21 : decode cX5_setReady 21 = .ok (.getfield 30, 3) := by decide +kernel
theorem dX5_setReady_24 : decode cX5_setReady 24 = .ok (.iconst 1, 1) := by decide +kernel
theorem dX5_setReady_25 : decode cX5_setReady 25 = .ok (.iadd, 1) := by decide +kernel
theorem dX5_setReady_26 : decode cX5_setReady 26 = .ok (.putfield 30, 3) := by decide +kernel
theorem dX5_setReady_29 : decode cX5_setReady 29 = .ok (.return_, 1) := by decide +kernel
theorem dX5_rowsTo_0 : decode cX5_rowsTo 0 = .ok (.iload_n 1, 1) := by decide +kernel
theorem dX5_rowsTo_1 : decode cX5_rowsTo 1 = .ok (.invokestatic 71, 3) := by decide +kernel
theorem dX5_rowsTo_4 : decode cX5_rowsTo 4 = .ok (.ifCond .eq 12, 3) := by decide +kernel
theorem dX5_rowsTo_7 : decode cX5_rowsTo 7 = .ok (.aload_n 0, 1) := by decide +kernel
theorem dX5_rowsTo_8 : decode cX5_rowsTo 8 = .ok (.getfield 15, 3) := by decide +kernel
theorem dX5_rowsTo_11 : decode cX5_rowsTo 11 = .ok (.iload_n 1, 1) := by decide +kernel
theorem dX5_rowsTo_12 : decode cX5_rowsTo 12 = .ok (.laload, 1) := by decide +kernel
theorem dX5_rowsTo_13 : decode cX5_rowsTo 13 = .ok (.goto 4, 3) := by decide +kernel
theorem dX5_rowsTo_16 : decode cX5_rowsTo 16 = .ok (.lconst 0, 1) := by decide +kernel
theorem dX5_rowsTo_17 : decode cX5_rowsTo 17 = .ok (.lreturn, 1) := by decide +kernel
theorem dX5_isPosition_0 : decode cX5_isPosition 0 = .ok (.iload_n 0, 1) := by decide +kernel
theorem dX5_isPosition_1 : decode cX5_isPosition 1 = .ok (.ifCond .lt 13, 3) := by decide +kernel
theorem dX5_isPosition_4 : decode cX5_isPosition 4 = .ok (.iload_n 0, 1) := by decide +kernel
theorem dX5_isPosition_5 : decode cX5_isPosition 5 = .ok (.bipush 64, 2) := by decide +kernel
theorem dX5_isPosition_7 : decode cX5_isPosition 7 = .ok (.if_icmp .ge 7, 3) := by decide +kernel
theorem dX5_isPosition_10 : decode cX5_isPosition 10 = .ok (.iconst 1, 1) := by decide +kernel
theorem dX5_isPosition_11 : decode cX5_isPosition 11 = .ok (.goto 4, 3) := by decide +kernel
theorem dX5_isPosition_14 : decode cX5_isPosition 14 = .ok (.iconst 0, 1) := by decide +kernel
theorem dX5_isPosition_15 : decode cX5_isPosition 15 = .ok (.ireturn, 1) := by decide +kernel
theorem dX5_capped_0 : decode cX5_capped 0 = .ok (.lload_n 0, 1) := by decide +kernel
theorem dX5_capped_1 : decode cX5_capped 1 = .ok (.ldc2_w 74, 3) := by decide +kernel
theorem dX5_capped_4 : decode cX5_capped 4 = .ok (.invokestatic 76, 3) := by decide +kernel
theorem dX5_capped_7 : decode cX5_capped 7 = .ok (.lreturn, 1) := by decide +kernel
theorem dX6_init_0 : decode cX6_init 0 = .ok (.aload_n 0, 1) := by decide +kernel
theorem dX6_init_1 : decode cX6_init 1 = .ok (.aload_n 1, 1) := by decide +kernel
theorem dX6_init_2 : decode cX6_init 2 = .ok (.invokespecial 3, 3) := by decide +kernel
theorem dX6_init_5 : decode cX6_init 5 = .ok (.return_, 1) := by decide +kernel
theorem dX6_goTogether_0 : decode cX6_goTogether 0 = .ok (.iload_n 1, 1) := by decide +kernel
theorem dX6_goTogether_1 : decode cX6_goTogether 1 = .ok (.ifCond .eq 12, 3) := by decide +kernel
theorem dX6_goTogether_4 : decode cX6_goTogether 4 = .ok (.iload_n 1, 1) := by decide +kernel
theorem dX6_goTogether_5 : decode cX6_goTogether 5 = .ok (.iload_n 2, 1) := by decide +kernel
theorem dX6_goTogether_6 : decode cX6_goTogether 6 = .ok (.if_icmp .ne 7, 3) := by decide +kernel
theorem dX6_goTogether_9 : decode cX6_goTogether 9 = .ok (.iconst 1, 1) := by decide +kernel
theorem dX6_goTogether_10 : decode cX6_goTogether 10 = .ok (.goto 4, 3) := by decide +kernel
theorem dX6_goTogether_13 : decode cX6_goTogether 13 = .ok (.iconst 0, 1) := by decide +kernel
theorem dX6_goTogether_14 : decode cX6_goTogether 14 = .ok (.ireturn, 1) := by decide +kernel
theorem dX6_reasonFor_0 : decode cX6_reasonFor 0 = .ok (.iload_n 1, 1) := by decide +kernel
theorem dX6_reasonFor_1 : decode cX6_reasonFor 1 = .ok (.iload_n 3, 1) := by decide +kernel
theorem dX6_reasonFor_2 : decode cX6_reasonFor 2 = .ok (.if_icmp .eq 5, 3) := by decide +kernel
theorem dX6_reasonFor_5 : decode cX6_reasonFor 5 = .ok (.iconst 1, 1) := by decide +kernel
theorem dX6_reasonFor_6 : decode cX6_reasonFor 6 = .ok (.ireturn, 1) := by decide +kernel
theorem dX6_reasonFor_7 : decode cX6_reasonFor 7 = .ok (.iload_n 1, 1) := by decide +kernel
theorem dX6_reasonFor_8 : decode cX6_reasonFor 8 = .ok (.ifCond .ne 5, 3) := by decide +kernel
theorem dX6_reasonFor_11 : decode cX6_reasonFor 11 = .ok (.iconst 0, 1) := by decide +kernel
theorem dX6_reasonFor_12 : decode cX6_reasonFor 12 = .ok (.ireturn, 1) := by decide +kernel
theorem dX6_reasonFor_13 : decode cX6_reasonFor 13 = .ok (.iload_n 1, 1) := by decide +kernel
theorem dX6_reasonFor_14 : decode cX6_reasonFor 14 = .ok (.iconst 1, 1) := by decide +kernel
theorem dX6_reasonFor_15 : decode cX6_reasonFor 15 = .ok (.if_icmp .ne 9, 3) := by decide +kernel
theorem dX6_reasonFor_18 : decode cX6_reasonFor 18 = .ok (.iload_n 2, 1) := by decide +kernel
theorem dX6_reasonFor_19 : decode cX6_reasonFor 19 = .ok (.ifCond .ne 5, 3) := by decide +kernel
theorem dX6_reasonFor_22 : decode cX6_reasonFor 22 = .ok (.iconst 2, 1) := by decide +kernel
theorem dX6_reasonFor_23 : decode cX6_reasonFor 23 = .ok (.ireturn, 1) := by decide +kernel
theorem dX6_reasonFor_24 : decode cX6_reasonFor 24 = .ok (.iload_n 1, 1) := by decide +kernel
theorem dX6_reasonFor_25 : decode cX6_reasonFor 25 = .ok (.iload_n 2, 1) := by decide +kernel
theorem dX6_reasonFor_26 : decode cX6_reasonFor 26 = .ok (.iload 4, 2) := by decide +kernel
theorem dX6_reasonFor_28 : decode cX6_reasonFor 28 = .ok (.invokestatic 11, 3) := by decide +kernel
theorem dX6_reasonFor_31 : decode cX6_reasonFor 31 = .ok (.ifCond .ne 7, 3) := by decide +kernel
theorem dX6_reasonFor_34 : decode cX6_reasonFor 34 = .ok (.iconst 0, 1) := by decide +kernel
theorem dX6_reasonFor_35 : decode cX6_reasonFor 35 = .ok (.goto 4, 3) := by decide +kernel
theorem dX6_reasonFor_38 : decode cX6_reasonFor 38 = .ok (.iconst 3, 1) := by decide +kernel
theorem dX6_reasonFor_39 : decode cX6_reasonFor 39 = .ok (.ireturn, 1) := by decide +kernel
theorem dX7_init_0 : decode cX7_init 0 = .ok (.aload_n 0, 1) := by decide +kernel
theorem dX7_init_1 : decode cX7_init 1 = .ok (.aload_n 1, 1) := by decide +kernel
theorem dX7_init_2 : decode cX7_init 2 = .ok (.invokespecial 3, 3) := by decide +kernel
theorem dX7_init_5 : decode cX7_init 5 = .ok (.return_, 1) := by decide +kernel
theorem dX7_goTogether_0 : decode cX7_goTogether 0 = .ok (.iload_n 1, 1) := by decide +kernel
theorem dX7_goTogether_1 : decode cX7_goTogether 1 = .ok (.ifCond .eq 16, 3) := by decide +kernel
theorem dX7_goTogether_4 : decode cX7_goTogether 4 = .ok (.iload_n 2, 1) := by decide +kernel
theorem dX7_goTogether_5 : decode cX7_goTogether 5 = .ok (.ifCond .eq 12, 3) := by decide +kernel
theorem dX7_goTogether_8 : decode cX7_goTogether 8 = .ok (.iload_n 1, 1) := by decide +kernel
theorem dX7_goTogether_9 : decode cX7_goTogether 9 = .ok (.iload_n 2, 1) := by decide +kernel
theorem dX7_goTogether_10 : decode cX7_goTogether 10 = .ok (.if_icmp .eq 7, 3) := by decide +kernel
theorem dX7_goTogether_13 : decode cX7_goTogether 13 = .ok (.iconst 1, 1) := by decide +kernel
theorem dX7_goTogether_14 : decode cX7_goTogether 14 = .ok (.goto 4, 3) := by decide +kernel
theorem dX7_goTogether_17 : decode cX7_goTogether 17 = .ok (.iconst 0, 1) := by decide +kernel
theorem dX7_goTogether_18 : decode cX7_goTogether 18 = .ok (.ireturn, 1) := by decide +kernel
theorem dX7_reasonFor_0 : decode cX7_reasonFor 0 = .ok (.iload_n 1, 1) := by decide +kernel
theorem dX7_reasonFor_1 : decode cX7_reasonFor 1 = .ok (.ifCond .eq 7, 3) := by decide +kernel
theorem dX7_reasonFor_4 : decode cX7_reasonFor 4 = .ok (.iload_n 3, 1) := by decide +kernel
theorem dX7_reasonFor_5 : decode cX7_reasonFor 5 = .ok (.ifCond .ne 14, 3) := by decide +kernel
theorem dX7_reasonFor_8 : decode cX7_reasonFor 8 = .ok (.iload_n 1, 1) := by decide +kernel
theorem dX7_reasonFor_9 : decode cX7_reasonFor 9 = .ok (.iload_n 3, 1) := by decide +kernel
theorem dX7_reasonFor_10 : decode cX7_reasonFor 10 = .ok (.if_icmp .ne 7, 3) := by decide +kernel
theorem dX7_reasonFor_13 : decode cX7_reasonFor 13 = .ok (.iconst 0, 1) := by decide +kernel
theorem dX7_reasonFor_14 : decode cX7_reasonFor 14 = .ok (.goto 4, 3) := by decide +kernel
theorem dX7_reasonFor_17 : decode cX7_reasonFor 17 = .ok (.iconst 1, 1) := by decide +kernel
theorem dX7_reasonFor_18 : decode cX7_reasonFor 18 = .ok (.ireturn, 1) := by decide +kernel
theorem dX7_reasonFor_19 : decode cX7_reasonFor 19 = .ok (.iload_n 1, 1) := by decide +kernel
theorem dX7_reasonFor_20 : decode cX7_reasonFor 20 = .ok (.iload_n 3, 1) := by decide +kernel
theorem dX7_reasonFor_21 : decode cX7_reasonFor 21 = .ok (.if_icmp .ne 14, 3) := by decide +kernel
theorem dX7_reasonFor_24 : decode cX7_reasonFor 24 = .ok (.iload_n 1, 1) := by decide +kernel
theorem dX7_reasonFor_25 : decode cX7_reasonFor 25 = .ok (.iconst 2, 1) := by decide +kernel
theorem dX7_reasonFor_26 : decode cX7_reasonFor 26 = .ok (.if_icmp .ne 7, 3) := by decide +kernel
theorem dX7_reasonFor_29 : decode cX7_reasonFor 29 = .ok (.iconst 2, 1) := by decide +kernel
theorem dX7_reasonFor_30 : decode cX7_reasonFor 30 = .ok (.goto 4, 3) := by decide +kernel
theorem dX7_reasonFor_33 : decode cX7_reasonFor 33 = .ok (.iconst 3, 1) := by decide +kernel
theorem dX7_reasonFor_34 : decode cX7_reasonFor 34 = .ok (.ireturn, 1) := by decide +kernel
theorem dX7_reasonFor_35 : decode cX7_reasonFor 35 = .ok (.iload_n 1, 1) := by decide +kernel
theorem dX7_reasonFor_36 : decode cX7_reasonFor 36 = .ok (.iconst 1, 1) := by decide +kernel
theorem dX7_reasonFor_37 : decode cX7_reasonFor 37 = .ok (.if_icmp .ne 7, 3) := by decide +kernel
theorem dX7_reasonFor_40 : decode cX7_reasonFor 40 = .ok (.iload_n 2, 1) := by decide +kernel
theorem dX7_reasonFor_41 : decode cX7_reasonFor 41 = .ok (.goto 5, 3) := by decide +kernel
theorem dX7_reasonFor_44 : decode cX7_reasonFor 44 = .ok (.iload 4, 2) := by decide +kernel
theorem dX7_reasonFor_46 : decode cX7_reasonFor 46 = .ok (.istore 5, 2) := by decide +kernel
theorem dX7_reasonFor_48 : decode cX7_reasonFor 48 = .ok (.iload 5, 2) := by decide +kernel
theorem dX7_reasonFor_50 : decode cX7_reasonFor 50 = .ok (.ifCond .ne 5, 3) := by decide +kernel
theorem dX7_reasonFor_53 : decode cX7_reasonFor 53 = .ok (.iconst 4, 1) := by decide +kernel
theorem dX7_reasonFor_54 : decode cX7_reasonFor 54 = .ok (.ireturn, 1) := by decide +kernel
theorem dX7_reasonFor_55 : decode cX7_reasonFor 55 = .ok (.iload_n 1, 1) := by decide +kernel
theorem dX7_reasonFor_56 : decode cX7_reasonFor 56 = .ok (.iload_n 2, 1) := by decide +kernel
theorem dX7_reasonFor_57 : decode cX7_reasonFor 57 = .ok (.iload 4, 2) := by decide +kernel
theorem dX7_reasonFor_59 : decode cX7_reasonFor 59 = .ok (.invokestatic 11, 3) := by decide +kernel
theorem dX7_reasonFor_62 : decode cX7_reasonFor 62 = .ok (.ifCond .ne 7, 3) := by decide +kernel
theorem dX7_reasonFor_65 : decode cX7_reasonFor 65 = .ok (.iconst 0, 1) := by decide +kernel
theorem dX7_reasonFor_66 : decode cX7_reasonFor 66 = .ok (.goto 4, 3) := by decide +kernel
theorem dX7_reasonFor_69 : decode cX7_reasonFor 69 = .ok (.iconst 5, 1) := by decide +kernel
theorem dX7_reasonFor_70 : decode cX7_reasonFor 70 = .ok (.ireturn, 1) := by decide +kernel
theorem dX7_isEnd_0 : decode cX7_isEnd 0 = .ok (.aload_n 0, 1) := by decide +kernel
theorem dX7_isEnd_1 : decode cX7_isEnd 1 = .ok (.iload_n 1, 1) := by decide +kernel
theorem dX7_isEnd_2 : decode cX7_isEnd 2 = .ok (.invokevirtual 15, 3) := by decide +kernel
theorem dX7_isEnd_5 : decode cX7_isEnd 5 = .ok (.ifCond .ne 15, 3) := by decide +kernel
theorem dX7_isEnd_8 : decode cX7_isEnd 8 = .ok (.aload_n 0, 1) := by decide +kernel
theorem dX7_isEnd_9 : decode cX7_isEnd 9 = .ok (.iload_n 1, 1) := by decide +kernel
theorem dX7_isEnd_10 : decode cX7_isEnd 10 = .ok (.invokevirtual 19, 3) := by decide +kernel
theorem dX7_isEnd_13 : decode cX7_isEnd 13 = .ok (.ifCond .ne 7, 3) := by decide +kernel
theorem dX7_isEnd_16 : decode cX7_isEnd 16 = .ok (.iconst 1, 1) := by decide +kernel
theorem dX7_isEnd_17 : decode cX7_isEnd 17 = .ok (.goto 4, 3) := by decide +kernel
theorem dX7_isEnd_20 : decode cX7_isEnd 20 = .ok (.iconst 0, 1) := by decide +kernel
theorem dX7_isEnd_21 : decode cX7_isEnd 21 = .ok (.ireturn, 1) := by decide +kernel
theorem dX7_stuckPairs_0 : decode cX7_stuckPairs 0 = .ok (.iconst 0, 1) := by decide +kernel
theorem dX7_stuckPairs_1 : decode cX7_stuckPairs 1 = .ok (.istore_n 1, 1) := by decide +kernel
theorem dX7_stuckPairs_2 : decode cX7_stuckPairs 2 = .ok (.iconst 0, 1) := by decide +kernel
theorem dX7_stuckPairs_3 : decode cX7_stuckPairs 3 = .ok (.istore_n 2, 1) := by decide +kernel
theorem dX7_stuckPairs_4 : decode cX7_stuckPairs 4 = .ok (.iload_n 2, 1) := by decide +kernel
theorem dX7_stuckPairs_5 : decode cX7_stuckPairs 5 = .ok (.aload_n 0, 1) := by decide +kernel
theorem dX7_stuckPairs_6 : decode cX7_stuckPairs 6 = .ok (.invokevirtual 22, 3) := by decide +kernel
theorem dX7_stuckPairs_9 : decode cX7_stuckPairs 9 = .ok (.if_icmp .ge 20, 3) := by decide +kernel
theorem dX7_stuckPairs_12 : decode cX7_stuckPairs 12 = .ok (.aload_n 0, 1) := by decide +kernel
theorem dX7_stuckPairs_13 : decode cX7_stuckPairs 13 = .ok (.iload_n 2, 1) := by decide +kernel
theorem dX7_stuckPairs_14 : decode cX7_stuckPairs 14 = .ok (.invokevirtual 26, 3) := by decide +kernel
theorem dX7_stuckPairs_17 : decode cX7_stuckPairs 17 = .ok (.ifCond .eq 6, 3) := by decide +kernel
theorem dX7_stuckPairs_20 : decode cX7_stuckPairs 20 = .ok (.iinc 1 1, 3) := by decide +kernel
theorem dX7_stuckPairs_23 : decode cX7_stuckPairs 23 = .ok (.iinc 2 1, 3) := by decide +kernel
theorem dX7_stuckPairs_26 : decode cX7_stuckPairs 26 = .ok (.goto (-22), 3) := by decide +kernel
theorem dX7_stuckPairs_29 : decode cX7_stuckPairs 29 = .ok (.iload_n 1, 1) := by decide +kernel
theorem dX7_stuckPairs_30 : decode cX7_stuckPairs 30 = .ok (.ireturn, 1) := by decide +kernel
theorem dX7_ends_0 : decode cX7_ends 0 = .ok (.iconst 0, 1) := by decide +kernel
theorem dX7_ends_1 : decode cX7_ends 1 = .ok (.istore_n 1, 1) := by decide +kernel
theorem dX7_ends_2 : decode cX7_ends 2 = .ok (.iconst 0, 1) := by decide +kernel
theorem dX7_ends_3 : decode cX7_ends 3 = .ok (.istore_n 2, 1) := by decide +kernel
theorem dX7_ends_4 : decode cX7_ends 4 = .ok (.iload_n 2, 1) := by decide +kernel
theorem dX7_ends_5 : decode cX7_ends 5 = .ok (.aload_n 0, 1) := by decide +kernel
theorem dX7_ends_6 : decode cX7_ends 6 = .ok (.invokevirtual 22, 3) := by decide +kernel
theorem dX7_ends_9 : decode cX7_ends 9 = .ok (.if_icmp .ge 20, 3) := by decide +kernel
theorem dX7_ends_12 : decode cX7_ends 12 = .ok (.aload_n 0, 1) := by decide +kernel
theorem dX7_ends_13 : decode cX7_ends 13 = .ok (.iload_n 2, 1) := by decide +kernel
theorem dX7_ends_14 : decode cX7_ends 14 = .ok (.invokevirtual 29, 3) := by decide +kernel
theorem dX7_ends_17 : decode cX7_ends 17 = .ok (.ifCond .eq 6, 3) := by decide +kernel
theorem dX7_ends_20 : decode cX7_ends 20 = .ok (.iinc 1 1, 3) := by decide +kernel
theorem dX7_ends_23 : decode cX7_ends 23 = .ok (.iinc 2 1, 3) := by decide +kernel
theorem dX7_ends_26 : decode cX7_ends 26 = .ok (.goto (-22), 3) := by decide +kernel
theorem dX7_ends_29 : decode cX7_ends 29 = .ok (.iload_n 1, 1) := by decide +kernel
theorem dX7_ends_30 : decode cX7_ends 30 = .ok (.ireturn, 1) := by decide +kernel
theorem dX7_fewestWordsToEnd_0 : decode cX7_fewestWordsToEnd 0 = .ok (.iconst 0, 1) := by decide +kernel
theorem dX7_fewestWordsToEnd_1 : decode cX7_fewestWordsToEnd 1 = .ok (.istore_n 1, 1) := by decide +kernel
theorem dX7_fewestWordsToEnd_2 : decode cX7_fewestWordsToEnd 2 = .ok (.iload_n 1, 1) := by decide +kernel
theorem dX7_fewestWordsToEnd_3 : decode cX7_fewestWordsToEnd 3 = .ok (.aload_n 0, 1) := by decide +kernel
theorem dX7_fewestWordsToEnd_4 : decode cX7_fewestWordsToEnd 4 = .ok (.invokevirtual 22, 3) := by decide +kernel
theorem dX7_fewestWordsToEnd_7 : decode cX7_fewestWordsToEnd 7 = .ok (.if_icmp .ge 23, 3) := by decide +kernel
theorem dX7_fewestWordsToEnd_10 : decode cX7_fewestWordsToEnd 10 = .ok (.aload_n 0, 1) := by decide +kernel
theorem dX7_fewestWordsToEnd_11 : decode cX7_fewestWordsToEnd 11 = .ok (.iload_n 1, 1) := by decide +kernel
theorem dX7_fewestWordsToEnd_12 : decode cX7_fewestWordsToEnd 12 = .ok (.invokevirtual 29, 3) := by decide +kernel
theorem dX7_fewestWordsToEnd_15 : decode cX7_fewestWordsToEnd 15 = .ok (.ifCond .eq 9, 3) := by decide +kernel
theorem dX7_fewestWordsToEnd_18 : decode cX7_fewestWordsToEnd 18 = .ok (.aload_n 0, 1) := by decide +kernel
theorem dX7_fewestWordsToEnd_19 : decode cX7_fewestWordsToEnd 19 = .ok (.iload_n 1, 1) := by decide +kernel
theorem dX7_fewestWordsToEnd_20 : decode cX7_fewestWordsToEnd 20 = .ok (.invokevirtual 33, 3) := by decide +kernel
theorem dX7_fewestWordsToEnd_23 : decode cX7_fewestWordsToEnd 23 = .ok (.ireturn, 1) := by decide +kernel
theorem dX7_fewestWordsToEnd_24 : decode cX7_fewestWordsToEnd 24 = .ok (.iinc 1 1, 3) := by decide +kernel
theorem dX7_fewestWordsToEnd_27 : decode cX7_fewestWordsToEnd 27 = .ok (.goto (-25), 3) := by decide +kernel
theorem dX7_fewestWordsToEnd_30 : decode cX7_fewestWordsToEnd 30 = .ok (.iconst (-1), 1) := by decide +kernel
theorem dX7_fewestWordsToEnd_31 : decode cX7_fewestWordsToEnd 31 = .ok (.ireturn, 1) := by decide +kernel
theorem dX7_statesOfOne_0 : decode cX7_statesOfOne 0 = .ok (.iconst 0, 1) := by decide +kernel
theorem dX7_statesOfOne_1 : decode cX7_statesOfOne 1 = .ok (.istore_n 1, 1) := by decide +kernel
theorem dX7_statesOfOne_2 : decode cX7_statesOfOne 2 = .ok (.iconst 0, 1) := by decide +kernel
theorem dX7_statesOfOne_3 : decode cX7_statesOfOne 3 = .ok (.istore_n 2, 1) := by decide +kernel
theorem dX7_statesOfOne_4 : decode cX7_statesOfOne 4 = .ok (.iload_n 2, 1) := by decide +kernel
theorem dX7_statesOfOne_5 : decode cX7_statesOfOne 5 = .ok (.aload_n 0, 1) := by decide +kernel
theorem dX7_statesOfOne_6 : decode cX7_statesOfOne 6 = .ok (.invokevirtual 22, 3) := by decide +kernel
theorem dX7_statesOfOne_9 : decode cX7_statesOfOne 9 = .ok (.if_icmp .ge 19, 3) := by decide +kernel
theorem dX7_statesOfOne_12 : decode cX7_statesOfOne 12 = .ok (.iload_n 1, 1) := by decide +kernel
theorem dX7_statesOfOne_13 : decode cX7_statesOfOne 13 = .ok (.iconst 1, 1) := by decide +kernel
theorem dX7_statesOfOne_14 : decode cX7_statesOfOne 14 = .ok (.aload_n 0, 1) := by decide +kernel
theorem dX7_statesOfOne_15 : decode cX7_statesOfOne 15 = .ok (.iload_n 2, 1) := by decide +kernel
theorem dX7_statesOfOne_16 : decode cX7_statesOfOne 16 = .ok (.invokevirtual 36, 3) := by decide +kernel
theorem dX7_statesOfOne_19 : decode cX7_statesOfOne 19 = .ok (.ishl, 1) := by decide +kernel
theorem dX7_statesOfOne_20 : decode cX7_statesOfOne 20 = .ok (.ior, 1) := by decide +kernel
theorem dX7_statesOfOne_21 : decode cX7_statesOfOne 21 = .ok (.istore_n 1, 1) := by decide +kernel
theorem dX7_statesOfOne_22 : decode cX7_statesOfOne 22 = .ok (.iinc 2 1, 3) := by decide +kernel
theorem dX7_statesOfOne_25 : decode cX7_statesOfOne 25 = .ok (.goto (-21), 3) := by decide +kernel
theorem dX7_statesOfOne_28 : decode cX7_statesOfOne 28 = .ok (.iload_n 1, 1) := by decide +kernel
theorem dX7_statesOfOne_29 : decode cX7_statesOfOne 29 = .ok (.ireturn, 1) := by decide +kernel
theorem dX7_statesOfOther_0 : decode cX7_statesOfOther 0 = .ok (.iconst 0, 1) := by decide +kernel
theorem dX7_statesOfOther_1 : decode cX7_statesOfOther 1 = .ok (.istore_n 1, 1) := by decide +kernel
theorem dX7_statesOfOther_2 : decode cX7_statesOfOther 2 = .ok (.iconst 0, 1) := by decide +kernel
theorem dX7_statesOfOther_3 : decode cX7_statesOfOther 3 = .ok (.istore_n 2, 1) := by decide +kernel
theorem dX7_statesOfOther_4 : decode cX7_statesOfOther 4 = .ok (.iload_n 2, 1) := by decide +kernel
theorem dX7_statesOfOther_5 : decode cX7_statesOfOther 5 = .ok (.aload_n 0, 1) := by decide +kernel
theorem dX7_statesOfOther_6 : decode cX7_statesOfOther 6 = .ok (.invokevirtual 22, 3) := by decide +kernel
theorem dX7_statesOfOther_9 : decode cX7_statesOfOther 9 = .ok (.if_icmp .ge 19, 3) := by decide +kernel
theorem dX7_statesOfOther_12 : decode cX7_statesOfOther 12 = .ok (.iload_n 1, 1) := by decide +kernel
theorem dX7_statesOfOther_13 : decode cX7_statesOfOther 13 = .ok (.iconst 1, 1) := by decide +kernel
theorem dX7_statesOfOther_14 : decode cX7_statesOfOther 14 = .ok (.aload_n 0, 1) := by decide +kernel
theorem dX7_statesOfOther_15 : decode cX7_statesOfOther 15 = .ok (.iload_n 2, 1) := by decide +kernel
theorem dX7_statesOfOther_16 : decode cX7_statesOfOther 16 = .ok (.invokevirtual 39, 3) := by decide +kernel
theorem dX7_statesOfOther_19 : decode cX7_statesOfOther 19 = .ok (.ishl, 1) := by decide +kernel
theorem dX7_statesOfOther_20 : decode cX7_statesOfOther 20 = .ok (.ior, 1) := by decide +kernel
theorem dX7_statesOfOther_21 : decode cX7_statesOfOther 21 = .ok (.istore_n 1, 1) := by decide +kernel
theorem dX7_statesOfOther_22 : decode cX7_statesOfOther 22 = .ok (.iinc 2 1, 3) := by decide +kernel
theorem dX7_statesOfOther_25 : decode cX7_statesOfOther 25 = .ok (.goto (-21), 3) := by decide +kernel
theorem dX7_statesOfOther_28 : decode cX7_statesOfOther 28 = .ok (.iload_n 1, 1) := by decide +kernel
theorem dX7_statesOfOther_29 : decode cX7_statesOfOther 29 = .ok (.ireturn, 1) := by decide +kernel
theorem dX8_init_0 : decode cX8_init 0 = .ok (.aload_n 0, 1) := by decide +kernel
theorem dX8_init_1 : decode cX8_init 1 = .ok (.invokespecial 1, 3) := by decide +kernel
theorem dX8_init_4 : decode cX8_init 4 = .ok (.aload_n 0, 1) := by decide +kernel
theorem dX8_init_5 : decode cX8_init 5 = .ok (.new 7, 3) := by decide +kernel
theorem dX8_init_8 : decode cX8_init 8 = .ok (.dup, 1) := by decide +kernel
theorem dX8_init_9 : decode cX8_init 9 = .ok (.invokespecial 9, 3) := by decide +kernel
theorem dX8_init_12 : decode cX8_init 12 = .ok (.putfield 10, 3) := by decide +kernel
theorem dX8_init_15 : decode cX8_init 15 = .ok (.aload_n 0, 1) := by decide +kernel
theorem dX8_init_16 : decode cX8_init 16 = .ok (.new 7, 3) := by decide +kernel
theorem dX8_init_19 : decode cX8_init 19 = .ok (.dup, 1) := by decide +kernel
theorem dX8_init_20 : decode cX8_init 20 = .ok (.invokespecial 9, 3) := by decide +kernel
theorem dX8_init_23 : decode cX8_init 23 = .ok (.putfield 16, 3) := by decide +kernel
theorem dX8_init_26 : decode cX8_init 26 = .ok (.aload_n 0, 1) := by decide +kernel
theorem dX8_init_27 : decode cX8_init 27 = .ok (.new 7, 3) := by decide +kernel
theorem dX8_init_30 : decode cX8_init 30 = .ok (.dup, 1) := by decide +kernel
theorem dX8_init_31 : decode cX8_init 31 = .ok (.invokespecial 9, 3) := by decide +kernel
theorem dX8_init_34 : decode cX8_init 34 = .ok (.putfield 19, 3) := by decide +kernel
theorem dX8_init_37 : decode cX8_init 37 = .ok (.aload_n 0, 1) := by decide +kernel
theorem dX8_init_38 : decode cX8_init 38 = .ok (.new 22, 3) := by decide +kernel
theorem dX8_init_41 : decode cX8_init 41 = .ok (.dup, 1) := by decide +kernel
theorem dX8_init_42 : decode cX8_init 42 = .ok (.invokespecial 24, 3) := by decide +kernel
theorem dX8_init_45 : decode cX8_init 45 = .ok (.putfield 25, 3) := by decide +kernel
theorem dX8_init_48 : decode cX8_init 48 = .ok (.aload_n 0, 1) := by decide +kernel
theorem dX8_init_49 : decode cX8_init 49 = .ok (.new 29, 3) := by decide +kernel
theorem dX8_init_52 : decode cX8_init 52 = .ok (.dup, 1) := by decide +kernel
theorem dX8_init_53 : decode cX8_init 53 = .ok (.invokespecial 31, 3) := by decide +kernel
theorem dX8_init_56 : decode cX8_init 56 = .ok (.putfield 32, 3) := by decide +kernel
theorem dX8_init_59 : decode cX8_init 59 = .ok (.aload_n 0, 1) := by decide +kernel
theorem dX8_init_60 : decode cX8_init 60 = .ok (.new 36, 3) := by decide +kernel
theorem dX8_init_63 : decode cX8_init 63 = .ok (.dup, 1) := by decide +kernel
theorem dX8_init_64 : decode cX8_init 64 = .ok (.invokespecial 38, 3) := by decide +kernel
theorem dX8_init_67 : decode cX8_init 67 = .ok (.putfield 39, 3) := by decide +kernel
theorem dX8_init_70 : decode cX8_init 70 = .ok (.aload_n 0, 1) := by decide +kernel
theorem dX8_init_71 : decode cX8_init 71 = .ok (.new 43, 3) := by decide +kernel
theorem dX8_init_74 : decode cX8_init 74 = .ok (.dup, 1) := by decide +kernel
theorem dX8_init_75 : decode cX8_init 75 = .ok (.aload_n 0, 1) := by decide +kernel
theorem dX8_init_76 : decode cX8_init 76 = .ok (.getfield 10, 3) := by decide +kernel
theorem dX8_init_79 : decode cX8_init 79 = .ok (.invokespecial 45, 3) := by decide +kernel
theorem dX8_init_82 : decode cX8_init 82 = .ok (.putfield 48, 3) := by decide +kernel
theorem dX8_init_85 : decode cX8_init 85 = .ok (.aload_n 0, 1) := by decide +kernel
theorem dX8_init_86 : decode cX8_init 86 = .ok (.new 52, 3) := by decide +kernel
theorem dX8_init_89 : decode cX8_init 89 = .ok (.dup, 1) := by decide +kernel
theorem dX8_init_90 : decode cX8_init 90 = .ok (.invokespecial 54, 3) := by decide +kernel
theorem dX8_init_93 : decode cX8_init 93 = .ok (.putfield 55, 3) := by decide +kernel
theorem dX8_init_96 : decode cX8_init 96 = .ok (.aload_n 0, 1) := by decide +kernel
theorem dX8_init_97 : decode cX8_init 97 = .ok (.new 59, 3) := by decide +kernel
theorem dX8_init_100 : decode cX8_init 100 = .ok (.dup, 1) := by decide +kernel
theorem dX8_init_101 : decode cX8_init 101 = .ok (.aload_n 0, 1) := by decide +kernel
theorem dX8_init_102 : decode cX8_init 102 = .ok (.getfield 10, 3) := by decide +kernel
theorem dX8_init_105 : decode cX8_init 105 = .ok (.invokespecial 61, 3) := by decide +kernel
theorem dX8_init_108 : decode cX8_init 108 = .ok (.putfield 62, 3) := by decide +kernel
theorem dX8_init_111 : decode cX8_init 111 = .ok (.return_, 1) := by decide +kernel
theorem dX8_kind_0 : decode cX8_kind 0 = .ok (.iload_n 1, 1) := by decide +kernel
theorem dX8_kind_1 : decode cX8_kind 1 = .ok (.invokestatic 66, 3) := by decide +kernel
theorem dX8_kind_4 : decode cX8_kind 4 = .ok (.ifCond .eq 17, 3) := by decide +kernel
theorem dX8_kind_7 : decode cX8_kind 7 = .ok (.iload_n 2, 1) := by decide +kernel
theorem dX8_kind_8 : decode cX8_kind 8 = .ok (.invokestatic 70, 3) := by decide +kernel
theorem dX8_kind_11 : decode cX8_kind 11 = .ok (.ifCond .eq 10, 3) := by decide +kernel
theorem dX8_kind_14 : decode cX8_kind 14 = .ok (.iload_n 3, 1) := by decide +kernel
theorem dX8_kind_15 : decode cX8_kind 15 = .ok (.invokestatic 73, 3) := by decide +kernel
theorem dX8_kind_18 : decode cX8_kind 18 = .ok (.ifCond .ne 6, 3) := by decide +kernel
theorem dX8_kind_21 : decode cX8_kind 21 = .ok (.ldc 76, 2) := by decide +kernel
theorem dX8_kind_23 : decode cX8_kind 23 = .ok (.ireturn, 1) := by decide +kernel
theorem dX8_kind_24 : decode cX8_kind 24 = .ok (.aload_n 0, 1) := by decide +kernel
theorem dX8_kind_25 : decode cX8_kind 25 = .ok (.invokevirtual 77, 3) := by decide +kernel
theorem dX8_kind_28 : decode cX8_kind 28 = .ok (.aload_n 0, 1) := by decide +kernel
theorem dX8_kind_29 : decode cX8_kind 29 = .ok (.iload_n 1, 1) := by decide +kernel
theorem dX8_kind_30 : decode cX8_kind 30 = .ok (.invokevirtual 80, 3) := by decide +kernel
theorem dX8_kind_33 : decode cX8_kind 33 = .ok (.iload_n 2, 1) := by decide +kernel
theorem dX8_kind_34 : decode cX8_kind 34 = .ok (.invokevirtual 84, 3) := by decide +kernel
theorem dX8_kind_37 : decode cX8_kind 37 = .ok (.istore 4, 2) := by decide +kernel
theorem dX8_kind_39 : decode cX8_kind 39 = .ok (.aload_n 0, 1) := by decide +kernel
theorem dX8_kind_40 : decode cX8_kind 40 = .ok (.iload_n 1, 1) := by decide +kernel
theorem dX8_kind_41 : decode cX8_kind 41 = .ok (.invokevirtual 80, 3) := by decide +kernel
theorem dX8_kind_44 : decode cX8_kind 44 = .ok (.iload_n 2, 1) := by decide +kernel
theorem dX8_kind_45 : decode cX8_kind 45 = .ok (.iload_n 3, 1) := by decide +kernel
theorem dX8_kind_46 : decode cX8_kind 46 = .ok (.invokevirtual 88, 3) := by decide +kernel
theorem dX8_kind_49 : decode cX8_kind 49 = .ok (.iload 4, 2) := by decide +kernel
theorem dX8_kind_51 : decode cX8_kind 51 = .ok (.ireturn, 1) := by decide +kernel
theorem dX8_arrow_0 : decode cX8_arrow 0 = .ok (.iload_n 1, 1) := by decide +kernel
theorem dX8_arrow_1 : decode cX8_arrow 1 = .ok (.invokestatic 66, 3) := by decide +kernel
theorem dX8_arrow_4 : decode cX8_arrow 4 = .ok (.ifCond .eq 25, 3) := by decide +kernel
theorem dX8_arrow_7 : decode cX8_arrow 7 = .ok (.iload_n 2, 1) := by decide +kernel
theorem dX8_arrow_8 : decode cX8_arrow 8 = .ok (.invokestatic 70, 3) := by decide +kernel
theorem dX8_arrow_11 : decode cX8_arrow 11 = .ok (.ifCond .eq 18, 3) := by decide +kernel
theorem dX8_arrow_14 : decode cX8_arrow 14 = .ok (.iload_n 3, 1) := by decide +kernel
theorem dX8_arrow_15 : decode cX8_arrow 15 = .ok (.invokestatic 92, 3) := by decide +kernel
theorem dX8_arrow_18 : decode cX8_arrow 18 = .ok (.ifCond .eq 11, 3) := by decide +kernel
theorem dX8_arrow_21 : decode cX8_arrow 21 = .ok (.iload 4, 2) := by decide +kernel
theorem dX8_arrow_23 : decode cX8_arrow 23 = .ok (.invokestatic 70, 3) := by decide +kernel
theorem dX8_arrow_26 : decode cX8_arrow 26 = .ok (.ifCond .ne 6, 3) := by decide +kernel
theorem dX8_arrow_29 : decode cX8_arrow 29 = .ok (.ldc 76, 2) := by decide +kernel
theorem dX8_arrow_31 : decode cX8_arrow 31 = .ok (.ireturn, 1) := by decide +kernel
theorem dX8_arrow_32 : decode cX8_arrow 32 = .ok (.aload_n 0, 1) := by decide +kernel
theorem dX8_arrow_33 : decode cX8_arrow 33 = .ok (.invokevirtual 77, 3) := by decide +kernel
theorem dX8_arrow_36 : decode cX8_arrow 36 = .ok (.aload_n 0, 1) := by decide +kernel
theorem dX8_arrow_37 : decode cX8_arrow 37 = .ok (.iload_n 1, 1) := by decide +kernel
theorem dX8_arrow_38 : decode cX8_arrow 38 = .ok (.invokevirtual 80, 3) := by decide +kernel
theorem dX8_arrow_41 : decode cX8_arrow 41 = .ok (.iload_n 2, 1) := by decide +kernel
theorem dX8_arrow_42 : decode cX8_arrow 42 = .ok (.iload_n 3, 1) := by decide +kernel
theorem dX8_arrow_43 : decode cX8_arrow 43 = .ok (.iload 4, 2) := by decide +kernel
theorem dX8_arrow_45 : decode cX8_arrow 45 = .ok (.invokevirtual 95, 3) := by decide +kernel
theorem dX8_arrow_48 : decode cX8_arrow 48 = .ok (.aload_n 0, 1) := by decide +kernel
theorem dX8_arrow_49 : decode cX8_arrow 49 = .ok (.iload_n 1, 1) := by decide +kernel
theorem dX8_arrow_50 : decode cX8_arrow 50 = .ok (.invokevirtual 80, 3) := by decide +kernel
theorem dX8_arrow_53 : decode cX8_arrow 53 = .ok (.iload_n 2, 1) := by decide +kernel
theorem dX8_arrow_54 : decode cX8_arrow 54 = .ok (.invokevirtual 99, 3) := by decide +kernel
theorem dX8_arrow_57 : decode cX8_arrow 57 = .ok (.invokestatic 102, 3) := by decide +kernel
theorem dX8_arrow_60 : decode cX8_arrow 60 = .ok (.ireturn, 1) := by decide +kernel
theorem dX8_erase_0 : decode cX8_erase 0 = .ok (.iload_n 1, 1) := by decide +kernel
theorem dX8_erase_1 : decode cX8_erase 1 = .ok (.invokestatic 66, 3) := by decide +kernel
theorem dX8_erase_4 : decode cX8_erase 4 = .ok (.ifCond .eq 17, 3) := by decide +kernel
theorem dX8_erase_7 : decode cX8_erase 7 = .ok (.iload_n 2, 1) := by decide +kernel
theorem dX8_erase_8 : decode cX8_erase 8 = .ok (.invokestatic 70, 3) := by decide +kernel
theorem dX8_erase_11 : decode cX8_erase 11 = .ok (.ifCond .eq 10, 3) := by decide +kernel
theorem dX8_erase_14 : decode cX8_erase 14 = .ok (.iload_n 3, 1) := by decide +kernel
theorem dX8_erase_15 : decode cX8_erase 15 = .ok (.invokestatic 92, 3) := by decide +kernel
theorem dX8_erase_18 : decode cX8_erase 18 = .ok (.ifCond .ne 6, 3) := by decide +kernel
theorem dX8_erase_21 : decode cX8_erase 21 = .ok (.ldc 76, 2) := by decide +kernel
theorem dX8_erase_23 : decode cX8_erase 23 = .ok (.ireturn, 1) := by decide +kernel
theorem dX8_erase_24 : decode cX8_erase 24 = .ok (.aload_n 0, 1) := by decide +kernel
theorem dX8_erase_25 : decode cX8_erase 25 = .ok (.iload_n 1, 1) := by decide +kernel
theorem dX8_erase_26 : decode cX8_erase 26 = .ok (.invokevirtual 80, 3) := by decide +kernel
theorem dX8_erase_29 : decode cX8_erase 29 = .ok (.iload_n 2, 1) := by decide +kernel
theorem dX8_erase_30 : decode cX8_erase 30 = .ok (.iload_n 3, 1) := by decide +kernel
theorem dX8_erase_31 : decode cX8_erase 31 = .ok (.invokevirtual 107, 3) := by decide +kernel
theorem dX8_erase_34 : decode cX8_erase 34 = .ok (.istore 4, 2) := by decide +kernel
theorem dX8_erase_36 : decode cX8_erase 36 = .ok (.iload 4, 2) := by decide +kernel
theorem dX8_erase_38 : decode cX8_erase 38 = .ok (.iconst (-1), 1) := by decide +kernel
theorem dX8_erase_39 : decode cX8_erase 39 = .ok (.if_icmp .ne 6, 3) := by decide +kernel
theorem dX8_erase_42 : decode cX8_erase 42 = .ok (.ldc 111, 2) := by decide +kernel
theorem dX8_erase_44 : decode cX8_erase 44 = .ok (.ireturn, 1) := by decide +kernel
theorem dX8_erase_45 : decode cX8_erase 45 = .ok (.aload_n 0, 1) := by decide +kernel
theorem dX8_erase_46 : decode cX8_erase 46 = .ok (.invokevirtual 77, 3) := by decide +kernel
theorem dX8_erase_49 : decode cX8_erase 49 = .ok (.aload_n 0, 1) := by decide +kernel
theorem dX8_erase_50 : decode cX8_erase 50 = .ok (.iload_n 1, 1) := by decide +kernel
theorem dX8_erase_51 : decode cX8_erase 51 = .ok (.invokevirtual 80, 3) := by decide +kernel
theorem dX8_erase_54 : decode cX8_erase 54 = .ok (.iload_n 2, 1) := by decide +kernel
theorem dX8_erase_55 : decode cX8_erase 55 = .ok (.iload_n 3, 1) := by decide +kernel
theorem dX8_erase_56 : decode cX8_erase 56 = .ok (.iconst (-1), 1) := by decide +kernel
theorem dX8_erase_57 : decode cX8_erase 57 = .ok (.invokevirtual 95, 3) := by decide +kernel
theorem dX8_erase_60 : decode cX8_erase 60 = .ok (.iload 4, 2) := by decide +kernel
theorem dX8_erase_62 : decode cX8_erase 62 = .ok (.ireturn, 1) := by decide +kernel
theorem dX8_copy_0 : decode cX8_copy 0 = .ok (.iload_n 1, 1) := by decide +kernel
theorem dX8_copy_1 : decode cX8_copy 1 = .ok (.invokestatic 66, 3) := by decide +kernel
theorem dX8_copy_4 : decode cX8_copy 4 = .ok (.ifCond .eq 15, 3) := by decide +kernel
theorem dX8_copy_7 : decode cX8_copy 7 = .ok (.iload_n 2, 1) := by decide +kernel
theorem dX8_copy_8 : decode cX8_copy 8 = .ok (.invokestatic 66, 3) := by decide +kernel
theorem dX8_copy_11 : decode cX8_copy 11 = .ok (.ifCond .eq 8, 3) := by decide +kernel
theorem dX8_copy_14 : decode cX8_copy 14 = .ok (.iload_n 1, 1) := by decide +kernel
theorem dX8_copy_15 : decode cX8_copy 15 = .ok (.iload_n 2, 1) := by decide +kernel
theorem dX8_copy_16 : decode cX8_copy 16 = .ok (.if_icmp .ne 6, 3) := by decide +kernel
theorem dX8_copy_19 : decode cX8_copy 19 = .ok (.ldc 76, 2) := by decide +kernel
theorem dX8_copy_21 : decode cX8_copy 21 = .ok (.ireturn, 1) := by decide +kernel
theorem dX8_copy_22 : decode cX8_copy 22 = .ok (.aload_n 0, 1) := by decide +kernel
theorem dX8_copy_23 : decode cX8_copy 23 = .ok (.invokevirtual 77, 3) := by decide +kernel
theorem dX8_copy_26 : decode cX8_copy 26 = .ok (.aload_n 0, 1) := by decide +kernel
theorem dX8_copy_27 : decode cX8_copy 27 = .ok (.iload_n 2, 1) := by decide +kernel
theorem dX8_copy_28 : decode cX8_copy 28 = .ok (.invokevirtual 80, 3) := by decide +kernel
theorem dX8_copy_31 : decode cX8_copy 31 = .ok (.aload_n 0, 1) := by decide +kernel
theorem dX8_copy_32 : decode cX8_copy 32 = .ok (.iload_n 1, 1) := by decide +kernel
theorem dX8_copy_33 : decode cX8_copy 33 = .ok (.invokevirtual 80, 3) := by decide +kernel
theorem dX8_copy_36 : decode cX8_copy 36 = .ok (.invokevirtual 112, 3) := by decide +kernel
theorem dX8_copy_39 : decode cX8_copy 39 = .ok (.aload_n 0, 1) := by decide +kernel
theorem dX8_copy_40 : decode cX8_copy 40 = .ok (.iload_n 2, 1) := by decide +kernel
theorem dX8_copy_41 : decode cX8_copy 41 = .ok (.invokevirtual 80, 3) := by decide +kernel
theorem dX8_copy_44 : decode cX8_copy 44 = .ok (.invokevirtual 115, 3) := by decide +kernel
theorem dX8_copy_47 : decode cX8_copy 47 = .ok (.ireturn, 1) := by decide +kernel
theorem dX8_mirror_0 : decode cX8_mirror 0 = .ok (.iload_n 1, 1) := by decide +kernel
theorem dX8_mirror_1 : decode cX8_mirror 1 = .ok (.invokestatic 66, 3) := by decide +kernel
theorem dX8_mirror_4 : decode cX8_mirror 4 = .ok (.ifCond .ne 6, 3) := by decide +kernel
theorem dX8_mirror_7 : decode cX8_mirror 7 = .ok (.ldc 76, 2) := by decide +kernel
theorem dX8_mirror_9 : decode cX8_mirror 9 = .ok (.ireturn, 1) := by decide +kernel
theorem dX8_mirror_10 : decode cX8_mirror 10 = .ok (.aload_n 0, 1) := by decide +kernel
theorem dX8_mirror_11 : decode cX8_mirror 11 = .ok (.invokevirtual 77, 3) := by decide +kernel
theorem dX8_mirror_14 : decode cX8_mirror 14 = .ok (.aload_n 0, 1) := by decide +kernel
theorem dX8_mirror_15 : decode cX8_mirror 15 = .ok (.iload_n 1, 1) := by decide +kernel
theorem dX8_mirror_16 : decode cX8_mirror 16 = .ok (.invokevirtual 80, 3) := by decide +kernel
theorem dX8_mirror_19 : decode cX8_mirror 19 = .ok (.invokevirtual 119, 3) := by decide +kernel
theorem dX8_mirror_22 : decode cX8_mirror 22 = .ok (.aload_n 0, 1) := by decide +kernel
theorem dX8_mirror_23 : decode cX8_mirror 23 = .ok (.iload_n 1, 1) := by decide +kernel
theorem dX8_mirror_24 : decode cX8_mirror 24 = .ok (.invokevirtual 80, 3) := by decide +kernel
theorem dX8_mirror_27 : decode cX8_mirror 27 = .ok (.invokevirtual 115, 3) := by decide +kernel
theorem dX8_mirror_30 : decode cX8_mirror 30 = .ok (.ireturn, 1) := by decide +kernel
theorem dX8_stateOf_0 : decode cX8_stateOf 0 = .ok (.iload_n 3, 1) := by decide +kernel
theorem dX8_stateOf_1 : decode cX8_stateOf 1 = .ok (.bipush 10, 2) := by decide +kernel
theorem dX8_stateOf_3 : decode cX8_stateOf 3 = .ok (.if_icmp .lt 13, 3) := by decide +kernel
theorem dX8_stateOf_6 : decode cX8_stateOf 6 = .ok (.iload_n 3, 1) := by decide +kernel
theorem dX8_stateOf_7 : decode cX8_stateOf 7 = .ok (.bipush 16, 2) := by decide +kernel
theorem dX8_stateOf_9 : decode cX8_stateOf 9 = .ok (.if_icmp .ge 7, 3) := by decide +kernel
theorem dX8_stateOf_12 : decode cX8_stateOf 12 = .ok (.iconst 1, 1) := by decide +kernel
theorem dX8_stateOf_13 : decode cX8_stateOf 13 = .ok (.goto 4, 3) := by decide +kernel
theorem dX8_stateOf_16 : decode cX8_stateOf 16 = .ok (.iconst 0, 1) := by decide +kernel
theorem dX8_stateOf_17 : decode cX8_stateOf 17 = .ok (.istore 4, 2) := by decide +kernel
theorem dX8_stateOf_19 : decode cX8_stateOf 19 = .ok (.iload_n 1, 1) := by decide +kernel
theorem dX8_stateOf_20 : decode cX8_stateOf 20 = .ok (.invokestatic 66, 3) := by decide +kernel
theorem dX8_stateOf_23 : decode cX8_stateOf 23 = .ok (.ifCond .eq 24, 3) := by decide +kernel
theorem dX8_stateOf_26 : decode cX8_stateOf 26 = .ok (.iload_n 2, 1) := by decide +kernel
theorem dX8_stateOf_27 : decode cX8_stateOf 27 = .ok (.invokestatic 70, 3) := by decide +kernel
theorem dX8_stateOf_30 : decode cX8_stateOf 30 = .ok (.ifCond .eq 17, 3) := by decide +kernel
theorem dX8_stateOf_33 : decode cX8_stateOf 33 = .ok (.iload 4, 2) := by decide +kernel
theorem dX8_stateOf_35 : decode cX8_stateOf 35 = .ok (.ifCond .ne 15, 3) := by decide +kernel
theorem dX8_stateOf_38 : decode cX8_stateOf 38 = .ok (.iload_n 3, 1) := by decide +kernel
theorem dX8_stateOf_39 : decode cX8_stateOf 39 = .ok (.ifCond .lt 8, 3) := by decide +kernel
theorem dX8_stateOf_42 : decode cX8_stateOf 42 = .ok (.iload_n 3, 1) := by decide +kernel
theorem dX8_stateOf_43 : decode cX8_stateOf 43 = .ok (.iconst 3, 1) := by decide +kernel
theorem dX8_stateOf_44 : decode cX8_stateOf 44 = .ok (.if_icmp .le 6, 3) := by decide +kernel
theorem dX8_stateOf_47 : decode cX8_stateOf 47 = .ok (.ldc 76, 2) := by decide +kernel
theorem dX8_stateOf_49 : decode cX8_stateOf 49 = .ok (.ireturn, 1) := by decide +kernel
theorem dX8_stateOf_50 : decode cX8_stateOf 50 = .ok (.aload_n 0, 1) := by decide +kernel
theorem dX8_stateOf_51 : decode cX8_stateOf 51 = .ok (.iload_n 1, 1) := by decide +kernel
theorem dX8_stateOf_52 : decode cX8_stateOf 52 = .ok (.invokevirtual 80, 3) := by decide +kernel
theorem dX8_stateOf_55 : decode cX8_stateOf 55 = .ok (.astore 5, 2) := by decide +kernel
theorem dX8_stateOf_57 : decode cX8_stateOf 57 = .ok (.iload_n 3, 1) := by decide +kernel
theorem dX8_stateOf_58 : decode cX8_stateOf 58 = .ok (.tableswitch 69 0 3 #[30, 37, 44, 62], 30) := by decide +kernel
theorem dX8_stateOf_88 : decode cX8_stateOf 88 = .ok (.aload 5, 2) := by decide +kernel
theorem dX8_stateOf_90 : decode cX8_stateOf 90 = .ok (.iload_n 2, 1) := by decide +kernel
theorem dX8_stateOf_91 : decode cX8_stateOf 91 = .ok (.invokevirtual 84, 3) := by decide +kernel
theorem dX8_stateOf_94 : decode cX8_stateOf 94 = .ok (.ireturn, 1) := by decide +kernel
theorem dX8_stateOf_95 : decode cX8_stateOf 95 = .ok (.aload 5, 2) := by decide +kernel
theorem dX8_stateOf_97 : decode cX8_stateOf 97 = .ok (.iload_n 2, 1) := by decide +kernel
theorem dX8_stateOf_98 : decode cX8_stateOf 98 = .ok (.invokevirtual 99, 3) := by decide +kernel
theorem dX8_stateOf_101 : decode cX8_stateOf 101 = .ok (.ireturn, 1) := by decide +kernel
theorem dX8_stateOf_102 : decode cX8_stateOf 102 = .ok (.aload_n 0, 1) := by decide +kernel
theorem dX8_stateOf_103 : decode cX8_stateOf 103 = .ok (.getfield 39, 3) := by decide +kernel
theorem dX8_stateOf_106 : decode cX8_stateOf 106 = .ok (.aload 5, 2) := by decide +kernel
theorem dX8_stateOf_108 : decode cX8_stateOf 108 = .ok (.invokevirtual 122, 3) := by decide +kernel
theorem dX8_stateOf_111 : decode cX8_stateOf 111 = .ok (.aload_n 0, 1) := by decide +kernel
theorem dX8_stateOf_112 : decode cX8_stateOf 112 = .ok (.getfield 39, 3) := by decide +kernel
theorem dX8_stateOf_115 : decode cX8_stateOf 115 = .ok (.iload_n 2, 1) := by decide +kernel
theorem dX8_stateOf_116 : decode cX8_stateOf 116 = .ok (.invokevirtual 125, 3) := by decide +kernel
theorem dX8_stateOf_119 : decode cX8_stateOf 119 = .ok (.ireturn, 1) := by decide +kernel
theorem dX8_stateOf_120 : decode cX8_stateOf 120 = .ok (.aload 5, 2) := by decide +kernel
theorem dX8_stateOf_122 : decode cX8_stateOf 122 = .ok (.iload_n 2, 1) := by decide +kernel
theorem dX8_stateOf_123 : decode cX8_stateOf 123 = .ok (.invokevirtual 128, 3) := by decide +kernel
theorem dX8_stateOf_126 : decode cX8_stateOf 126 = .ok (.ireturn, 1) := by decide +kernel
theorem dX8_stateOf_127 : decode cX8_stateOf 127 = .ok (.aload 5, 2) := by decide +kernel
theorem dX8_stateOf_129 : decode cX8_stateOf 129 = .ok (.iload_n 2, 1) := by decide +kernel
theorem dX8_stateOf_130 : decode cX8_stateOf 130 = .ok (.iload_n 3, 1) := by decide +kernel
theorem dX8_stateOf_131 : decode cX8_stateOf 131 = .ok (.bipush 10, 2) := by decide +kernel
theorem dX8_stateOf_133 : decode cX8_stateOf 133 = .ok (.isub, 1) := by decide +kernel
theorem dX8_stateOf_134 : decode cX8_stateOf 134 = .ok (.invokevirtual 107, 3) := by decide +kernel
theorem dX8_stateOf_137 : decode cX8_stateOf 137 = .ok (.invokestatic 131, 3) := by decide +kernel
theorem dX8_stateOf_140 : decode cX8_stateOf 140 = .ok (.ireturn, 1) := by decide +kernel
theorem dX8_unlike_0 : decode cX8_unlike 0 = .ok (.iload_n 1, 1) := by decide +kernel
theorem dX8_unlike_1 : decode cX8_unlike 1 = .ok (.invokestatic 66, 3) := by decide +kernel
theorem dX8_unlike_4 : decode cX8_unlike 4 = .ok (.ifCond .ne 6, 3) := by decide +kernel
theorem dX8_unlike_7 : decode cX8_unlike 7 = .ok (.ldc 76, 2) := by decide +kernel
theorem dX8_unlike_9 : decode cX8_unlike 9 = .ok (.ireturn, 1) := by decide +kernel
theorem dX8_unlike_10 : decode cX8_unlike 10 = .ok (.aload_n 0, 1) := by decide +kernel
theorem dX8_unlike_11 : decode cX8_unlike 11 = .ok (.iload_n 1, 1) := by decide +kernel
theorem dX8_unlike_12 : decode cX8_unlike 12 = .ok (.invokevirtual 80, 3) := by decide +kernel
theorem dX8_unlike_15 : decode cX8_unlike 15 = .ok (.iconst 0, 1) := by decide +kernel
theorem dX8_unlike_16 : decode cX8_unlike 16 = .ok (.invokevirtual 128, 3) := by decide +kernel
theorem dX8_unlike_19 : decode cX8_unlike 19 = .ok (.istore_n 2, 1) := by decide +kernel
theorem dX8_unlike_20 : decode cX8_unlike 20 = .ok (.aload_n 0, 1) := by decide +kernel
theorem dX8_unlike_21 : decode cX8_unlike 21 = .ok (.getfield 39, 3) := by decide +kernel
theorem dX8_unlike_24 : decode cX8_unlike 24 = .ok (.aload_n 0, 1) := by decide +kernel
theorem dX8_unlike_25 : decode cX8_unlike 25 = .ok (.iload_n 1, 1) := by decide +kernel
theorem dX8_unlike_26 : decode cX8_unlike 26 = .ok (.invokevirtual 80, 3) := by decide +kernel
theorem dX8_unlike_29 : decode cX8_unlike 29 = .ok (.invokevirtual 122, 3) := by decide +kernel
theorem dX8_unlike_32 : decode cX8_unlike 32 = .ok (.iconst 0, 1) := by decide +kernel
theorem dX8_unlike_33 : decode cX8_unlike 33 = .ok (.istore_n 3, 1) := by decide +kernel
theorem dX8_unlike_34 : decode cX8_unlike 34 = .ok (.iconst 0, 1) := by decide +kernel
theorem dX8_unlike_35 : decode cX8_unlike 35 = .ok (.istore 4, 2) := by decide +kernel
theorem dX8_unlike_37 : decode cX8_unlike 37 = .ok (.iload 4, 2) := by decide +kernel
theorem dX8_unlike_39 : decode cX8_unlike 39 = .ok (.bipush 8, 2) := by decide +kernel
theorem dX8_unlike_41 : decode cX8_unlike 41 = .ok (.if_icmp .ge 32, 3) := by decide +kernel
theorem dX8_unlike_44 : decode cX8_unlike 44 = .ok (.iload_n 2, 1) := by decide +kernel
theorem dX8_unlike_45 : decode cX8_unlike 45 = .ok (.iload 4, 2) := by decide +kernel
theorem dX8_unlike_47 : decode cX8_unlike 47 = .ok (.invokestatic 134, 3) := by decide +kernel
theorem dX8_unlike_50 : decode cX8_unlike 50 = .ok (.ifCond .eq 17, 3) := by decide +kernel
theorem dX8_unlike_53 : decode cX8_unlike 53 = .ok (.iload_n 3, 1) := by decide +kernel
theorem dX8_unlike_54 : decode cX8_unlike 54 = .ok (.iconst 1, 1) := by decide +kernel
theorem dX8_unlike_55 : decode cX8_unlike 55 = .ok (.aload_n 0, 1) := by decide +kernel
theorem dX8_unlike_56 : decode cX8_unlike 56 = .ok (.getfield 39, 3) := by decide +kernel
theorem dX8_unlike_59 : decode cX8_unlike 59 = .ok (.iload 4, 2) := by decide +kernel
theorem dX8_unlike_61 : decode cX8_unlike 61 = .ok (.invokevirtual 125, 3) := by decide +kernel
theorem dX8_unlike_64 : decode cX8_unlike 64 = .ok (.ishl, 1) := by decide +kernel
theorem dX8_unlike_65 : decode cX8_unlike 65 = .ok (.ior, 1) := by decide +kernel
theorem dX8_unlike_66 : decode cX8_unlike 66 = .ok (.istore_n 3, 1) := by decide +kernel
theorem dX8_unlike_67 : decode cX8_unlike 67 = .ok (.iinc 4 1, 3) := by decide +kernel
theorem dX8_unlike_70 : decode cX8_unlike 70 = .ok (.goto (-33), 3) := by decide +kernel
theorem dX8_unlike_73 : decode cX8_unlike 73 = .ok (.iload_n 3, 1) := by decide +kernel
theorem dX8_unlike_74 : decode cX8_unlike 74 = .ok (.invokestatic 102, 3) := by decide +kernel
theorem dX8_unlike_77 : decode cX8_unlike 77 = .ok (.ireturn, 1) := by decide +kernel
theorem dX8_pairOf_0 : decode cX8_pairOf 0 = .ok (.iload_n 1, 1) := by decide +kernel
theorem dX8_pairOf_1 : decode cX8_pairOf 1 = .ok (.invokestatic 66, 3) := by decide +kernel
theorem dX8_pairOf_4 : decode cX8_pairOf 4 = .ok (.ifCond .eq 23, 3) := by decide +kernel
theorem dX8_pairOf_7 : decode cX8_pairOf 7 = .ok (.iload_n 2, 1) := by decide +kernel
theorem dX8_pairOf_8 : decode cX8_pairOf 8 = .ok (.invokestatic 66, 3) := by decide +kernel
theorem dX8_pairOf_11 : decode cX8_pairOf 11 = .ok (.ifCond .eq 16, 3) := by decide +kernel
theorem dX8_pairOf_14 : decode cX8_pairOf 14 = .ok (.iload_n 3, 1) := by decide +kernel
theorem dX8_pairOf_15 : decode cX8_pairOf 15 = .ok (.iconst (-1), 1) := by decide +kernel
theorem dX8_pairOf_16 : decode cX8_pairOf 16 = .ok (.if_icmp .lt 11, 3) := by decide +kernel
theorem dX8_pairOf_19 : decode cX8_pairOf 19 = .ok (.iload 4, 2) := by decide +kernel
theorem dX8_pairOf_21 : decode cX8_pairOf 21 = .ok (.invokestatic 138, 3) := by decide +kernel
theorem dX8_pairOf_24 : decode cX8_pairOf 24 = .ok (.ifCond .ne 6, 3) := by decide +kernel
theorem dX8_pairOf_27 : decode cX8_pairOf 27 = .ok (.ldc 76, 2) := by decide +kernel
theorem dX8_pairOf_29 : decode cX8_pairOf 29 = .ok (.ireturn, 1) := by decide +kernel
theorem dX8_pairOf_30 : decode cX8_pairOf 30 = .ok (.aload_n 0, 1) := by decide +kernel
theorem dX8_pairOf_31 : decode cX8_pairOf 31 = .ok (.getfield 48, 3) := by decide +kernel
theorem dX8_pairOf_34 : decode cX8_pairOf 34 = .ok (.aload_n 0, 1) := by decide +kernel
theorem dX8_pairOf_35 : decode cX8_pairOf 35 = .ok (.iload_n 1, 1) := by decide +kernel
theorem dX8_pairOf_36 : decode cX8_pairOf 36 = .ok (.invokevirtual 80, 3) := by decide +kernel
theorem dX8_pairOf_39 : decode cX8_pairOf 39 = .ok (.aload_n 0, 1) := by decide +kernel
theorem dX8_pairOf_40 : decode cX8_pairOf 40 = .ok (.iload_n 2, 1) := by decide +kernel
theorem dX8_pairOf_41 : decode cX8_pairOf 41 = .ok (.invokevirtual 80, 3) := by decide +kernel
theorem dX8_pairOf_44 : decode cX8_pairOf 44 = .ok (.invokevirtual 141, 3) := by decide +kernel
theorem dX8_pairOf_47 : decode cX8_pairOf 47 = .ok (.iload_n 3, 1) := by decide +kernel
theorem dX8_pairOf_48 : decode cX8_pairOf 48 = .ok (.iconst (-1), 1) := by decide +kernel
theorem dX8_pairOf_49 : decode cX8_pairOf 49 = .ok (.if_icmp .ne 13, 3) := by decide +kernel
theorem dX8_pairOf_52 : decode cX8_pairOf 52 = .ok (.aload_n 0, 1) := by decide +kernel
theorem dX8_pairOf_53 : decode cX8_pairOf 53 = .ok (.getfield 48, 3) := by decide +kernel
theorem dX8_pairOf_56 : decode cX8_pairOf 56 = .ok (.invokevirtual 145, 3) := by decide +kernel
theorem dX8_pairOf_59 : decode cX8_pairOf 59 = .ok (.goto 4, 3) := by decide +kernel
theorem dX8_pairOf_62 : decode cX8_pairOf 62 = .ok (.iload_n 3, 1) := by decide +kernel
theorem dX8_pairOf_63 : decode cX8_pairOf 63 = .ok (.istore 5, 2) := by decide +kernel
theorem dX8_pairOf_65 : decode cX8_pairOf 65 = .ok (.aload_n 0, 1) := by decide +kernel
theorem dX8_pairOf_66 : decode cX8_pairOf 66 = .ok (.getfield 48, 3) := by decide +kernel
theorem dX8_pairOf_69 : decode cX8_pairOf 69 = .ok (.iload 5, 2) := by decide +kernel
theorem dX8_pairOf_71 : decode cX8_pairOf 71 = .ok (.invokevirtual 148, 3) := by decide +kernel
theorem dX8_pairOf_74 : decode cX8_pairOf 74 = .ok (.ifCond .ne 6, 3) := by decide +kernel
theorem dX8_pairOf_77 : decode cX8_pairOf 77 = .ok (.ldc 151, 2) := by decide +kernel
theorem dX8_pairOf_79 : decode cX8_pairOf 79 = .ok (.ireturn, 1) := by decide +kernel
theorem dX8_pairOf_80 : decode cX8_pairOf 80 = .ok (.iload 4, 2) := by decide +kernel
theorem dX8_pairOf_82 : decode cX8_pairOf 82 = .ok (.tableswitch 56 0 2 #[26, 36, 46], 26) := by decide +kernel
theorem dX8_pairOf_108 : decode cX8_pairOf 108 = .ok (.aload_n 0, 1) := by decide +kernel
theorem dX8_pairOf_109 : decode cX8_pairOf 109 = .ok (.getfield 48, 3) := by decide +kernel
theorem dX8_pairOf_112 : decode cX8_pairOf 112 = .ok (.iload 5, 2) := by decide +kernel
theorem dX8_pairOf_114 : decode cX8_pairOf 114 = .ok (.invokevirtual 152, 3) := by decide +kernel
theorem dX8_pairOf_117 : decode cX8_pairOf 117 = .ok (.ireturn, 1) := by decide +kernel
theorem dX8_pairOf_118 : decode cX8_pairOf 118 = .ok (.aload_n 0, 1) := by decide +kernel
theorem dX8_pairOf_119 : decode cX8_pairOf 119 = .ok (.getfield 48, 3) := by decide +kernel
theorem dX8_pairOf_122 : decode cX8_pairOf 122 = .ok (.iload 5, 2) := by decide +kernel
theorem dX8_pairOf_124 : decode cX8_pairOf 124 = .ok (.invokevirtual 155, 3) := by decide +kernel
theorem dX8_pairOf_127 : decode cX8_pairOf 127 = .ok (.ireturn, 1) := by decide +kernel
theorem dX8_pairOf_128 : decode cX8_pairOf 128 = .ok (.aload_n 0, 1) := by decide +kernel
theorem dX8_pairOf_129 : decode cX8_pairOf 129 = .ok (.getfield 48, 3) := by decide +kernel
theorem dX8_pairOf_132 : decode cX8_pairOf 132 = .ok (.iload 5, 2) := by decide +kernel
theorem dX8_pairOf_134 : decode cX8_pairOf 134 = .ok (.invokevirtual 158, 3) := by decide +kernel
theorem dX8_pairOf_137 : decode cX8_pairOf 137 = .ok (.ireturn, 1) := by decide +kernel
theorem dX8_pairOf_138 : decode cX8_pairOf 138 = .ok (.aload_n 0, 1) := by decide +kernel
theorem dX8_pairOf_139 : decode cX8_pairOf 139 = .ok (.getfield 48, 3) := by decide +kernel
theorem dX8_pairOf_142 : decode cX8_pairOf 142 = .ok (.iload 5, 2) := by decide +kernel
theorem dX8_pairOf_144 : decode cX8_pairOf 144 = .ok (.iload 4, 2) := by decide +kernel
theorem dX8_pairOf_146 : decode cX8_pairOf 146 = .ok (.invokevirtual 161, 3) := by decide +kernel
theorem dX8_pairOf_149 : decode cX8_pairOf 149 = .ok (.ireturn, 1) := by decide +kernel
theorem dX8_talk_0 : decode cX8_talk 0 = .ok (.iload_n 1, 1) := by decide +kernel
theorem dX8_talk_1 : decode cX8_talk 1 = .ok (.invokestatic 66, 3) := by decide +kernel
theorem dX8_talk_4 : decode cX8_talk 4 = .ok (.ifCond .eq 20, 3) := by decide +kernel
theorem dX8_talk_7 : decode cX8_talk 7 = .ok (.iload_n 2, 1) := by decide +kernel
theorem dX8_talk_8 : decode cX8_talk 8 = .ok (.invokestatic 66, 3) := by decide +kernel
theorem dX8_talk_11 : decode cX8_talk 11 = .ok (.ifCond .eq 13, 3) := by decide +kernel
theorem dX8_talk_14 : decode cX8_talk 14 = .ok (.iload_n 3, 1) := by decide +kernel
theorem dX8_talk_15 : decode cX8_talk 15 = .ok (.ifCond .lt 9, 3) := by decide +kernel
theorem dX8_talk_18 : decode cX8_talk 18 = .ok (.iload_n 3, 1) := by decide +kernel
theorem dX8_talk_19 : decode cX8_talk 19 = .ok (.bipush 6, 2) := by decide +kernel
theorem dX8_talk_21 : decode cX8_talk 21 = .ok (.if_icmp .le 6, 3) := by decide +kernel
theorem dX8_talk_24 : decode cX8_talk 24 = .ok (.ldc 76, 2) := by decide +kernel
theorem dX8_talk_26 : decode cX8_talk 26 = .ok (.ireturn, 1) := by decide +kernel
theorem dX8_talk_27 : decode cX8_talk 27 = .ok (.aload_n 0, 1) := by decide +kernel
theorem dX8_talk_28 : decode cX8_talk 28 = .ok (.getfield 48, 3) := by decide +kernel
theorem dX8_talk_31 : decode cX8_talk 31 = .ok (.aload_n 0, 1) := by decide +kernel
theorem dX8_talk_32 : decode cX8_talk 32 = .ok (.iload_n 1, 1) := by decide +kernel
theorem dX8_talk_33 : decode cX8_talk 33 = .ok (.invokevirtual 80, 3) := by decide +kernel
theorem dX8_talk_36 : decode cX8_talk 36 = .ok (.aload_n 0, 1) := by decide +kernel
theorem dX8_talk_37 : decode cX8_talk 37 = .ok (.iload_n 2, 1) := by decide +kernel
theorem dX8_talk_38 : decode cX8_talk 38 = .ok (.invokevirtual 80, 3) := by decide +kernel
theorem dX8_talk_41 : decode cX8_talk 41 = .ok (.invokevirtual 141, 3) := by decide +kernel
theorem dX8_talk_44 : decode cX8_talk 44 = .ok (.iload_n 3, 1) := by decide +kernel
theorem dX8_talk_45 : decode cX8_talk 45 = .ok (.tableswitch 106 0 5 #[39, 47, 55, 63, 87, 98], 39) := by decide +kernel
theorem dX8_talk_84 : decode cX8_talk 84 = .ok (.aload_n 0, 1) := by decide +kernel
theorem dX8_talk_85 : decode cX8_talk 85 = .ok (.getfield 48, 3) := by decide +kernel
theorem dX8_talk_88 : decode cX8_talk 88 = .ok (.invokevirtual 164, 3) := by decide +kernel
theorem dX8_talk_91 : decode cX8_talk 91 = .ok (.ireturn, 1) := by decide +kernel
theorem dX8_talk_92 : decode cX8_talk 92 = .ok (.aload_n 0, 1) := by decide +kernel
theorem dX8_talk_93 : decode cX8_talk 93 = .ok (.getfield 48, 3) := by decide +kernel
theorem dX8_talk_96 : decode cX8_talk 96 = .ok (.invokevirtual 167, 3) := by decide +kernel
theorem dX8_talk_99 : decode cX8_talk 99 = .ok (.ireturn, 1) := by decide +kernel
theorem dX8_talk_100 : decode cX8_talk 100 = .ok (.aload_n 0, 1) := by decide +kernel
theorem dX8_talk_101 : decode cX8_talk 101 = .ok (.getfield 48, 3) := by decide +kernel
theorem dX8_talk_104 : decode cX8_talk 104 = .ok (.invokevirtual 170, 3) := by decide +kernel
theorem dX8_talk_107 : decode cX8_talk 107 = .ok (.ireturn, 1) := by decide +kernel
theorem dX8_talk_108 : decode cX8_talk 108 = .ok (.aload_n 0, 1) := by decide +kernel
theorem dX8_talk_109 : decode cX8_talk 109 = .ok (.getfield 55, 3) := by decide +kernel
theorem dX8_talk_112 : decode cX8_talk 112 = .ok (.aload_n 0, 1) := by decide +kernel
theorem dX8_talk_113 : decode cX8_talk 113 = .ok (.getfield 48, 3) := by decide +kernel
theorem dX8_talk_116 : decode cX8_talk 116 = .ok (.invokevirtual 173, 3) := by decide +kernel
theorem dX8_talk_119 : decode cX8_talk 119 = .ok (.ldc2_w 177, 3) := by decide +kernel
theorem dX8_talk_122 : decode cX8_talk 122 = .ok (.lcmp, 1) := by decide +kernel
theorem dX8_talk_123 : decode cX8_talk 123 = .ok (.ifCond .ne 7, 3) := by decide +kernel
theorem dX8_talk_126 : decode cX8_talk 126 = .ok (.iconst 1, 1) := by decide +kernel
theorem dX8_talk_127 : decode cX8_talk 127 = .ok (.goto 4, 3) := by decide +kernel
theorem dX8_talk_130 : decode cX8_talk 130 = .ok (.iconst 0, 1) := by decide +kernel
theorem dX8_talk_131 : decode cX8_talk 131 = .ok (.ireturn, 1) := by decide +kernel
theorem dX8_talk_132 : decode cX8_talk 132 = .ok (.aload_n 0, 1) := by decide +kernel
theorem dX8_talk_133 : decode cX8_talk 133 = .ok (.getfield 48, 3) := by decide +kernel
theorem dX8_talk_136 : decode cX8_talk 136 = .ok (.invokevirtual 179, 3) := by decide +kernel
theorem dX8_talk_139 : decode cX8_talk 139 = .ok (.invokestatic 131, 3) := by decide +kernel
theorem dX8_talk_142 : decode cX8_talk 142 = .ok (.ireturn, 1) := by decide +kernel
theorem dX8_talk_143 : decode cX8_talk 143 = .ok (.aload_n 0, 1) := by decide +kernel
theorem dX8_talk_144 : decode cX8_talk 144 = .ok (.getfield 48, 3) := by decide +kernel
theorem dX8_talk_147 : decode cX8_talk 147 = .ok (.invokevirtual 182, 3) := by decide +kernel
theorem dX8_talk_150 : decode cX8_talk 150 = .ok (.ireturn, 1) := by decide +kernel
theorem dX8_talk_151 : decode cX8_talk 151 = .ok (.aload_n 0, 1) := by decide +kernel
theorem dX8_talk_152 : decode cX8_talk 152 = .ok (.getfield 48, 3) := by decide +kernel
theorem dX8_talk_155 : decode cX8_talk 155 = .ok (.invokevirtual 185, 3) := by decide +kernel
theorem dX8_talk_158 : decode cX8_talk 158 = .ok (.ireturn, 1) := by decide +kernel
theorem dX8_talks_0 : decode cX8_talks 0 = .ok (.iload_n 1, 1) := by decide +kernel
theorem dX8_talks_1 : decode cX8_talks 1 = .ok (.invokestatic 66, 3) := by decide +kernel
theorem dX8_talks_4 : decode cX8_talks 4 = .ok (.ifCond .eq 10, 3) := by decide +kernel
theorem dX8_talks_7 : decode cX8_talks 7 = .ok (.iload_n 2, 1) := by decide +kernel
theorem dX8_talks_8 : decode cX8_talks 8 = .ok (.invokestatic 66, 3) := by decide +kernel
theorem dX8_talks_11 : decode cX8_talks 11 = .ok (.ifCond .ne 7, 3) := by decide +kernel
theorem dX8_talks_14 : decode cX8_talks 14 = .ok (.ldc2_w 188, 3) := by decide +kernel
theorem dX8_talks_17 : decode cX8_talks 17 = .ok (.lreturn, 1) := by decide +kernel
theorem dX8_talks_18 : decode cX8_talks 18 = .ok (.aload_n 0, 1) := by decide +kernel
theorem dX8_talks_19 : decode cX8_talks 19 = .ok (.getfield 48, 3) := by decide +kernel
theorem dX8_talks_22 : decode cX8_talks 22 = .ok (.aload_n 0, 1) := by decide +kernel
theorem dX8_talks_23 : decode cX8_talks 23 = .ok (.iload_n 1, 1) := by decide +kernel
theorem dX8_talks_24 : decode cX8_talks 24 = .ok (.invokevirtual 80, 3) := by decide +kernel
theorem dX8_talks_27 : decode cX8_talks 27 = .ok (.aload_n 0, 1) := by decide +kernel
theorem dX8_talks_28 : decode cX8_talks 28 = .ok (.iload_n 2, 1) := by decide +kernel
theorem dX8_talks_29 : decode cX8_talks 29 = .ok (.invokevirtual 80, 3) := by decide +kernel
theorem dX8_talks_32 : decode cX8_talks 32 = .ok (.invokevirtual 141, 3) := by decide +kernel
theorem dX8_talks_35 : decode cX8_talks 35 = .ok (.aload_n 0, 1) := by decide +kernel
theorem dX8_talks_36 : decode cX8_talks 36 = .ok (.getfield 55, 3) := by decide +kernel
theorem dX8_talks_39 : decode cX8_talks 39 = .ok (.aload_n 0, 1) := by decide +kernel
theorem dX8_talks_40 : decode cX8_talks 40 = .ok (.getfield 48, 3) := by decide +kernel
theorem dX8_talks_43 : decode cX8_talks 43 = .ok (.invokevirtual 173, 3) := by decide +kernel
theorem dX8_talks_46 : decode cX8_talks 46 = .ok (.lstore_n 3, 1) := by decide +kernel
theorem dX8_talks_47 : decode cX8_talks 47 = .ok (.lload_n 3, 1) := by decide +kernel
theorem dX8_talks_48 : decode cX8_talks 48 = .ok (.ldc2_w 177, 3) := by decide +kernel
theorem dX8_talks_51 : decode cX8_talks 51 = .ok (.lcmp, 1) := by decide +kernel
theorem dX8_talks_52 : decode cX8_talks 52 = .ok (.ifCond .ne 7, 3) := by decide +kernel
theorem dX8_talks_55 : decode cX8_talks 55 = .ok (.ldc2_w 190, 3) := by decide +kernel
theorem dX8_talks_58 : decode cX8_talks 58 = .ok (.lreturn, 1) := by decide +kernel
theorem dX8_talks_59 : decode cX8_talks 59 = .ok (.lload_n 3, 1) := by decide +kernel
theorem dX8_talks_60 : decode cX8_talks 60 = .ok (.ldc2_w 192, 3) := by decide +kernel
theorem dX8_talks_63 : decode cX8_talks 63 = .ok (.lcmp, 1) := by decide +kernel
theorem dX8_talks_64 : decode cX8_talks 64 = .ok (.ifCond .le 9, 3) := by decide +kernel
theorem dX8_talks_67 : decode cX8_talks 67 = .ok (.ldc2_w 194, 3) := by decide +kernel
theorem dX8_talks_70 : decode cX8_talks 70 = .ok (.goto 4, 3) := by decide +kernel
theorem dX8_talks_73 : decode cX8_talks 73 = .ok (.lload_n 3, 1) := by decide +kernel
theorem dX8_talks_74 : decode cX8_talks 74 = .ok (.lreturn, 1) := by decide +kernel
theorem dX8_standsIn_0 : decode cX8_standsIn 0 = .ok (.iload_n 1, 1) := by decide +kernel
theorem dX8_standsIn_1 : decode cX8_standsIn 1 = .ok (.invokestatic 66, 3) := by decide +kernel
theorem dX8_standsIn_4 : decode cX8_standsIn 4 = .ok (.ifCond .eq 10, 3) := by decide +kernel
theorem dX8_standsIn_7 : decode cX8_standsIn 7 = .ok (.iload_n 2, 1) := by decide +kernel
theorem dX8_standsIn_8 : decode cX8_standsIn 8 = .ok (.invokestatic 66, 3) := by decide +kernel
theorem dX8_standsIn_11 : decode cX8_standsIn 11 = .ok (.ifCond .ne 6, 3) := by decide +kernel
theorem dX8_standsIn_14 : decode cX8_standsIn 14 = .ok (.ldc 76, 2) := by decide +kernel
theorem dX8_standsIn_16 : decode cX8_standsIn 16 = .ok (.ireturn, 1) := by decide +kernel
theorem dX8_standsIn_17 : decode cX8_standsIn 17 = .ok (.aload_n 0, 1) := by decide +kernel
theorem dX8_standsIn_18 : decode cX8_standsIn 18 = .ok (.getfield 62, 3) := by decide +kernel
theorem dX8_standsIn_21 : decode cX8_standsIn 21 = .ok (.aload_n 0, 1) := by decide +kernel
theorem dX8_standsIn_22 : decode cX8_standsIn 22 = .ok (.iload_n 1, 1) := by decide +kernel
theorem dX8_standsIn_23 : decode cX8_standsIn 23 = .ok (.invokevirtual 80, 3) := by decide +kernel
theorem dX8_standsIn_26 : decode cX8_standsIn 26 = .ok (.aload_n 0, 1) := by decide +kernel
theorem dX8_standsIn_27 : decode cX8_standsIn 27 = .ok (.iload_n 2, 1) := by decide +kernel
theorem dX8_standsIn_28 : decode cX8_standsIn 28 = .ok (.invokevirtual 80, 3) := by decide +kernel
theorem dX8_standsIn_31 : decode cX8_standsIn 31 = .ok (.invokevirtual 196, 3) := by decide +kernel
theorem dX8_standsIn_34 : decode cX8_standsIn 34 = .ok (.aload_n 0, 1) := by decide +kernel
theorem dX8_standsIn_35 : decode cX8_standsIn 35 = .ok (.getfield 62, 3) := by decide +kernel
theorem dX8_standsIn_38 : decode cX8_standsIn 38 = .ok (.invokevirtual 197, 3) := by decide +kernel
theorem dX8_standsIn_41 : decode cX8_standsIn 41 = .ok (.iconst (-1), 1) := by decide +kernel
theorem dX8_standsIn_42 : decode cX8_standsIn 42 = .ok (.if_icmp .ne 7, 3) := by decide +kernel
theorem dX8_standsIn_45 : decode cX8_standsIn 45 = .ok (.iconst 1, 1) := by decide +kernel
theorem dX8_standsIn_46 : decode cX8_standsIn 46 = .ok (.goto 4, 3) := by decide +kernel
theorem dX8_standsIn_49 : decode cX8_standsIn 49 = .ok (.iconst 0, 1) := by decide +kernel
theorem dX8_standsIn_50 : decode cX8_standsIn 50 = .ok (.ireturn, 1) := by decide +kernel
theorem dX8_against_0 : decode cX8_against 0 = .ok (.iload_n 1, 1) := by decide +kernel
theorem dX8_against_1 : decode cX8_against 1 = .ok (.invokestatic 66, 3) := by decide +kernel
theorem dX8_against_4 : decode cX8_against 4 = .ok (.ifCond .eq 17, 3) := by decide +kernel
theorem dX8_against_7 : decode cX8_against 7 = .ok (.iload_n 2, 1) := by decide +kernel
theorem dX8_against_8 : decode cX8_against 8 = .ok (.invokestatic 66, 3) := by decide +kernel
theorem dX8_against_11 : decode cX8_against 11 = .ok (.ifCond .eq 10, 3) := by decide +kernel
theorem dX8_against_14 : decode cX8_against 14 = .ok (.iload_n 3, 1) := by decide +kernel
theorem dX8_against_15 : decode cX8_against 15 = .ok (.invokestatic 138, 3) := by decide +kernel
theorem dX8_against_18 : decode cX8_against 18 = .ok (.ifCond .ne 6, 3) := by decide +kernel
theorem dX8_against_21 : decode cX8_against 21 = .ok (.ldc 76, 2) := by decide +kernel
theorem dX8_against_23 : decode cX8_against 23 = .ok (.ireturn, 1) := by decide +kernel
theorem dX8_against_24 : decode cX8_against 24 = .ok (.aload_n 0, 1) := by decide +kernel
theorem dX8_against_25 : decode cX8_against 25 = .ok (.getfield 62, 3) := by decide +kernel
theorem dX8_against_28 : decode cX8_against 28 = .ok (.aload_n 0, 1) := by decide +kernel
theorem dX8_against_29 : decode cX8_against 29 = .ok (.iload_n 1, 1) := by decide +kernel
theorem dX8_against_30 : decode cX8_against 30 = .ok (.invokevirtual 80, 3) := by decide +kernel
theorem dX8_against_33 : decode cX8_against 33 = .ok (.aload_n 0, 1) := by decide +kernel
theorem dX8_against_34 : decode cX8_against 34 = .ok (.iload_n 2, 1) := by decide +kernel
theorem dX8_against_35 : decode cX8_against 35 = .ok (.invokevirtual 80, 3) := by decide +kernel
theorem dX8_against_38 : decode cX8_against 38 = .ok (.invokevirtual 196, 3) := by decide +kernel
theorem dX8_against_41 : decode cX8_against 41 = .ok (.aload_n 0, 1) := by decide +kernel
theorem dX8_against_42 : decode cX8_against 42 = .ok (.getfield 62, 3) := by decide +kernel
theorem dX8_against_45 : decode cX8_against 45 = .ok (.invokevirtual 197, 3) := by decide +kernel
theorem dX8_against_48 : decode cX8_against 48 = .ok (.istore 4, 2) := by decide +kernel
theorem dX8_against_50 : decode cX8_against 50 = .ok (.aload_n 0, 1) := by decide +kernel
theorem dX8_against_51 : decode cX8_against 51 = .ok (.getfield 62, 3) := by decide +kernel
theorem dX8_against_54 : decode cX8_against 54 = .ok (.iload 4, 2) := by decide +kernel
theorem dX8_against_56 : decode cX8_against 56 = .ok (.invokevirtual 198, 3) := by decide +kernel
theorem dX8_against_59 : decode cX8_against 59 = .ok (.ifCond .ne 6, 3) := by decide +kernel
theorem dX8_against_62 : decode cX8_against 62 = .ok (.ldc 151, 2) := by decide +kernel
theorem dX8_against_64 : decode cX8_against 64 = .ok (.ireturn, 1) := by decide +kernel
theorem dX8_against_65 : decode cX8_against 65 = .ok (.iload_n 3, 1) := by decide +kernel
theorem dX8_against_66 : decode cX8_against 66 = .ok (.tableswitch 56 0 2 #[26, 36, 46], 26) := by decide +kernel
theorem dX8_against_92 : decode cX8_against 92 = .ok (.aload_n 0, 1) := by decide +kernel
theorem dX8_against_93 : decode cX8_against 93 = .ok (.getfield 62, 3) := by decide +kernel
theorem dX8_against_96 : decode cX8_against 96 = .ok (.iload 4, 2) := by decide +kernel
theorem dX8_against_98 : decode cX8_against 98 = .ok (.invokevirtual 199, 3) := by decide +kernel
theorem dX8_against_101 : decode cX8_against 101 = .ok (.ireturn, 1) := by decide +kernel
theorem dX8_against_102 : decode cX8_against 102 = .ok (.aload_n 0, 1) := by decide +kernel
theorem dX8_against_103 : decode cX8_against 103 = .ok (.getfield 62, 3) := by decide +kernel
theorem dX8_against_106 : decode cX8_against 106 = .ok (.iload 4, 2) := by decide +kernel
theorem dX8_against_108 : decode cX8_against 108 = .ok (.invokevirtual 200, 3) := by decide +kernel
theorem dX8_against_111 : decode cX8_against 111 = .ok (.ireturn, 1) := by decide +kernel
theorem dX8_against_112 : decode cX8_against 112 = .ok (.aload_n 0, 1) := by decide +kernel
theorem dX8_against_113 : decode cX8_against 113 = .ok (.getfield 62, 3) := by decide +kernel
theorem dX8_against_116 : decode cX8_against 116 = .ok (.iload 4, 2) := by decide +kernel
theorem dX8_against_118 : decode cX8_against 118 = .ok (.invokevirtual 201, 3) := by decide +kernel
theorem dX8_against_121 : decode cX8_against 121 = .ok (.ireturn, 1) := by decide +kernel
theorem dX8_against_122 : decode cX8_against 122 = .ok (.aload_n 0, 1) := by decide +kernel
theorem dX8_against_123 : decode cX8_against 123 = .ok (.getfield 62, 3) := by decide +kernel
theorem dX8_against_126 : decode cX8_against 126 = .ok (.iload 4, 2) := by decide +kernel
theorem dX8_against_128 : decode cX8_against 128 = .ok (.iload_n 3, 1) := by decide +kernel
theorem dX8_against_129 : decode cX8_against 129 = .ok (.invokevirtual 202, 3) := by decide +kernel
theorem dX8_against_132 : decode cX8_against 132 = .ok (.ireturn, 1) := by decide +kernel
theorem dX8_count_0 : decode cX8_count 0 = .ok (.iload_n 1, 1) := by decide +kernel
theorem dX8_count_1 : decode cX8_count 1 = .ok (.bipush 10, 2) := by decide +kernel
theorem dX8_count_3 : decode cX8_count 3 = .ok (.isub, 1) := by decide +kernel
theorem dX8_count_4 : decode cX8_count 4 = .ok (.istore_n 2, 1) := by decide +kernel
theorem dX8_count_5 : decode cX8_count 5 = .ok (.iload_n 1, 1) := by decide +kernel
theorem dX8_count_6 : decode cX8_count 6 = .ok (.bipush 10, 2) := by decide +kernel
theorem dX8_count_8 : decode cX8_count 8 = .ok (.if_icmp .lt 20, 3) := by decide +kernel
theorem dX8_count_11 : decode cX8_count 11 = .ok (.iload_n 1, 1) := by decide +kernel
theorem dX8_count_12 : decode cX8_count 12 = .ok (.bipush 19, 2) := by decide +kernel
theorem dX8_count_14 : decode cX8_count 14 = .ok (.if_icmp .ge 14, 3) := by decide +kernel
theorem dX8_count_17 : decode cX8_count 17 = .ok (.aload_n 0, 1) := by decide +kernel
theorem dX8_count_18 : decode cX8_count 18 = .ok (.iload_n 2, 1) := by decide +kernel
theorem dX8_count_19 : decode cX8_count 19 = .ok (.iconst 3, 1) := by decide +kernel
theorem dX8_count_20 : decode cX8_count 20 = .ok (.idiv, 1) := by decide +kernel
theorem dX8_count_21 : decode cX8_count 21 = .ok (.iload_n 2, 1) := by decide +kernel
theorem dX8_count_22 : decode cX8_count 22 = .ok (.iconst 3, 1) := by decide +kernel
theorem dX8_count_23 : decode cX8_count 23 = .ok (.irem, 1) := by decide +kernel
theorem dX8_count_24 : decode cX8_count 24 = .ok (.invokevirtual 203, 3) := by decide +kernel
theorem dX8_count_27 : decode cX8_count 27 = .ok (.ireturn, 1) := by decide +kernel
theorem dX8_count_28 : decode cX8_count 28 = .ok (.iload_n 1, 1) := by decide +kernel
theorem dX8_count_29 : decode cX8_count 29 = .ok (.tableswitch 95 0 3 #[31, 55, 79, 87], 31) := by decide +kernel
theorem dX8_count_60 : decode cX8_count 60 = .ok (.aload_n 0, 1) := by decide +kernel
theorem dX8_count_61 : decode cX8_count 61 = .ok (.getfield 10, 3) := by decide +kernel
theorem dX8_count_64 : decode cX8_count 64 = .ok (.invokevirtual 115, 3) := by decide +kernel
theorem dX8_count_67 : decode cX8_count 67 = .ok (.aload_n 0, 1) := by decide +kernel
theorem dX8_count_68 : decode cX8_count 68 = .ok (.getfield 16, 3) := by decide +kernel
theorem dX8_count_71 : decode cX8_count 71 = .ok (.invokevirtual 115, 3) := by decide +kernel
theorem dX8_count_74 : decode cX8_count 74 = .ok (.iadd, 1) := by decide +kernel
theorem dX8_count_75 : decode cX8_count 75 = .ok (.aload_n 0, 1) := by decide +kernel
theorem dX8_count_76 : decode cX8_count 76 = .ok (.getfield 19, 3) := by decide +kernel
theorem dX8_count_79 : decode cX8_count 79 = .ok (.invokevirtual 115, 3) := by decide +kernel
theorem dX8_count_82 : decode cX8_count 82 = .ok (.iadd, 1) := by decide +kernel
theorem dX8_count_83 : decode cX8_count 83 = .ok (.ireturn, 1) := by decide +kernel
theorem dX8_count_84 : decode cX8_count 84 = .ok (.aload_n 0, 1) := by decide +kernel
theorem dX8_count_85 : decode cX8_count 85 = .ok (.getfield 10, 3) := by decide +kernel
theorem dX8_count_88 : decode cX8_count 88 = .ok (.invokevirtual 206, 3) := by decide +kernel
theorem dX8_count_91 : decode cX8_count 91 = .ok (.aload_n 0, 1) := by decide +kernel
theorem dX8_count_92 : decode cX8_count 92 = .ok (.getfield 16, 3) := by decide +kernel
theorem dX8_count_95 : decode cX8_count 95 = .ok (.invokevirtual 206, 3) := by decide +kernel
theorem dX8_count_98 : decode cX8_count 98 = .ok (.iadd, 1) := by decide +kernel
theorem dX8_count_99 : decode cX8_count 99 = .ok (.aload_n 0, 1) := by decide +kernel
theorem dX8_count_100 : decode cX8_count 100 = .ok (.getfield 19, 3) := by decide +kernel
theorem dX8_count_103 : decode cX8_count 103 = .ok (.invokevirtual 206, 3) := by decide +kernel
theorem dX8_count_106 : decode cX8_count 106 = .ok (.iadd, 1) := by decide +kernel
theorem dX8_count_107 : decode cX8_count 107 = .ok (.ireturn, 1) := by decide +kernel
theorem dX8_count_108 : decode cX8_count 108 = .ok (.aload_n 0, 1) := by decide +kernel
theorem dX8_count_109 : decode cX8_count 109 = .ok (.getfield 25, 3) := by decide +kernel
theorem dX8_count_112 : decode cX8_count 112 = .ok (.invokevirtual 209, 3) := by decide +kernel
theorem dX8_count_115 : decode cX8_count 115 = .ok (.ireturn, 1) := by decide +kernel
theorem dX8_count_116 : decode cX8_count 116 = .ok (.aload_n 0, 1) := by decide +kernel
theorem dX8_count_117 : decode cX8_count 117 = .ok (.getfield 32, 3) := by decide +kernel
theorem dX8_count_120 : decode cX8_count 120 = .ok (.invokevirtual 210, 3) := by decide +kernel
theorem dX8_count_123 : decode cX8_count 123 = .ok (.ireturn, 1) := by decide +kernel
theorem dX8_count_124 : decode cX8_count 124 = .ok (.ldc 76, 2) := by decide +kernel
theorem dX8_count_126 : decode cX8_count 126 = .ok (.ireturn, 1) := by decide +kernel
theorem dX8_undo_0 : decode cX8_undo 0 = .ok (.aload_n 0, 1) := by decide +kernel
theorem dX8_undo_1 : decode cX8_undo 1 = .ok (.getfield 25, 3) := by decide +kernel
theorem dX8_undo_4 : decode cX8_undo 4 = .ok (.invokevirtual 209, 3) := by decide +kernel
theorem dX8_undo_7 : decode cX8_undo 7 = .ok (.ifCond .ne 6, 3) := by decide +kernel
theorem dX8_undo_10 : decode cX8_undo 10 = .ok (.ldc 111, 2) := by decide +kernel
theorem dX8_undo_12 : decode cX8_undo 12 = .ok (.ireturn, 1) := by decide +kernel
theorem dX8_undo_13 : decode cX8_undo 13 = .ok (.aload_n 0, 1) := by decide +kernel
theorem dX8_undo_14 : decode cX8_undo 14 = .ok (.getfield 25, 3) := by decide +kernel
theorem dX8_undo_17 : decode cX8_undo 17 = .ok (.aload_n 0, 1) := by decide +kernel
theorem dX8_undo_18 : decode cX8_undo 18 = .ok (.getfield 10, 3) := by decide +kernel
theorem dX8_undo_21 : decode cX8_undo 21 = .ok (.aload_n 0, 1) := by decide +kernel
theorem dX8_undo_22 : decode cX8_undo 22 = .ok (.getfield 16, 3) := by decide +kernel
theorem dX8_undo_25 : decode cX8_undo 25 = .ok (.aload_n 0, 1) := by decide +kernel
theorem dX8_undo_26 : decode cX8_undo 26 = .ok (.getfield 19, 3) := by decide +kernel
theorem dX8_undo_29 : decode cX8_undo 29 = .ok (.invokevirtual 213, 3) := by decide +kernel
theorem dX8_undo_32 : decode cX8_undo 32 = .ok (.aload_n 0, 1) := by decide +kernel
theorem dX8_undo_33 : decode cX8_undo 33 = .ok (.getfield 25, 3) := by decide +kernel
theorem dX8_undo_36 : decode cX8_undo 36 = .ok (.invokevirtual 209, 3) := by decide +kernel
theorem dX8_undo_39 : decode cX8_undo 39 = .ok (.ireturn, 1) := by decide +kernel
theorem dX8_type_0 : decode cX8_type 0 = .ok (.iload_n 1, 1) := by decide +kernel
theorem dX8_type_1 : decode cX8_type 1 = .ok (.bipush 32, 2) := by decide +kernel
theorem dX8_type_3 : decode cX8_type 3 = .ok (.if_icmp .lt 9, 3) := by decide +kernel
theorem dX8_type_6 : decode cX8_type 6 = .ok (.iload_n 1, 1) := by decide +kernel
theorem dX8_type_7 : decode cX8_type 7 = .ok (.bipush 126, 2) := by decide +kernel
theorem dX8_type_9 : decode cX8_type 9 = .ok (.if_icmp .le 6, 3) := by decide +kernel
theorem dX8_type_12 : decode cX8_type 12 = .ok (.ldc 76, 2) := by decide +kernel
theorem dX8_type_14 : decode cX8_type 14 = .ok (.ireturn, 1) := by decide +kernel
theorem dX8_type_15 : decode cX8_type 15 = .ok (.aload_n 0, 1) := by decide +kernel
theorem dX8_type_16 : decode cX8_type 16 = .ok (.getfield 32, 3) := by decide +kernel
theorem dX8_type_19 : decode cX8_type 19 = .ok (.invokevirtual 217, 3) := by decide +kernel
theorem dX8_type_22 : decode cX8_type 22 = .ok (.ifCond .eq 6, 3) := by decide +kernel
theorem dX8_type_25 : decode cX8_type 25 = .ok (.ldc 221, 2) := by decide +kernel
theorem dX8_type_27 : decode cX8_type 27 = .ok (.ireturn, 1) := by decide +kernel
theorem dX8_type_28 : decode cX8_type 28 = .ok (.aload_n 0, 1) := by decide +kernel
theorem dX8_type_29 : decode cX8_type 29 = .ok (.getfield 32, 3) := by decide +kernel
theorem dX8_type_32 : decode cX8_type 32 = .ok (.iload_n 1, 1) := by decide +kernel
theorem dX8_type_33 : decode cX8_type 33 = .ok (.invokevirtual 222, 3) := by decide +kernel
theorem dX8_type_36 : decode cX8_type 36 = .ok (.aload_n 0, 1) := by decide +kernel
theorem dX8_type_37 : decode cX8_type 37 = .ok (.getfield 32, 3) := by decide +kernel
theorem dX8_type_40 : decode cX8_type 40 = .ok (.invokevirtual 210, 3) := by decide +kernel
theorem dX8_type_43 : decode cX8_type 43 = .ok (.ireturn, 1) := by decide +kernel
theorem dX8_clearText_0 : decode cX8_clearText 0 = .ok (.aload_n 0, 1) := by decide +kernel
theorem dX8_clearText_1 : decode cX8_clearText 1 = .ok (.getfield 32, 3) := by decide +kernel
theorem dX8_clearText_4 : decode cX8_clearText 4 = .ok (.invokevirtual 210, 3) := by decide +kernel
theorem dX8_clearText_7 : decode cX8_clearText 7 = .ok (.istore_n 1, 1) := by decide +kernel
theorem dX8_clearText_8 : decode cX8_clearText 8 = .ok (.aload_n 0, 1) := by decide +kernel
theorem dX8_clearText_9 : decode cX8_clearText 9 = .ok (.getfield 32, 3) := by decide +kernel
theorem dX8_clearText_12 : decode cX8_clearText 12 = .ok (.invokevirtual 226, 3) := by decide +kernel
theorem dX8_clearText_15 : decode cX8_clearText 15 = .ok (.iload_n 1, 1) := by decide +kernel
theorem dX8_clearText_16 : decode cX8_clearText 16 = .ok (.ireturn, 1) := by decide +kernel
theorem dX8_fault_0 : decode cX8_fault 0 = .ok (.iload_n 1, 1) := by decide +kernel
theorem dX8_fault_1 : decode cX8_fault 1 = .ok (.ifCond .lt 8, 3) := by decide +kernel
theorem dX8_fault_4 : decode cX8_fault 4 = .ok (.iload_n 1, 1) := by decide +kernel
theorem dX8_fault_5 : decode cX8_fault 5 = .ok (.iconst 2, 1) := by decide +kernel
theorem dX8_fault_6 : decode cX8_fault 6 = .ok (.if_icmp .le 6, 3) := by decide +kernel
theorem dX8_fault_9 : decode cX8_fault 9 = .ok (.ldc 76, 2) := by decide +kernel
theorem dX8_fault_11 : decode cX8_fault 11 = .ok (.ireturn, 1) := by decide +kernel
theorem dX8_fault_12 : decode cX8_fault 12 = .ok (.aload_n 0, 1) := by decide +kernel
theorem dX8_fault_13 : decode cX8_fault 13 = .ok (.getfield 32, 3) := by decide +kernel
theorem dX8_fault_16 : decode cX8_fault 16 = .ok (.invokevirtual 229, 3) := by decide +kernel
theorem dX8_fault_19 : decode cX8_fault 19 = .ok (.aload_n 0, 1) := by decide +kernel
theorem dX8_fault_20 : decode cX8_fault 20 = .ok (.getfield 32, 3) := by decide +kernel
theorem dX8_fault_23 : decode cX8_fault 23 = .ok (.invokevirtual 232, 3) := by decide +kernel
theorem dX8_fault_26 : decode cX8_fault 26 = .ok (.ifCond .ne 6, 3) := by decide +kernel
theorem dX8_fault_29 : decode cX8_fault 29 = .ok (.ldc 151, 2) := by decide +kernel
theorem dX8_fault_31 : decode cX8_fault 31 = .ok (.ireturn, 1) := by decide +kernel
theorem dX8_fault_32 : decode cX8_fault 32 = .ok (.iload_n 1, 1) := by decide +kernel
theorem dX8_fault_33 : decode cX8_fault 33 = .ok (.lookupswitch 43 #[(0, 27), (1, 35)], 27) := by decide +kernel
theorem dX8_fault_60 : decode cX8_fault 60 = .ok (.aload_n 0, 1) := by decide +kernel
theorem dX8_fault_61 : decode cX8_fault 61 = .ok (.getfield 32, 3) := by decide +kernel
theorem dX8_fault_64 : decode cX8_fault 64 = .ok (.invokevirtual 235, 3) := by decide +kernel
theorem dX8_fault_67 : decode cX8_fault 67 = .ok (.ireturn, 1) := by decide +kernel
theorem dX8_fault_68 : decode cX8_fault 68 = .ok (.aload_n 0, 1) := by decide +kernel
theorem dX8_fault_69 : decode cX8_fault 69 = .ok (.getfield 32, 3) := by decide +kernel
theorem dX8_fault_72 : decode cX8_fault 72 = .ok (.invokevirtual 238, 3) := by decide +kernel
theorem dX8_fault_75 : decode cX8_fault 75 = .ok (.ireturn, 1) := by decide +kernel
theorem dX8_fault_76 : decode cX8_fault 76 = .ok (.aload_n 0, 1) := by decide +kernel
theorem dX8_fault_77 : decode cX8_fault 77 = .ok (.getfield 32, 3) := by decide +kernel
theorem dX8_fault_80 : decode cX8_fault 80 = .ok (.invokevirtual 241, 3) := by decide +kernel
theorem dX8_fault_83 : decode cX8_fault 83 = .ok (.invokestatic 131, 3) := by decide +kernel
theorem dX8_fault_86 : decode cX8_fault 86 = .ok (.ireturn, 1) := by decide +kernel
theorem dX8_read_0 : decode cX8_read 0 = .ok (.iload_n 1, 1) := by decide +kernel
theorem dX8_read_1 : decode cX8_read 1 = .ok (.invokestatic 66, 3) := by decide +kernel
theorem dX8_read_4 : decode cX8_read 4 = .ok (.ifCond .ne 6, 3) := by decide +kernel
theorem dX8_read_7 : decode cX8_read 7 = .ok (.ldc 76, 2) := by decide +kernel
theorem dX8_read_9 : decode cX8_read 9 = .ok (.ireturn, 1) := by decide +kernel
theorem dX8_read_10 : decode cX8_read 10 = .ok (.aload_n 0, 1) := by decide +kernel
theorem dX8_read_11 : decode cX8_read 11 = .ok (.getfield 32, 3) := by decide +kernel
theorem dX8_read_14 : decode cX8_read 14 = .ok (.invokevirtual 229, 3) := by decide +kernel
theorem dX8_read_17 : decode cX8_read 17 = .ok (.aload_n 0, 1) := by decide +kernel
theorem dX8_read_18 : decode cX8_read 18 = .ok (.getfield 32, 3) := by decide +kernel
theorem dX8_read_21 : decode cX8_read 21 = .ok (.invokevirtual 232, 3) := by decide +kernel
theorem dX8_read_24 : decode cX8_read 24 = .ok (.ifCond .eq 6, 3) := by decide +kernel
theorem dX8_read_27 : decode cX8_read 27 = .ok (.ldc 111, 2) := by decide +kernel
theorem dX8_read_29 : decode cX8_read 29 = .ok (.ireturn, 1) := by decide +kernel
theorem dX8_read_30 : decode cX8_read 30 = .ok (.aload_n 0, 1) := by decide +kernel
theorem dX8_read_31 : decode cX8_read 31 = .ok (.invokevirtual 77, 3) := by decide +kernel
theorem dX8_read_34 : decode cX8_read 34 = .ok (.aload_n 0, 1) := by decide +kernel
theorem dX8_read_35 : decode cX8_read 35 = .ok (.iload_n 1, 1) := by decide +kernel
theorem dX8_read_36 : decode cX8_read 36 = .ok (.invokevirtual 80, 3) := by decide +kernel
theorem dX8_read_39 : decode cX8_read 39 = .ok (.aload_n 0, 1) := by decide +kernel
theorem dX8_read_40 : decode cX8_read 40 = .ok (.getfield 32, 3) := by decide +kernel
theorem dX8_read_43 : decode cX8_read 43 = .ok (.invokevirtual 244, 3) := by decide +kernel
theorem dX8_read_46 : decode cX8_read 46 = .ok (.invokevirtual 112, 3) := by decide +kernel
theorem dX8_read_49 : decode cX8_read 49 = .ok (.aload_n 0, 1) := by decide +kernel
theorem dX8_read_50 : decode cX8_read 50 = .ok (.getfield 32, 3) := by decide +kernel
theorem dX8_read_53 : decode cX8_read 53 = .ok (.invokevirtual 248, 3) := by decide +kernel
theorem dX8_read_56 : decode cX8_read 56 = .ok (.ireturn, 1) := by decide +kernel
theorem dX8_remember_0 : decode cX8_remember 0 = .ok (.aload_n 0, 1) := by decide +kernel
theorem dX8_remember_1 : decode cX8_remember 1 = .ok (.getfield 25, 3) := by decide +kernel
theorem dX8_remember_4 : decode cX8_remember 4 = .ok (.aload_n 0, 1) := by decide +kernel
theorem dX8_remember_5 : decode cX8_remember 5 = .ok (.getfield 10, 3) := by decide +kernel
theorem dX8_remember_8 : decode cX8_remember 8 = .ok (.aload_n 0, 1) := by decide +kernel
theorem dX8_remember_9 : decode cX8_remember 9 = .ok (.getfield 16, 3) := by decide +kernel
theorem dX8_remember_12 : decode cX8_remember 12 = .ok (.aload_n 0, 1) := by decide +kernel
theorem dX8_remember_13 : decode cX8_remember 13 = .ok (.getfield 19, 3) := by decide +kernel
theorem dX8_remember_16 : decode cX8_remember 16 = .ok (.invokevirtual 251, 3) := by decide +kernel
theorem dX8_remember_19 : decode cX8_remember 19 = .ok (.return_, 1) := by decide +kernel
theorem dX8_planAt_0 : decode cX8_planAt 0 = .ok (.iload_n 1, 1) := by decide +kernel
theorem dX8_planAt_1 : decode cX8_planAt 1 = .ok (.ifCond .ne 10, 3) := by decide +kernel
theorem dX8_planAt_4 : decode cX8_planAt 4 = .ok (.aload_n 0, 1) := by decide +kernel
theorem dX8_planAt_5 : decode cX8_planAt 5 = .ok (.getfield 10, 3) := by decide +kernel
theorem dX8_planAt_8 : decode cX8_planAt 8 = .ok (.goto 19, 3) := by decide +kernel
theorem dX8_planAt_11 : decode cX8_planAt 11 = .ok (.iload_n 1, 1) := by decide +kernel
theorem dX8_planAt_12 : decode cX8_planAt 12 = .ok (.iconst 1, 1) := by decide +kernel
theorem dX8_planAt_13 : decode cX8_planAt 13 = .ok (.if_icmp .ne 10, 3) := by decide +kernel
theorem dX8_planAt_16 : decode cX8_planAt 16 = .ok (.aload_n 0, 1) := by decide +kernel
theorem dX8_planAt_17 : decode cX8_planAt 17 = .ok (.getfield 16, 3) := by decide +kernel
theorem dX8_planAt_20 : decode cX8_planAt 20 = .ok (.goto 7, 3) := by decide +kernel
theorem dX8_planAt_23 : decode cX8_planAt 23 = .ok (.aload_n 0, 1) := by decide +kernel
theorem dX8_planAt_24 : decode cX8_planAt 24 = .ok (.getfield 19, 3) := by decide +kernel
theorem dX8_planAt_27 : decode cX8_planAt 27 = .ok (.areturn, 1) := by decide +kernel
theorem dX8_isPlan_0 : decode cX8_isPlan 0 = .ok (.iload_n 0, 1) := by decide +kernel
theorem dX8_isPlan_1 : decode cX8_isPlan 1 = .ok (.ifCond .lt 12, 3) := by decide +kernel
theorem dX8_isPlan_4 : decode cX8_isPlan 4 = .ok (.iload_n 0, 1) := by decide +kernel
theorem dX8_isPlan_5 : decode cX8_isPlan 5 = .ok (.iconst 3, 1) := by decide +kernel
theorem dX8_isPlan_6 : decode cX8_isPlan 6 = .ok (.if_icmp .ge 7, 3) := by decide +kernel
theorem dX8_isPlan_9 : decode cX8_isPlan 9 = .ok (.iconst 1, 1) := by decide +kernel
theorem dX8_isPlan_10 : decode cX8_isPlan 10 = .ok (.goto 4, 3) := by decide +kernel
theorem dX8_isPlan_13 : decode cX8_isPlan 13 = .ok (.iconst 0, 1) := by decide +kernel
theorem dX8_isPlan_14 : decode cX8_isPlan 14 = .ok (.ireturn, 1) := by decide +kernel
theorem dX8_isState_0 : decode cX8_isState 0 = .ok (.iload_n 0, 1) := by decide +kernel
theorem dX8_isState_1 : decode cX8_isState 1 = .ok (.ifCond .lt 13, 3) := by decide +kernel
theorem dX8_isState_4 : decode cX8_isState 4 = .ok (.iload_n 0, 1) := by decide +kernel
theorem dX8_isState_5 : decode cX8_isState 5 = .ok (.bipush 8, 2) := by decide +kernel
theorem dX8_isState_7 : decode cX8_isState 7 = .ok (.if_icmp .ge 7, 3) := by decide +kernel
theorem dX8_isState_10 : decode cX8_isState 10 = .ok (.iconst 1, 1) := by decide +kernel
theorem dX8_isState_11 : decode cX8_isState 11 = .ok (.goto 4, 3) := by decide +kernel
theorem dX8_isState_14 : decode cX8_isState 14 = .ok (.iconst 0, 1) := by decide +kernel
theorem dX8_isState_15 : decode cX8_isState 15 = .ok (.ireturn, 1) := by decide +kernel
theorem dX8_isWord_0 : decode cX8_isWord 0 = .ok (.iload_n 0, 1) := by decide +kernel
theorem dX8_isWord_1 : decode cX8_isWord 1 = .ok (.ifCond .lt 13, 3) := by decide +kernel
theorem dX8_isWord_4 : decode cX8_isWord 4 = .ok (.iload_n 0, 1) := by decide +kernel
theorem dX8_isWord_5 : decode cX8_isWord 5 = .ok (.bipush 6, 2) := by decide +kernel
theorem dX8_isWord_7 : decode cX8_isWord 7 = .ok (.if_icmp .ge 7, 3) := by decide +kernel
theorem dX8_isWord_10 : decode cX8_isWord 10 = .ok (.iconst 1, 1) := by decide +kernel
theorem dX8_isWord_11 : decode cX8_isWord 11 = .ok (.goto 4, 3) := by decide +kernel
theorem dX8_isWord_14 : decode cX8_isWord 14 = .ok (.iconst 0, 1) := by decide +kernel
theorem dX8_isWord_15 : decode cX8_isWord 15 = .ok (.ireturn, 1) := by decide +kernel
theorem dX8_isKind_0 : decode cX8_isKind 0 = .ok (.iload_n 0, 1) := by decide +kernel
theorem dX8_isKind_1 : decode cX8_isKind 1 = .ok (.ifCond .lt 12, 3) := by decide +kernel
theorem dX8_isKind_4 : decode cX8_isKind 4 = .ok (.iload_n 0, 1) := by decide +kernel
theorem dX8_isKind_5 : decode cX8_isKind 5 = .ok (.iconst 2, 1) := by decide +kernel
theorem dX8_isKind_6 : decode cX8_isKind 6 = .ok (.if_icmp .gt 7, 3) := by decide +kernel
theorem dX8_isKind_9 : decode cX8_isKind 9 = .ok (.iconst 1, 1) := by decide +kernel
theorem dX8_isKind_10 : decode cX8_isKind 10 = .ok (.goto 4, 3) := by decide +kernel
theorem dX8_isKind_13 : decode cX8_isKind 13 = .ok (.iconst 0, 1) := by decide +kernel
theorem dX8_isKind_14 : decode cX8_isKind 14 = .ok (.ireturn, 1) := by decide +kernel
theorem dX8_isPairQuestion_0 : decode cX8_isPairQuestion 0 = .ok (.iload_n 0, 1) := by decide +kernel
theorem dX8_isPairQuestion_1 : decode cX8_isPairQuestion 1 = .ok (.ifCond .lt 8, 3) := by decide +kernel
theorem dX8_isPairQuestion_4 : decode cX8_isPairQuestion 4 = .ok (.iload_n 0, 1) := by decide +kernel
theorem dX8_isPairQuestion_5 : decode cX8_isPairQuestion 5 = .ok (.iconst 4, 1) := by decide +kernel
theorem dX8_isPairQuestion_6 : decode cX8_isPairQuestion 6 = .ok (.if_icmp .le 15, 3) := by decide +kernel
theorem dX8_isPairQuestion_9 : decode cX8_isPairQuestion 9 = .ok (.iload_n 0, 1) := by decide +kernel
theorem dX8_isPairQuestion_10 : decode cX8_isPairQuestion 10 = .ok (.bipush 10, 2) := by decide +kernel
theorem dX8_isPairQuestion_12 : decode cX8_isPairQuestion 12 = .ok (.if_icmp .lt 13, 3) := by decide +kernel
theorem dX8_isPairQuestion_15 : decode cX8_isPairQuestion 15 = .ok (.iload_n 0, 1) := by decide +kernel
theorem dX8_isPairQuestion_16 : decode cX8_isPairQuestion 16 = .ok (.bipush 74, 2) := by decide +kernel
theorem dX8_isPairQuestion_18 : decode cX8_isPairQuestion 18 = .ok (.if_icmp .ge 7, 3) := by decide +kernel
theorem dX8_isPairQuestion_21 : decode cX8_isPairQuestion 21 = .ok (.iconst 1, 1) := by decide +kernel
theorem dX8_isPairQuestion_22 : decode cX8_isPairQuestion 22 = .ok (.goto 4, 3) := by decide +kernel
theorem dX8_isPairQuestion_25 : decode cX8_isPairQuestion 25 = .ok (.iconst 0, 1) := by decide +kernel
theorem dX8_isPairQuestion_26 : decode cX8_isPairQuestion 26 = .ok (.ireturn, 1) := by decide +kernel
theorem dX8_foundOr_0 : decode cX8_foundOr 0 = .ok (.iload_n 0, 1) := by decide +kernel
theorem dX8_foundOr_1 : decode cX8_foundOr 1 = .ok (.iconst (-1), 1) := by decide +kernel
theorem dX8_foundOr_2 : decode cX8_foundOr 2 = .ok (.if_icmp .ne 8, 3) := by decide +kernel
theorem dX8_foundOr_5 : decode cX8_foundOr 5 = .ok (.ldc 151, 2) := by decide +kernel
theorem dX8_foundOr_7 : decode cX8_foundOr 7 = .ok (.goto 4, 3) := by decide +kernel
theorem dX8_foundOr_10 : decode cX8_foundOr 10 = .ok (.iload_n 0, 1) := by decide +kernel
theorem dX8_foundOr_11 : decode cX8_foundOr 11 = .ok (.ireturn, 1) := by decide +kernel
theorem dX8_holds_0 : decode cX8_holds 0 = .ok (.iload_n 0, 1) := by decide +kernel
theorem dX8_holds_1 : decode cX8_holds 1 = .ok (.iload_n 1, 1) := by decide +kernel
theorem dX8_holds_2 : decode cX8_holds 2 = .ok (.ishr, 1) := by decide +kernel
theorem dX8_holds_3 : decode cX8_holds 3 = .ok (.iconst 1, 1) := by decide +kernel
theorem dX8_holds_4 : decode cX8_holds 4 = .ok (.iand, 1) := by decide +kernel
theorem dX8_holds_5 : decode cX8_holds 5 = .ok (.iconst 1, 1) := by decide +kernel
theorem dX8_holds_6 : decode cX8_holds 6 = .ok (.if_icmp .ne 7, 3) := by decide +kernel
theorem dX8_holds_9 : decode cX8_holds 9 = .ok (.iconst 1, 1) := by decide +kernel
theorem dX8_holds_10 : decode cX8_holds 10 = .ok (.goto 4, 3) := by decide +kernel
theorem dX8_holds_13 : decode cX8_holds 13 = .ok (.iconst 0, 1) := by decide +kernel
theorem dX8_holds_14 : decode cX8_holds 14 = .ok (.ireturn, 1) := by decide +kernel
theorem dX8_firstWordIn_0 : decode cX8_firstWordIn 0 = .ok (.iconst 0, 1) := by decide +kernel
theorem dX8_firstWordIn_1 : decode cX8_firstWordIn 1 = .ok (.istore_n 1, 1) := by decide +kernel
theorem dX8_firstWordIn_2 : decode cX8_firstWordIn 2 = .ok (.iload_n 1, 1) := by decide +kernel
theorem dX8_firstWordIn_3 : decode cX8_firstWordIn 3 = .ok (.bipush 6, 2) := by decide +kernel
theorem dX8_firstWordIn_5 : decode cX8_firstWordIn 5 = .ok (.if_icmp .ge 19, 3) := by decide +kernel
theorem dX8_firstWordIn_8 : decode cX8_firstWordIn 8 = .ok (.iload_n 0, 1) := by decide +kernel
theorem dX8_firstWordIn_9 : decode cX8_firstWordIn 9 = .ok (.iload_n 1, 1) := by decide +kernel
theorem dX8_firstWordIn_10 : decode cX8_firstWordIn 10 = .ok (.invokestatic 134, 3) := by decide +kernel
theorem dX8_firstWordIn_13 : decode cX8_firstWordIn 13 = .ok (.ifCond .eq 5, 3) := by decide +kernel
theorem dX8_firstWordIn_16 : decode cX8_firstWordIn 16 = .ok (.iload_n 1, 1) := by decide +kernel
theorem dX8_firstWordIn_17 : decode cX8_firstWordIn 17 = .ok (.ireturn, 1) := by decide +kernel
theorem dX8_firstWordIn_18 : decode cX8_firstWordIn 18 = .ok (.iinc 1 1, 3) := by decide +kernel
theorem dX8_firstWordIn_21 : decode cX8_firstWordIn 21 = .ok (.goto (-19), 3) := by decide +kernel
theorem dX8_firstWordIn_24 : decode cX8_firstWordIn 24 = .ok (.iconst (-1), 1) := by decide +kernel
theorem dX8_firstWordIn_25 : decode cX8_firstWordIn 25 = .ok (.ireturn, 1) := by decide +kernel
theorem dX8_cellOf_0 : decode cX8_cellOf 0 = .ok (.iload_n 1, 1) := by decide +kernel
theorem dX8_cellOf_1 : decode cX8_cellOf 1 = .ok (.ifCond .lt 15, 3) := by decide +kernel
theorem dX8_cellOf_4 : decode cX8_cellOf 4 = .ok (.iload_n 1, 1) := by decide +kernel
theorem dX8_cellOf_5 : decode cX8_cellOf 5 = .ok (.aload_n 0, 1) := by decide +kernel
theorem dX8_cellOf_6 : decode cX8_cellOf 6 = .ok (.arraylength, 1) := by decide +kernel
theorem dX8_cellOf_7 : decode cX8_cellOf 7 = .ok (.if_icmp .ge 9, 3) := by decide +kernel
theorem dX8_cellOf_10 : decode cX8_cellOf 10 = .ok (.aload_n 0, 1) := by decide +kernel
theorem dX8_cellOf_11 : decode cX8_cellOf 11 = .ok (.iload_n 1, 1) := by decide +kernel
theorem dX8_cellOf_12 : decode cX8_cellOf 12 = .ok (.iaload, 1) := by decide +kernel
theorem dX8_cellOf_13 : decode cX8_cellOf 13 = .ok (.goto 4, 3) := by decide +kernel
theorem dX8_cellOf_16 : decode cX8_cellOf 16 = .ok (.iconst (-1), 1) := by decide +kernel
theorem dX8_cellOf_17 : decode cX8_cellOf 17 = .ok (.ireturn, 1) := by decide +kernel
theorem dJ6_bitCount_0f7a4_0 : decode cJ6_bitCount_0f7a4 0 = .ok (.iload_n 0, 1) := by decide +kernel
theorem dJ6_bitCount_0f7a4_1 : decode cJ6_bitCount_0f7a4 1 = .ok (.iload_n 0, 1) := by decide +kernel
theorem dJ6_bitCount_0f7a4_2 : decode cJ6_bitCount_0f7a4 2 = .ok (.iconst 1, 1) := by decide +kernel
theorem dJ6_bitCount_0f7a4_3 : decode cJ6_bitCount_0f7a4 3 = .ok (.iushr, 1) := by decide +kernel
theorem dJ6_bitCount_0f7a4_4 : decode cJ6_bitCount_0f7a4 4 = .ok (.ldc_w 265, 3) := by decide +kernel
theorem dJ6_bitCount_0f7a4_7 : decode cJ6_bitCount_0f7a4 7 = .ok (.iand, 1) := by decide +kernel
theorem dJ6_bitCount_0f7a4_8 : decode cJ6_bitCount_0f7a4 8 = .ok (.isub, 1) := by decide +kernel
theorem dJ6_bitCount_0f7a4_9 : decode cJ6_bitCount_0f7a4 9 = .ok (.istore_n 0, 1) := by decide +kernel
theorem dJ6_bitCount_0f7a4_10 : decode cJ6_bitCount_0f7a4 10 = .ok (.iload_n 0, 1) := by decide +kernel
theorem dJ6_bitCount_0f7a4_11 : decode cJ6_bitCount_0f7a4 11 = .ok (.ldc_w 266, 3) := by decide +kernel
theorem dJ6_bitCount_0f7a4_14 : decode cJ6_bitCount_0f7a4 14 = .ok (.iand, 1) := by decide +kernel
theorem dJ6_bitCount_0f7a4_15 : decode cJ6_bitCount_0f7a4 15 = .ok (.iload_n 0, 1) := by decide +kernel
theorem dJ6_bitCount_0f7a4_16 : decode cJ6_bitCount_0f7a4 16 = .ok (.iconst 2, 1) := by decide +kernel
theorem dJ6_bitCount_0f7a4_17 : decode cJ6_bitCount_0f7a4 17 = .ok (.iushr, 1) := by decide +kernel
theorem dJ6_bitCount_0f7a4_18 : decode cJ6_bitCount_0f7a4 18 = .ok (.ldc_w 266, 3) := by decide +kernel
theorem dJ6_bitCount_0f7a4_21 : decode cJ6_bitCount_0f7a4 21 = .ok (.iand, 1) := by decide +kernel
theorem dJ6_bitCount_0f7a4_22 : decode cJ6_bitCount_0f7a4 22 = .ok (.iadd, 1) := by decide +kernel
theorem dJ6_bitCount_0f7a4_23 : decode cJ6_bitCount_0f7a4 23 = .ok (.istore_n 0, 1) := by decide +kernel
theorem dJ6_bitCount_0f7a4_24 : decode cJ6_bitCount_0f7a4 24 = .ok (.iload_n 0, 1) := by decide +kernel
theorem dJ6_bitCount_0f7a4_25 : decode cJ6_bitCount_0f7a4 25 = .ok (.iload_n 0, 1) := by decide +kernel
theorem dJ6_bitCount_0f7a4_26 : decode cJ6_bitCount_0f7a4 26 = .ok (.iconst 4, 1) := by decide +kernel
theorem dJ6_bitCount_0f7a4_27 : decode cJ6_bitCount_0f7a4 27 = .ok (.iushr, 1) := by decide +kernel
theorem dJ6_bitCount_0f7a4_28 : decode cJ6_bitCount_0f7a4 28 = .ok (.iadd, 1) := by decide +kernel
theorem dJ6_bitCount_0f7a4_29 : decode cJ6_bitCount_0f7a4 29 = .ok (.ldc_w 267, 3) := by decide +kernel
theorem dJ6_bitCount_0f7a4_32 : decode cJ6_bitCount_0f7a4 32 = .ok (.iand, 1) := by decide +kernel
theorem dJ6_bitCount_0f7a4_33 : decode cJ6_bitCount_0f7a4 33 = .ok (.istore_n 0, 1) := by decide +kernel
theorem dJ6_bitCount_0f7a4_34 : decode cJ6_bitCount_0f7a4 34 = .ok (.iload_n 0, 1) := by decide +kernel
theorem dJ6_bitCount_0f7a4_35 : decode cJ6_bitCount_0f7a4 35 = .ok (.iload_n 0, 1) := by decide +kernel
theorem dJ6_bitCount_0f7a4_36 : decode cJ6_bitCount_0f7a4 36 = .ok (.bipush 8, 2) := by decide +kernel
theorem dJ6_bitCount_0f7a4_38 : decode cJ6_bitCount_0f7a4 38 = .ok (.iushr, 1) := by decide +kernel
theorem dJ6_bitCount_0f7a4_39 : decode cJ6_bitCount_0f7a4 39 = .ok (.iadd, 1) := by decide +kernel
theorem dJ6_bitCount_0f7a4_40 : decode cJ6_bitCount_0f7a4 40 = .ok (.istore_n 0, 1) := by decide +kernel
theorem dJ6_bitCount_0f7a4_41 : decode cJ6_bitCount_0f7a4 41 = .ok (.iload_n 0, 1) := by decide +kernel
theorem dJ6_bitCount_0f7a4_42 : decode cJ6_bitCount_0f7a4 42 = .ok (.iload_n 0, 1) := by decide +kernel
theorem dJ6_bitCount_0f7a4_43 : decode cJ6_bitCount_0f7a4 43 = .ok (.bipush 16, 2) := by decide +kernel
theorem dJ6_bitCount_0f7a4_45 : decode cJ6_bitCount_0f7a4 45 = .ok (.iushr, 1) := by decide +kernel
theorem dJ6_bitCount_0f7a4_46 : decode cJ6_bitCount_0f7a4 46 = .ok (.iadd, 1) := by decide +kernel
theorem dJ6_bitCount_0f7a4_47 : decode cJ6_bitCount_0f7a4 47 = .ok (.istore_n 0, 1) := by decide +kernel
theorem dJ6_bitCount_0f7a4_48 : decode cJ6_bitCount_0f7a4 48 = .ok (.iload_n 0, 1) := by decide +kernel
theorem dJ6_bitCount_0f7a4_49 : decode cJ6_bitCount_0f7a4 49 = .ok (.bipush 63, 2) := by decide +kernel
theorem dJ6_bitCount_0f7a4_51 : decode cJ6_bitCount_0f7a4 51 = .ok (.iand, 1) := by decide +kernel
theorem dJ6_bitCount_0f7a4_52 : decode cJ6_bitCount_0f7a4 52 = .ok (.ireturn, 1) := by decide +kernel
theorem dJ9_min_f86c9_0 : decode cJ9_min_f86c9 0 = .ok (.lload_n 0, 1) := by decide +kernel
theorem dJ9_min_f86c9_1 : decode cJ9_min_f86c9 1 = .ok (.lload_n 2, 1) := by decide +kernel
theorem dJ9_min_f86c9_2 : decode cJ9_min_f86c9 2 = .ok (.lcmp, 1) := by decide +kernel
theorem dJ9_min_f86c9_3 : decode cJ9_min_f86c9 3 = .ok (.ifCond .gt 7, 3) := by decide +kernel
theorem dJ9_min_f86c9_6 : decode cJ9_min_f86c9 6 = .ok (.lload_n 0, 1) := by decide +kernel
theorem dJ9_min_f86c9_7 : decode cJ9_min_f86c9 7 = .ok (.goto 4, 3) := by decide +kernel
theorem dJ9_min_f86c9_10 : decode cJ9_min_f86c9 10 = .ok (.lload_n 2, 1) := by decide +kernel
theorem dJ9_min_f86c9_11 : decode cJ9_min_f86c9 11 = .ok (.lreturn, 1) := by decide +kernel
theorem dJ7_fill_d0a16_0 : decode cJ7_fill_d0a16 0 = .ok (.iconst 0, 1) := by decide +kernel
theorem dJ7_fill_d0a16_1 : decode cJ7_fill_d0a16 1 = .ok (.istore_n 3, 1) := by decide +kernel
theorem dJ7_fill_d0a16_2 : decode cJ7_fill_d0a16 2 = .ok (.aload_n 0, 1) := by decide +kernel
theorem dJ7_fill_d0a16_3 : decode cJ7_fill_d0a16 3 = .ok (.arraylength, 1) := by decide +kernel
theorem dJ7_fill_d0a16_4 : decode cJ7_fill_d0a16 4 = .ok (.istore 4, 2) := by decide +kernel
theorem dJ7_fill_d0a16_6 : decode cJ7_fill_d0a16 6 = .ok (.iload_n 3, 1) := by decide +kernel
theorem dJ7_fill_d0a16_7 : decode cJ7_fill_d0a16 7 = .ok (.iload 4, 2) := by decide +kernel
theorem dJ7_fill_d0a16_9 : decode cJ7_fill_d0a16 9 = .ok (.if_icmp .ge 13, 3) := by decide +kernel
theorem dJ7_fill_d0a16_12 : decode cJ7_fill_d0a16 12 = .ok (.aload_n 0, 1) := by decide +kernel
theorem dJ7_fill_d0a16_13 : decode cJ7_fill_d0a16 13 = .ok (.iload_n 3, 1) := by decide +kernel
theorem dJ7_fill_d0a16_14 : decode cJ7_fill_d0a16 14 = .ok (.lload_n 1, 1) := by decide +kernel
theorem dJ7_fill_d0a16_15 : decode cJ7_fill_d0a16 15 = .ok (.lastore, 1) := by decide +kernel
theorem dJ7_fill_d0a16_16 : decode cJ7_fill_d0a16 16 = .ok (.iinc 3 1, 3) := by decide +kernel
theorem dJ7_fill_d0a16_19 : decode cJ7_fill_d0a16 19 = .ok (.goto (-13), 3) := by decide +kernel
theorem dJ7_fill_d0a16_22 : decode cJ7_fill_d0a16 22 = .ok (.return_, 1) := by decide +kernel
theorem dJ7_fill_53178_0 : decode cJ7_fill_53178 0 = .ok (.iconst 0, 1) := by decide +kernel
theorem dJ7_fill_53178_1 : decode cJ7_fill_53178 1 = .ok (.istore_n 2, 1) := by decide +kernel
theorem dJ7_fill_53178_2 : decode cJ7_fill_53178 2 = .ok (.aload_n 0, 1) := by decide +kernel
theorem dJ7_fill_53178_3 : decode cJ7_fill_53178 3 = .ok (.arraylength, 1) := by decide +kernel
theorem dJ7_fill_53178_4 : decode cJ7_fill_53178 4 = .ok (.istore_n 3, 1) := by decide +kernel
theorem dJ7_fill_53178_5 : decode cJ7_fill_53178 5 = .ok (.iload_n 2, 1) := by decide +kernel
theorem dJ7_fill_53178_6 : decode cJ7_fill_53178 6 = .ok (.iload_n 3, 1) := by decide +kernel
theorem dJ7_fill_53178_7 : decode cJ7_fill_53178 7 = .ok (.if_icmp .ge 13, 3) := by decide +kernel
theorem dJ7_fill_53178_10 : decode cJ7_fill_53178 10 = .ok (.aload_n 0, 1) := by decide +kernel
theorem dJ7_fill_53178_11 : decode cJ7_fill_53178 11 = .ok (.iload_n 2, 1) := by decide +kernel
theorem dJ7_fill_53178_12 : decode cJ7_fill_53178 12 = .ok (.iload_n 1, 1) := by decide +kernel
theorem dJ7_fill_53178_13 : decode cJ7_fill_53178 13 = .ok (.iastore, 1) := by decide +kernel
theorem dJ7_fill_53178_14 : decode cJ7_fill_53178 14 = .ok (.iinc 2 1, 3) := by decide +kernel
theorem dJ7_fill_53178_17 : decode cJ7_fill_53178 17 = .ok (.goto (-12), 3) := by decide +kernel
theorem dJ7_fill_53178_20 : decode cJ7_fill_53178 20 = .ok (.return_, 1) := by decide +kernel
theorem dL_part_0 : decode cL_part 0 = .ok (.iload_n 0, 1) := by decide +kernel
theorem dL_part_1 : decode cL_part 1 = .ok (.ldc 7, 2) := by decide +kernel
theorem dL_part_3 : decode cL_part 3 = .ok (.iand, 1) := by decide +kernel
theorem dL_part_4 : decode cL_part 4 = .ok (.iload_n 1, 1) := by decide +kernel
theorem dL_part_5 : decode cL_part 5 = .ok (.irem, 1) := by decide +kernel
theorem dL_part_6 : decode cL_part 6 = .ok (.ireturn, 1) := by decide +kernel
theorem dL_drawn_0 : decode cL_drawn 0 = .ok (.aload_n 0, 1) := by decide +kernel
theorem dL_drawn_1 : decode cL_drawn 1 = .ok (.arraylength, 1) := by decide +kernel
theorem dL_drawn_2 : decode cL_drawn 2 = .ok (.ifCond .ne 13, 3) := by decide +kernel
theorem dL_drawn_5 : decode cL_drawn 5 = .ok (.sipush 7919, 3) := by decide +kernel
theorem dL_drawn_8 : decode cL_drawn 8 = .ok (.iload_n 1, 1) := by decide +kernel
theorem dL_drawn_9 : decode cL_drawn 9 = .ok (.imul, 1) := by decide +kernel
theorem dL_drawn_10 : decode cL_drawn 10 = .ok (.iconst 3, 1) := by decide +kernel
theorem dL_drawn_11 : decode cL_drawn 11 = .ok (.iadd, 1) := by decide +kernel
theorem dL_drawn_12 : decode cL_drawn 12 = .ok (.goto 27, 3) := by decide +kernel
theorem dL_drawn_15 : decode cL_drawn 15 = .ok (.aload_n 0, 1) := by decide +kernel
theorem dL_drawn_16 : decode cL_drawn 16 = .ok (.iload_n 1, 1) := by decide +kernel
theorem dL_drawn_17 : decode cL_drawn 17 = .ok (.aload_n 0, 1) := by decide +kernel
theorem dL_drawn_18 : decode cL_drawn 18 = .ok (.arraylength, 1) := by decide +kernel
theorem dL_drawn_19 : decode cL_drawn 19 = .ok (.irem, 1) := by decide +kernel
theorem dL_drawn_20 : decode cL_drawn 20 = .ok (.iaload, 1) := by decide +kernel
theorem dL_drawn_21 : decode cL_drawn 21 = .ok (.iload_n 1, 1) := by decide +kernel
theorem dL_drawn_22 : decode cL_drawn 22 = .ok (.bipush 7, 2) := by decide +kernel
theorem dL_drawn_24 : decode cL_drawn 24 = .ok (.irem, 1) := by decide +kernel
theorem dL_drawn_25 : decode cL_drawn 25 = .ok (.ishr, 1) := by decide +kernel
theorem dL_drawn_26 : decode cL_drawn 26 = .ok (.iload_n 1, 1) := by decide +kernel
theorem dL_drawn_27 : decode cL_drawn 27 = .ok (.aload_n 0, 1) := by decide +kernel
theorem dL_drawn_28 : decode cL_drawn 28 = .ok (.arraylength, 1) := by decide +kernel
theorem dL_drawn_29 : decode cL_drawn 29 = .ok (.idiv, 1) := by decide +kernel
theorem dL_drawn_30 : decode cL_drawn 30 = .ok (.bipush 31, 2) := by decide +kernel
theorem dL_drawn_32 : decode cL_drawn 32 = .ok (.imul, 1) := by decide +kernel
theorem dL_drawn_33 : decode cL_drawn 33 = .ok (.ixor, 1) := by decide +kernel
theorem dL_drawn_34 : decode cL_drawn 34 = .ok (.iload_n 1, 1) := by decide +kernel
theorem dL_drawn_35 : decode cL_drawn 35 = .ok (.ldc 8, 2) := by decide +kernel
theorem dL_drawn_37 : decode cL_drawn 37 = .ok (.imul, 1) := by decide +kernel
theorem dL_drawn_38 : decode cL_drawn 38 = .ok (.ixor, 1) := by decide +kernel
theorem dL_drawn_39 : decode cL_drawn 39 = .ok (.ireturn, 1) := by decide +kernel
theorem dL_seen_0 : decode cL_seen 0 = .ok (.ldc2_w 9, 3) := by decide +kernel
theorem dL_seen_3 : decode cL_seen 3 = .ok (.lstore_n 1, 1) := by decide +kernel
theorem dL_seen_4 : decode cL_seen 4 = .ok (.iconst 0, 1) := by decide +kernel
theorem dL_seen_5 : decode cL_seen 5 = .ok (.istore_n 3, 1) := by decide +kernel
theorem dL_seen_6 : decode cL_seen 6 = .ok (.iload_n 3, 1) := by decide +kernel
theorem dL_seen_7 : decode cL_seen 7 = .ok (.bipush 24, 2) := by decide +kernel
theorem dL_seen_9 : decode cL_seen 9 = .ok (.if_icmp .ge 64, 3) := by decide +kernel
theorem dL_seen_12 : decode cL_seen 12 = .ok (.iconst 0, 1) := by decide +kernel
theorem dL_seen_13 : decode cL_seen 13 = .ok (.istore 4, 2) := by decide +kernel
theorem dL_seen_15 : decode cL_seen 15 = .ok (.iload 4, 2) := by decide +kernel
theorem dL_seen_17 : decode cL_seen 17 = .ok (.bipush 16, 2) := by decide +kernel
theorem dL_seen_19 : decode cL_seen 19 = .ok (.if_icmp .ge 48, 3) := by decide +kernel
theorem dL_seen_22 : decode cL_seen 22 = .ok (.ldc2_w 11, 3) := by decide +kernel
theorem dL_seen_25 : decode cL_seen 25 = .ok (.lload_n 1, 1) := by decide +kernel
theorem dL_seen_26 : decode cL_seen 26 = .ok (.lmul, 1) := by decide +kernel
theorem dL_seen_27 : decode cL_seen 27 = .ok (.iload 4, 2) := by decide +kernel
theorem dL_seen_29 : decode cL_seen 29 = .ok (.iconst 3, 1) := by decide +kernel
theorem dL_seen_30 : decode cL_seen 30 = .ok (.if_icmp .le 14, 3) := by decide +kernel
theorem dL_seen_33 : decode cL_seen 33 = .ok (.iload 4, 2) := by decide +kernel
theorem dL_seen_35 : decode cL_seen 35 = .ok (.bipush 10, 2) := by decide +kernel
theorem dL_seen_37 : decode cL_seen 37 = .ok (.if_icmp .ge 7, 3) := by decide +kernel
theorem dL_seen_40 : decode cL_seen 40 = .ok (.iconst 0, 1) := by decide +kernel
theorem dL_seen_41 : decode cL_seen 41 = .ok (.goto 17, 3) := by decide +kernel
theorem dL_seen_44 : decode cL_seen 44 = .ok (.aload_n 0, 1) := by decide +kernel
theorem dL_seen_45 : decode cL_seen 45 = .ok (.iload_n 3, 1) := by decide +kernel
theorem dL_seen_46 : decode cL_seen 46 = .ok (.bipush 8, 2) := by decide +kernel
theorem dL_seen_48 : decode cL_seen 48 = .ok (.idiv, 1) := by decide +kernel
theorem dL_seen_49 : decode cL_seen 49 = .ok (.iload_n 3, 1) := by decide +kernel
theorem dL_seen_50 : decode cL_seen 50 = .ok (.bipush 8, 2) := by decide +kernel
theorem dL_seen_52 : decode cL_seen 52 = .ok (.irem, 1) := by decide +kernel
theorem dL_seen_53 : decode cL_seen 53 = .ok (.iload 4, 2) := by decide +kernel
theorem dL_seen_55 : decode cL_seen 55 = .ok (.invokevirtual 13, 3) := by decide +kernel
theorem dL_seen_58 : decode cL_seen 58 = .ok (.i2l, 1) := by decide +kernel
theorem dL_seen_59 : decode cL_seen 59 = .ok (.ladd, 1) := by decide +kernel
theorem dL_seen_60 : decode cL_seen 60 = .ok (.lstore_n 1, 1) := by decide +kernel
theorem dL_seen_61 : decode cL_seen 61 = .ok (.iinc 4 1, 3) := by decide +kernel
theorem dL_seen_64 : decode cL_seen 64 = .ok (.goto (-49), 3) := by decide +kernel
theorem dL_seen_67 : decode cL_seen 67 = .ok (.iinc 3 1, 3) := by decide +kernel
theorem dL_seen_70 : decode cL_seen 70 = .ok (.goto (-64), 3) := by decide +kernel
theorem dL_seen_73 : decode cL_seen 73 = .ok (.iconst 0, 1) := by decide +kernel
theorem dL_seen_74 : decode cL_seen 74 = .ok (.istore_n 3, 1) := by decide +kernel
theorem dL_seen_75 : decode cL_seen 75 = .ok (.iload_n 3, 1) := by decide +kernel
theorem dL_seen_76 : decode cL_seen 76 = .ok (.bipush 9, 2) := by decide +kernel
theorem dL_seen_78 : decode cL_seen 78 = .ok (.if_icmp .ge 42, 3) := by decide +kernel
theorem dL_seen_81 : decode cL_seen 81 = .ok (.ldc2_w 11, 3) := by decide +kernel
theorem dL_seen_84 : decode cL_seen 84 = .ok (.ldc2_w 11, 3) := by decide +kernel
theorem dL_seen_87 : decode cL_seen 87 = .ok (.lload_n 1, 1) := by decide +kernel
theorem dL_seen_88 : decode cL_seen 88 = .ok (.lmul, 1) := by decide +kernel
theorem dL_seen_89 : decode cL_seen 89 = .ok (.aload_n 0, 1) := by decide +kernel
theorem dL_seen_90 : decode cL_seen 90 = .ok (.iload_n 3, 1) := by decide +kernel
theorem dL_seen_91 : decode cL_seen 91 = .ok (.iconst 3, 1) := by decide +kernel
theorem dL_seen_92 : decode cL_seen 92 = .ok (.idiv, 1) := by decide +kernel
theorem dL_seen_93 : decode cL_seen 93 = .ok (.iload_n 3, 1) := by decide +kernel
theorem dL_seen_94 : decode cL_seen 94 = .ok (.iconst 3, 1) := by decide +kernel
theorem dL_seen_95 : decode cL_seen 95 = .ok (.irem, 1) := by decide +kernel
theorem dL_seen_96 : decode cL_seen 96 = .ok (.iconst 0, 1) := by decide +kernel
theorem dL_seen_97 : decode cL_seen 97 = .ok (.invokevirtual 19, 3) := by decide +kernel
theorem dL_seen_100 : decode cL_seen 100 = .ok (.i2l, 1) := by decide +kernel
theorem dL_seen_101 : decode cL_seen 101 = .ok (.ladd, 1) := by decide +kernel
theorem dL_seen_102 : decode cL_seen 102 = .ok (.lmul, 1) := by decide +kernel
theorem dL_seen_103 : decode cL_seen 103 = .ok (.aload_n 0, 1) := by decide +kernel
theorem dL_seen_104 : decode cL_seen 104 = .ok (.bipush 10, 2) := by decide +kernel
theorem dL_seen_106 : decode cL_seen 106 = .ok (.iload_n 3, 1) := by decide +kernel
theorem dL_seen_107 : decode cL_seen 107 = .ok (.iadd, 1) := by decide +kernel
theorem dL_seen_108 : decode cL_seen 108 = .ok (.invokevirtual 22, 3) := by decide +kernel
theorem dL_seen_111 : decode cL_seen 111 = .ok (.i2l, 1) := by decide +kernel
theorem dL_seen_112 : decode cL_seen 112 = .ok (.ladd, 1) := by decide +kernel
theorem dL_seen_113 : decode cL_seen 113 = .ok (.lstore_n 1, 1) := by decide +kernel
theorem dL_seen_114 : decode cL_seen 114 = .ok (.iinc 3 1, 3) := by decide +kernel
theorem dL_seen_117 : decode cL_seen 117 = .ok (.goto (-42), 3) := by decide +kernel
theorem dL_seen_120 : decode cL_seen 120 = .ok (.ldc2_w 11, 3) := by decide +kernel
theorem dL_seen_123 : decode cL_seen 123 = .ok (.ldc2_w 11, 3) := by decide +kernel
theorem dL_seen_126 : decode cL_seen 126 = .ok (.lload_n 1, 1) := by decide +kernel
theorem dL_seen_127 : decode cL_seen 127 = .ok (.lmul, 1) := by decide +kernel
theorem dL_seen_128 : decode cL_seen 128 = .ok (.aload_n 0, 1) := by decide +kernel
theorem dL_seen_129 : decode cL_seen 129 = .ok (.iconst 0, 1) := by decide +kernel
theorem dL_seen_130 : decode cL_seen 130 = .ok (.invokevirtual 22, 3) := by decide +kernel
theorem dL_seen_133 : decode cL_seen 133 = .ok (.i2l, 1) := by decide +kernel
theorem dL_seen_134 : decode cL_seen 134 = .ok (.ladd, 1) := by decide +kernel
theorem dL_seen_135 : decode cL_seen 135 = .ok (.lmul, 1) := by decide +kernel
theorem dL_seen_136 : decode cL_seen 136 = .ok (.aload_n 0, 1) := by decide +kernel
theorem dL_seen_137 : decode cL_seen 137 = .ok (.iconst 1, 1) := by decide +kernel
theorem dL_seen_138 : decode cL_seen 138 = .ok (.invokevirtual 22, 3) := by decide +kernel
theorem dL_seen_141 : decode cL_seen 141 = .ok (.i2l, 1) := by decide +kernel
theorem dL_seen_142 : decode cL_seen 142 = .ok (.ladd, 1) := by decide +kernel
theorem dL_seen_143 : decode cL_seen 143 = .ok (.lreturn, 1) := by decide +kernel
theorem dL_refusesAny_0 : decode cL_refusesAny 0 = .ok (.iload_n 1, 1) := by decide +kernel
theorem dL_refusesAny_1 : decode cL_refusesAny 1 = .ok (.ifCond .ge 7, 3) := by decide +kernel
theorem dL_refusesAny_4 : decode cL_refusesAny 4 = .ok (.iconst (-1), 1) := by decide +kernel
theorem dL_refusesAny_5 : decode cL_refusesAny 5 = .ok (.goto 5, 3) := by decide +kernel
theorem dL_refusesAny_8 : decode cL_refusesAny 8 = .ok (.bipush 8, 2) := by decide +kernel
theorem dL_refusesAny_10 : decode cL_refusesAny 10 = .ok (.istore_n 2, 1) := by decide +kernel
theorem dL_refusesAny_11 : decode cL_refusesAny 11 = .ok (.iload_n 1, 1) := by decide +kernel
theorem dL_refusesAny_12 : decode cL_refusesAny 12 = .ok (.ifCond .ge 7, 3) := by decide +kernel
theorem dL_refusesAny_15 : decode cL_refusesAny 15 = .ok (.iconst (-1), 1) := by decide +kernel
theorem dL_refusesAny_16 : decode cL_refusesAny 16 = .ok (.goto 5, 3) := by decide +kernel
theorem dL_refusesAny_19 : decode cL_refusesAny 19 = .ok (.bipush 6, 2) := by decide +kernel
theorem dL_refusesAny_21 : decode cL_refusesAny 21 = .ok (.istore_n 3, 1) := by decide +kernel
theorem dL_refusesAny_22 : decode cL_refusesAny 22 = .ok (.iload_n 1, 1) := by decide +kernel
theorem dL_refusesAny_23 : decode cL_refusesAny 23 = .ok (.ifCond .ge 7, 3) := by decide +kernel
theorem dL_refusesAny_26 : decode cL_refusesAny 26 = .ok (.iconst (-1), 1) := by decide +kernel
theorem dL_refusesAny_27 : decode cL_refusesAny 27 = .ok (.goto 4, 3) := by decide +kernel
theorem dL_refusesAny_30 : decode cL_refusesAny 30 = .ok (.iconst 3, 1) := by decide +kernel
theorem dL_refusesAny_31 : decode cL_refusesAny 31 = .ok (.istore 4, 2) := by decide +kernel
theorem dL_refusesAny_33 : decode cL_refusesAny 33 = .ok (.aload_n 0, 1) := by decide +kernel
theorem dL_refusesAny_34 : decode cL_refusesAny 34 = .ok (.iload 4, 2) := by decide +kernel
theorem dL_refusesAny_36 : decode cL_refusesAny 36 = .ok (.iconst 0, 1) := by decide +kernel
theorem dL_refusesAny_37 : decode cL_refusesAny 37 = .ok (.iconst 0, 1) := by decide +kernel
theorem dL_refusesAny_38 : decode cL_refusesAny 38 = .ok (.invokevirtual 26, 3) := by decide +kernel
theorem dL_refusesAny_41 : decode cL_refusesAny 41 = .ok (.ldc 31, 2) := by decide +kernel
theorem dL_refusesAny_43 : decode cL_refusesAny 43 = .ok (.if_icmp .ne 81, 3) := by decide +kernel
theorem dL_refusesAny_46 : decode cL_refusesAny 46 = .ok (.aload_n 0, 1) := by decide +kernel
theorem dL_refusesAny_47 : decode cL_refusesAny 47 = .ok (.iconst 0, 1) := by decide +kernel
theorem dL_refusesAny_48 : decode cL_refusesAny 48 = .ok (.iload_n 2, 1) := by decide +kernel
theorem dL_refusesAny_49 : decode cL_refusesAny 49 = .ok (.iconst 0, 1) := by decide +kernel
theorem dL_refusesAny_50 : decode cL_refusesAny 50 = .ok (.invokevirtual 26, 3) := by decide +kernel
theorem dL_refusesAny_53 : decode cL_refusesAny 53 = .ok (.ldc 31, 2) := by decide +kernel
theorem dL_refusesAny_55 : decode cL_refusesAny 55 = .ok (.if_icmp .ne 69, 3) := by decide +kernel
theorem dL_refusesAny_58 : decode cL_refusesAny 58 = .ok (.aload_n 0, 1) := by decide +kernel
theorem dL_refusesAny_59 : decode cL_refusesAny 59 = .ok (.iconst 0, 1) := by decide +kernel
theorem dL_refusesAny_60 : decode cL_refusesAny 60 = .ok (.iconst 0, 1) := by decide +kernel
theorem dL_refusesAny_61 : decode cL_refusesAny 61 = .ok (.iload 4, 2) := by decide +kernel
theorem dL_refusesAny_63 : decode cL_refusesAny 63 = .ok (.invokevirtual 26, 3) := by decide +kernel
theorem dL_refusesAny_66 : decode cL_refusesAny 66 = .ok (.ldc 31, 2) := by decide +kernel
theorem dL_refusesAny_68 : decode cL_refusesAny 68 = .ok (.if_icmp .ne 56, 3) := by decide +kernel
theorem dL_refusesAny_71 : decode cL_refusesAny 71 = .ok (.aload_n 0, 1) := by decide +kernel
theorem dL_refusesAny_72 : decode cL_refusesAny 72 = .ok (.iload 4, 2) := by decide +kernel
theorem dL_refusesAny_74 : decode cL_refusesAny 74 = .ok (.iconst 0, 1) := by decide +kernel
theorem dL_refusesAny_75 : decode cL_refusesAny 75 = .ok (.iconst 0, 1) := by decide +kernel
theorem dL_refusesAny_76 : decode cL_refusesAny 76 = .ok (.iconst 0, 1) := by decide +kernel
theorem dL_refusesAny_77 : decode cL_refusesAny 77 = .ok (.invokevirtual 32, 3) := by decide +kernel
theorem dL_refusesAny_80 : decode cL_refusesAny 80 = .ok (.ldc 31, 2) := by decide +kernel
theorem dL_refusesAny_82 : decode cL_refusesAny 82 = .ok (.if_icmp .ne 42, 3) := by decide +kernel
theorem dL_refusesAny_85 : decode cL_refusesAny 85 = .ok (.aload_n 0, 1) := by decide +kernel
theorem dL_refusesAny_86 : decode cL_refusesAny 86 = .ok (.iconst 0, 1) := by decide +kernel
theorem dL_refusesAny_87 : decode cL_refusesAny 87 = .ok (.iload_n 2, 1) := by decide +kernel
theorem dL_refusesAny_88 : decode cL_refusesAny 88 = .ok (.iconst 0, 1) := by decide +kernel
theorem dL_refusesAny_89 : decode cL_refusesAny 89 = .ok (.iconst 0, 1) := by decide +kernel
theorem dL_refusesAny_90 : decode cL_refusesAny 90 = .ok (.invokevirtual 32, 3) := by decide +kernel
theorem dL_refusesAny_93 : decode cL_refusesAny 93 = .ok (.ldc 31, 2) := by decide +kernel
theorem dL_refusesAny_95 : decode cL_refusesAny 95 = .ok (.if_icmp .ne 29, 3) := by decide +kernel
theorem dL_refusesAny_98 : decode cL_refusesAny 98 = .ok (.aload_n 0, 1) := by decide +kernel
theorem dL_refusesAny_99 : decode cL_refusesAny 99 = .ok (.iconst 0, 1) := by decide +kernel
theorem dL_refusesAny_100 : decode cL_refusesAny 100 = .ok (.iconst 0, 1) := by decide +kernel
theorem dL_refusesAny_101 : decode cL_refusesAny 101 = .ok (.iload_n 3, 1) := by decide +kernel
theorem dL_refusesAny_102 : decode cL_refusesAny 102 = .ok (.iconst 0, 1) := by decide +kernel
theorem dL_refusesAny_103 : decode cL_refusesAny 103 = .ok (.invokevirtual 32, 3) := by decide +kernel
theorem dL_refusesAny_106 : decode cL_refusesAny 106 = .ok (.ldc 31, 2) := by decide +kernel
theorem dL_refusesAny_108 : decode cL_refusesAny 108 = .ok (.if_icmp .ne 16, 3) := by decide +kernel
theorem dL_refusesAny_111 : decode cL_refusesAny 111 = .ok (.aload_n 0, 1) := by decide +kernel
theorem dL_refusesAny_112 : decode cL_refusesAny 112 = .ok (.iconst 0, 1) := by decide +kernel
theorem dL_refusesAny_113 : decode cL_refusesAny 113 = .ok (.iconst 0, 1) := by decide +kernel
theorem dL_refusesAny_114 : decode cL_refusesAny 114 = .ok (.iconst 0, 1) := by decide +kernel
theorem dL_refusesAny_115 : decode cL_refusesAny 115 = .ok (.iload_n 2, 1) := by decide +kernel
theorem dL_refusesAny_116 : decode cL_refusesAny 116 = .ok (.invokevirtual 32, 3) := by decide +kernel
theorem dL_refusesAny_119 : decode cL_refusesAny 119 = .ok (.ldc 31, 2) := by decide +kernel
theorem dL_refusesAny_121 : decode cL_refusesAny 121 = .ok (.if_icmp .eq 5, 3) := by decide +kernel
theorem dL_refusesAny_124 : decode cL_refusesAny 124 = .ok (.iconst 0, 1) := by decide +kernel
theorem dL_refusesAny_125 : decode cL_refusesAny 125 = .ok (.ireturn, 1) := by decide +kernel
theorem dL_refusesAny_126 : decode cL_refusesAny 126 = .ok (.aload_n 0, 1) := by decide +kernel
theorem dL_refusesAny_127 : decode cL_refusesAny 127 = .ok (.iload 4, 2) := by decide +kernel
theorem dL_refusesAny_129 : decode cL_refusesAny 129 = .ok (.iconst 0, 1) := by decide +kernel
theorem dL_refusesAny_130 : decode cL_refusesAny 130 = .ok (.iconst 0, 1) := by decide +kernel
theorem dL_refusesAny_131 : decode cL_refusesAny 131 = .ok (.invokevirtual 36, 3) := by decide +kernel
theorem dL_refusesAny_134 : decode cL_refusesAny 134 = .ok (.ldc 31, 2) := by decide +kernel
theorem dL_refusesAny_136 : decode cL_refusesAny 136 = .ok (.if_icmp .ne 95, 3) := by decide +kernel
theorem dL_refusesAny_139 : decode cL_refusesAny 139 = .ok (.aload_n 0, 1) := by decide +kernel
theorem dL_refusesAny_140 : decode cL_refusesAny 140 = .ok (.iconst 0, 1) := by decide +kernel
theorem dL_refusesAny_141 : decode cL_refusesAny 141 = .ok (.iload_n 2, 1) := by decide +kernel
theorem dL_refusesAny_142 : decode cL_refusesAny 142 = .ok (.iconst 0, 1) := by decide +kernel
theorem dL_refusesAny_143 : decode cL_refusesAny 143 = .ok (.invokevirtual 36, 3) := by decide +kernel
theorem dL_refusesAny_146 : decode cL_refusesAny 146 = .ok (.ldc 31, 2) := by decide +kernel
theorem dL_refusesAny_148 : decode cL_refusesAny 148 = .ok (.if_icmp .ne 83, 3) := by decide +kernel
theorem dL_refusesAny_151 : decode cL_refusesAny 151 = .ok (.aload_n 0, 1) := by decide +kernel
theorem dL_refusesAny_152 : decode cL_refusesAny 152 = .ok (.iconst 0, 1) := by decide +kernel
theorem dL_refusesAny_153 : decode cL_refusesAny 153 = .ok (.iconst 0, 1) := by decide +kernel
theorem dL_refusesAny_154 : decode cL_refusesAny 154 = .ok (.iload_n 3, 1) := by decide +kernel
theorem dL_refusesAny_155 : decode cL_refusesAny 155 = .ok (.invokevirtual 36, 3) := by decide +kernel
theorem dL_refusesAny_158 : decode cL_refusesAny 158 = .ok (.ldc 31, 2) := by decide +kernel
theorem dL_refusesAny_160 : decode cL_refusesAny 160 = .ok (.if_icmp .ne 71, 3) := by decide +kernel
theorem dL_refusesAny_163 : decode cL_refusesAny 163 = .ok (.aload_n 0, 1) := by decide +kernel
theorem dL_refusesAny_164 : decode cL_refusesAny 164 = .ok (.iload 4, 2) := by decide +kernel
theorem dL_refusesAny_166 : decode cL_refusesAny 166 = .ok (.iconst 0, 1) := by decide +kernel
theorem dL_refusesAny_167 : decode cL_refusesAny 167 = .ok (.invokevirtual 39, 3) := by decide +kernel
theorem dL_refusesAny_170 : decode cL_refusesAny 170 = .ok (.ldc 31, 2) := by decide +kernel
theorem dL_refusesAny_172 : decode cL_refusesAny 172 = .ok (.if_icmp .ne 59, 3) := by decide +kernel
theorem dL_refusesAny_175 : decode cL_refusesAny 175 = .ok (.aload_n 0, 1) := by decide +kernel
theorem dL_refusesAny_176 : decode cL_refusesAny 176 = .ok (.iconst 0, 1) := by decide +kernel
theorem dL_refusesAny_177 : decode cL_refusesAny 177 = .ok (.iload 4, 2) := by decide +kernel
theorem dL_refusesAny_179 : decode cL_refusesAny 179 = .ok (.invokevirtual 39, 3) := by decide +kernel
theorem dL_refusesAny_182 : decode cL_refusesAny 182 = .ok (.ldc 31, 2) := by decide +kernel
theorem dL_refusesAny_184 : decode cL_refusesAny 184 = .ok (.if_icmp .ne 47, 3) := by decide +kernel
theorem dL_refusesAny_187 : decode cL_refusesAny 187 = .ok (.aload_n 0, 1) := by decide +kernel
theorem dL_refusesAny_188 : decode cL_refusesAny 188 = .ok (.iconst 1, 1) := by decide +kernel
theorem dL_refusesAny_189 : decode cL_refusesAny 189 = .ok (.iconst 1, 1) := by decide +kernel
theorem dL_refusesAny_190 : decode cL_refusesAny 190 = .ok (.invokevirtual 39, 3) := by decide +kernel
theorem dL_refusesAny_193 : decode cL_refusesAny 193 = .ok (.ldc 31, 2) := by decide +kernel
theorem dL_refusesAny_195 : decode cL_refusesAny 195 = .ok (.if_icmp .ne 36, 3) := by decide +kernel
theorem dL_refusesAny_198 : decode cL_refusesAny 198 = .ok (.aload_n 0, 1) := by decide +kernel
theorem dL_refusesAny_199 : decode cL_refusesAny 199 = .ok (.iload 4, 2) := by decide +kernel
theorem dL_refusesAny_201 : decode cL_refusesAny 201 = .ok (.invokevirtual 43, 3) := by decide +kernel
theorem dL_refusesAny_204 : decode cL_refusesAny 204 = .ok (.ldc 31, 2) := by decide +kernel
theorem dL_refusesAny_206 : decode cL_refusesAny 206 = .ok (.if_icmp .ne 25, 3) := by decide +kernel
theorem dL_refusesAny_209 : decode cL_refusesAny 209 = .ok (.aload_n 0, 1) := by decide +kernel
theorem dL_refusesAny_210 : decode cL_refusesAny 210 = .ok (.iload 4, 2) := by decide +kernel
theorem dL_refusesAny_212 : decode cL_refusesAny 212 = .ok (.invokevirtual 46, 3) := by decide +kernel
theorem dL_refusesAny_215 : decode cL_refusesAny 215 = .ok (.ldc 31, 2) := by decide +kernel
theorem dL_refusesAny_217 : decode cL_refusesAny 217 = .ok (.if_icmp .ne 14, 3) := by decide +kernel
theorem dL_refusesAny_220 : decode cL_refusesAny 220 = .ok (.aload_n 0, 1) := by decide +kernel
theorem dL_refusesAny_221 : decode cL_refusesAny 221 = .ok (.iload 4, 2) := by decide +kernel
theorem dL_refusesAny_223 : decode cL_refusesAny 223 = .ok (.invokevirtual 49, 3) := by decide +kernel
theorem dL_refusesAny_226 : decode cL_refusesAny 226 = .ok (.ldc 31, 2) := by decide +kernel
theorem dL_refusesAny_228 : decode cL_refusesAny 228 = .ok (.if_icmp .eq 5, 3) := by decide +kernel
theorem dL_refusesAny_231 : decode cL_refusesAny 231 = .ok (.iconst 0, 1) := by decide +kernel
theorem dL_refusesAny_232 : decode cL_refusesAny 232 = .ok (.ireturn, 1) := by decide +kernel
theorem dL_refusesAny_233 : decode cL_refusesAny 233 = .ok (.aload_n 0, 1) := by decide +kernel
theorem dL_refusesAny_234 : decode cL_refusesAny 234 = .ok (.iload 4, 2) := by decide +kernel
theorem dL_refusesAny_236 : decode cL_refusesAny 236 = .ok (.iconst 0, 1) := by decide +kernel
theorem dL_refusesAny_237 : decode cL_refusesAny 237 = .ok (.iconst 0, 1) := by decide +kernel
theorem dL_refusesAny_238 : decode cL_refusesAny 238 = .ok (.invokevirtual 13, 3) := by decide +kernel
theorem dL_refusesAny_241 : decode cL_refusesAny 241 = .ok (.ldc 31, 2) := by decide +kernel
theorem dL_refusesAny_243 : decode cL_refusesAny 243 = .ok (.if_icmp .ne 133, 3) := by decide +kernel
theorem dL_refusesAny_246 : decode cL_refusesAny 246 = .ok (.aload_n 0, 1) := by decide +kernel
theorem dL_refusesAny_247 : decode cL_refusesAny 247 = .ok (.iconst 0, 1) := by decide +kernel
theorem dL_refusesAny_248 : decode cL_refusesAny 248 = .ok (.iload_n 2, 1) := by decide +kernel
theorem dL_refusesAny_249 : decode cL_refusesAny 249 = .ok (.iconst 0, 1) := by decide +kernel
theorem dL_refusesAny_250 : decode cL_refusesAny 250 = .ok (.invokevirtual 13, 3) := by decide +kernel
theorem dL_refusesAny_253 : decode cL_refusesAny 253 = .ok (.ldc 31, 2) := by decide +kernel
theorem dL_refusesAny_255 : decode cL_refusesAny 255 = .ok (.if_icmp .ne 121, 3) := by decide +kernel
theorem dL_refusesAny_258 : decode cL_refusesAny 258 = .ok (.aload_n 0, 1) := by decide +kernel
theorem dL_refusesAny_259 : decode cL_refusesAny 259 = .ok (.iconst 0, 1) := by decide +kernel
theorem dL_refusesAny_260 : decode cL_refusesAny 260 = .ok (.iconst 0, 1) := by decide +kernel
theorem dL_refusesAny_261 : decode cL_refusesAny 261 = .ok (.iload_n 1, 1) := by decide +kernel
theorem dL_refusesAny_262 : decode cL_refusesAny 262 = .ok (.ifCond .ge 7, 3) := by decide +kernel
theorem dL_refusesAny_265 : decode cL_refusesAny 265 = .ok (.iconst 4, 1) := by decide +kernel
theorem dL_refusesAny_266 : decode cL_refusesAny 266 = .ok (.goto 5, 3) := by decide +kernel
theorem dL_refusesAny_269 : decode cL_refusesAny 269 = .ok (.bipush 16, 2) := by decide +kernel
theorem dL_refusesAny_271 : decode cL_refusesAny 271 = .ok (.invokevirtual 13, 3) := by decide +kernel
theorem dL_refusesAny_274 : decode cL_refusesAny 274 = .ok (.ldc 31, 2) := by decide +kernel
theorem dL_refusesAny_276 : decode cL_refusesAny 276 = .ok (.if_icmp .ne 100, 3) := by decide +kernel
theorem dL_refusesAny_279 : decode cL_refusesAny 279 = .ok (.aload_n 0, 1) := by decide +kernel
theorem dL_refusesAny_280 : decode cL_refusesAny 280 = .ok (.iload 4, 2) := by decide +kernel
theorem dL_refusesAny_282 : decode cL_refusesAny 282 = .ok (.iconst 0, 1) := by decide +kernel
theorem dL_refusesAny_283 : decode cL_refusesAny 283 = .ok (.iconst 0, 1) := by decide +kernel
theorem dL_refusesAny_284 : decode cL_refusesAny 284 = .ok (.iconst 0, 1) := by decide +kernel
theorem dL_refusesAny_285 : decode cL_refusesAny 285 = .ok (.invokevirtual 52, 3) := by decide +kernel
theorem dL_refusesAny_288 : decode cL_refusesAny 288 = .ok (.ldc 31, 2) := by decide +kernel
theorem dL_refusesAny_290 : decode cL_refusesAny 290 = .ok (.if_icmp .ne 86, 3) := by decide +kernel
theorem dL_refusesAny_293 : decode cL_refusesAny 293 = .ok (.aload_n 0, 1) := by decide +kernel
theorem dL_refusesAny_294 : decode cL_refusesAny 294 = .ok (.iconst 0, 1) := by decide +kernel
theorem dL_refusesAny_295 : decode cL_refusesAny 295 = .ok (.iload 4, 2) := by decide +kernel
theorem dL_refusesAny_297 : decode cL_refusesAny 297 = .ok (.iconst 0, 1) := by decide +kernel
theorem dL_refusesAny_298 : decode cL_refusesAny 298 = .ok (.iconst 0, 1) := by decide +kernel
theorem dL_refusesAny_299 : decode cL_refusesAny 299 = .ok (.invokevirtual 52, 3) := by decide +kernel
theorem dL_refusesAny_302 : decode cL_refusesAny 302 = .ok (.ldc 31, 2) := by decide +kernel
theorem dL_refusesAny_304 : decode cL_refusesAny 304 = .ok (.if_icmp .ne 72, 3) := by decide +kernel
theorem dL_refusesAny_307 : decode cL_refusesAny 307 = .ok (.aload_n 0, 1) := by decide +kernel
theorem dL_refusesAny_308 : decode cL_refusesAny 308 = .ok (.iconst 0, 1) := by decide +kernel
theorem dL_refusesAny_309 : decode cL_refusesAny 309 = .ok (.iconst 0, 1) := by decide +kernel
theorem dL_refusesAny_310 : decode cL_refusesAny 310 = .ok (.iload_n 1, 1) := by decide +kernel
theorem dL_refusesAny_311 : decode cL_refusesAny 311 = .ok (.ifCond .ge 8, 3) := by decide +kernel
theorem dL_refusesAny_314 : decode cL_refusesAny 314 = .ok (.bipush (-2), 2) := by decide +kernel
theorem dL_refusesAny_316 : decode cL_refusesAny 316 = .ok (.goto 5, 3) := by decide +kernel
theorem dL_refusesAny_319 : decode cL_refusesAny 319 = .ok (.bipush 64, 2) := by decide +kernel
theorem dL_refusesAny_321 : decode cL_refusesAny 321 = .ok (.iload_n 1, 1) := by decide +kernel
theorem dL_refusesAny_322 : decode cL_refusesAny 322 = .ok (.ifCond .ge 7, 3) := by decide +kernel
theorem dL_refusesAny_325 : decode cL_refusesAny 325 = .ok (.iconst 0, 1) := by decide +kernel
theorem dL_refusesAny_326 : decode cL_refusesAny 326 = .ok (.goto 4, 3) := by decide +kernel
theorem dL_refusesAny_329 : decode cL_refusesAny 329 = .ok (.iconst 5, 1) := by decide +kernel
theorem dL_refusesAny_330 : decode cL_refusesAny 330 = .ok (.invokevirtual 52, 3) := by decide +kernel
theorem dL_refusesAny_333 : decode cL_refusesAny 333 = .ok (.ldc 31, 2) := by decide +kernel
theorem dL_refusesAny_335 : decode cL_refusesAny 335 = .ok (.if_icmp .ne 41, 3) := by decide +kernel
theorem dL_refusesAny_338 : decode cL_refusesAny 338 = .ok (.aload_n 0, 1) := by decide +kernel
theorem dL_refusesAny_339 : decode cL_refusesAny 339 = .ok (.iconst 0, 1) := by decide +kernel
theorem dL_refusesAny_340 : decode cL_refusesAny 340 = .ok (.iconst 0, 1) := by decide +kernel
theorem dL_refusesAny_341 : decode cL_refusesAny 341 = .ok (.bipush 99, 2) := by decide +kernel
theorem dL_refusesAny_343 : decode cL_refusesAny 343 = .ok (.iload_n 1, 1) := by decide +kernel
theorem dL_refusesAny_344 : decode cL_refusesAny 344 = .ok (.ifCond .ge 8, 3) := by decide +kernel
theorem dL_refusesAny_347 : decode cL_refusesAny 347 = .ok (.bipush 9, 2) := by decide +kernel
theorem dL_refusesAny_349 : decode cL_refusesAny 349 = .ok (.goto 5, 3) := by decide +kernel
theorem dL_refusesAny_352 : decode cL_refusesAny 352 = .ok (.bipush 74, 2) := by decide +kernel
theorem dL_refusesAny_354 : decode cL_refusesAny 354 = .ok (.invokevirtual 52, 3) := by decide +kernel
theorem dL_refusesAny_357 : decode cL_refusesAny 357 = .ok (.ldc 31, 2) := by decide +kernel
theorem dL_refusesAny_359 : decode cL_refusesAny 359 = .ok (.if_icmp .ne 17, 3) := by decide +kernel
theorem dL_refusesAny_362 : decode cL_refusesAny 362 = .ok (.aload_n 0, 1) := by decide +kernel
theorem dL_refusesAny_363 : decode cL_refusesAny 363 = .ok (.iconst 0, 1) := by decide +kernel
theorem dL_refusesAny_364 : decode cL_refusesAny 364 = .ok (.iconst 0, 1) := by decide +kernel
theorem dL_refusesAny_365 : decode cL_refusesAny 365 = .ok (.bipush 64, 2) := by decide +kernel
theorem dL_refusesAny_367 : decode cL_refusesAny 367 = .ok (.iconst 0, 1) := by decide +kernel
theorem dL_refusesAny_368 : decode cL_refusesAny 368 = .ok (.invokevirtual 52, 3) := by decide +kernel
theorem dL_refusesAny_371 : decode cL_refusesAny 371 = .ok (.ldc 55, 2) := by decide +kernel
theorem dL_refusesAny_373 : decode cL_refusesAny 373 = .ok (.if_icmp .eq 5, 3) := by decide +kernel
theorem dL_refusesAny_376 : decode cL_refusesAny 376 = .ok (.iconst 0, 1) := by decide +kernel
theorem dL_refusesAny_377 : decode cL_refusesAny 377 = .ok (.ireturn, 1) := by decide +kernel
theorem dL_refusesAny_378 : decode cL_refusesAny 378 = .ok (.aload_n 0, 1) := by decide +kernel
theorem dL_refusesAny_379 : decode cL_refusesAny 379 = .ok (.iload 4, 2) := by decide +kernel
theorem dL_refusesAny_381 : decode cL_refusesAny 381 = .ok (.iconst 0, 1) := by decide +kernel
theorem dL_refusesAny_382 : decode cL_refusesAny 382 = .ok (.iconst 0, 1) := by decide +kernel
theorem dL_refusesAny_383 : decode cL_refusesAny 383 = .ok (.invokevirtual 19, 3) := by decide +kernel
theorem dL_refusesAny_386 : decode cL_refusesAny 386 = .ok (.ldc 31, 2) := by decide +kernel
theorem dL_refusesAny_388 : decode cL_refusesAny 388 = .ok (.if_icmp .ne 89, 3) := by decide +kernel
theorem dL_refusesAny_391 : decode cL_refusesAny 391 = .ok (.aload_n 0, 1) := by decide +kernel
theorem dL_refusesAny_392 : decode cL_refusesAny 392 = .ok (.iconst 0, 1) := by decide +kernel
theorem dL_refusesAny_393 : decode cL_refusesAny 393 = .ok (.iload 4, 2) := by decide +kernel
theorem dL_refusesAny_395 : decode cL_refusesAny 395 = .ok (.iconst 0, 1) := by decide +kernel
theorem dL_refusesAny_396 : decode cL_refusesAny 396 = .ok (.invokevirtual 19, 3) := by decide +kernel
theorem dL_refusesAny_399 : decode cL_refusesAny 399 = .ok (.ldc 31, 2) := by decide +kernel
theorem dL_refusesAny_401 : decode cL_refusesAny 401 = .ok (.if_icmp .ne 76, 3) := by decide +kernel
theorem dL_refusesAny_404 : decode cL_refusesAny 404 = .ok (.aload_n 0, 1) := by decide +kernel
theorem dL_refusesAny_405 : decode cL_refusesAny 405 = .ok (.iconst 0, 1) := by decide +kernel
theorem dL_refusesAny_406 : decode cL_refusesAny 406 = .ok (.iconst 0, 1) := by decide +kernel
theorem dL_refusesAny_407 : decode cL_refusesAny 407 = .ok (.iload_n 1, 1) := by decide +kernel
theorem dL_refusesAny_408 : decode cL_refusesAny 408 = .ok (.ifCond .ge 7, 3) := by decide +kernel
theorem dL_refusesAny_411 : decode cL_refusesAny 411 = .ok (.iconst (-1), 1) := by decide +kernel
theorem dL_refusesAny_412 : decode cL_refusesAny 412 = .ok (.goto 5, 3) := by decide +kernel
theorem dL_refusesAny_415 : decode cL_refusesAny 415 = .ok (.bipush 7, 2) := by decide +kernel
theorem dL_refusesAny_417 : decode cL_refusesAny 417 = .ok (.invokevirtual 19, 3) := by decide +kernel
theorem dL_refusesAny_420 : decode cL_refusesAny 420 = .ok (.ldc 31, 2) := by decide +kernel
theorem dL_refusesAny_422 : decode cL_refusesAny 422 = .ok (.if_icmp .ne 55, 3) := by decide +kernel
theorem dL_refusesAny_425 : decode cL_refusesAny 425 = .ok (.aload_n 0, 1) := by decide +kernel
theorem dL_refusesAny_426 : decode cL_refusesAny 426 = .ok (.iload 4, 2) := by decide +kernel
theorem dL_refusesAny_428 : decode cL_refusesAny 428 = .ok (.iconst 0, 1) := by decide +kernel
theorem dL_refusesAny_429 : decode cL_refusesAny 429 = .ok (.invokevirtual 56, 3) := by decide +kernel
theorem dL_refusesAny_432 : decode cL_refusesAny 432 = .ok (.ldc2_w 60, 3) := by decide +kernel
theorem dL_refusesAny_435 : decode cL_refusesAny 435 = .ok (.lcmp, 1) := by decide +kernel
theorem dL_refusesAny_436 : decode cL_refusesAny 436 = .ok (.ifCond .ne 41, 3) := by decide +kernel
theorem dL_refusesAny_439 : decode cL_refusesAny 439 = .ok (.aload_n 0, 1) := by decide +kernel
theorem dL_refusesAny_440 : decode cL_refusesAny 440 = .ok (.iconst 0, 1) := by decide +kernel
theorem dL_refusesAny_441 : decode cL_refusesAny 441 = .ok (.iload 4, 2) := by decide +kernel
theorem dL_refusesAny_443 : decode cL_refusesAny 443 = .ok (.invokevirtual 56, 3) := by decide +kernel
theorem dL_refusesAny_446 : decode cL_refusesAny 446 = .ok (.ldc2_w 60, 3) := by decide +kernel
theorem dL_refusesAny_449 : decode cL_refusesAny 449 = .ok (.lcmp, 1) := by decide +kernel
theorem dL_refusesAny_450 : decode cL_refusesAny 450 = .ok (.ifCond .ne 27, 3) := by decide +kernel
theorem dL_refusesAny_453 : decode cL_refusesAny 453 = .ok (.aload_n 0, 1) := by decide +kernel
theorem dL_refusesAny_454 : decode cL_refusesAny 454 = .ok (.iload 4, 2) := by decide +kernel
theorem dL_refusesAny_456 : decode cL_refusesAny 456 = .ok (.iconst 0, 1) := by decide +kernel
theorem dL_refusesAny_457 : decode cL_refusesAny 457 = .ok (.invokevirtual 62, 3) := by decide +kernel
theorem dL_refusesAny_460 : decode cL_refusesAny 460 = .ok (.ldc 31, 2) := by decide +kernel
theorem dL_refusesAny_462 : decode cL_refusesAny 462 = .ok (.if_icmp .ne 15, 3) := by decide +kernel
theorem dL_refusesAny_465 : decode cL_refusesAny 465 = .ok (.aload_n 0, 1) := by decide +kernel
theorem dL_refusesAny_466 : decode cL_refusesAny 466 = .ok (.iconst 0, 1) := by decide +kernel
theorem dL_refusesAny_467 : decode cL_refusesAny 467 = .ok (.iload 4, 2) := by decide +kernel
theorem dL_refusesAny_469 : decode cL_refusesAny 469 = .ok (.invokevirtual 62, 3) := by decide +kernel
theorem dL_refusesAny_472 : decode cL_refusesAny 472 = .ok (.ldc 31, 2) := by decide +kernel
theorem dL_refusesAny_474 : decode cL_refusesAny 474 = .ok (.if_icmp .eq 5, 3) := by decide +kernel
theorem dL_refusesAny_477 : decode cL_refusesAny 477 = .ok (.iconst 0, 1) := by decide +kernel
theorem dL_refusesAny_478 : decode cL_refusesAny 478 = .ok (.ireturn, 1) := by decide +kernel
theorem dL_refusesAny_479 : decode cL_refusesAny 479 = .ok (.aload_n 0, 1) := by decide +kernel
theorem dL_refusesAny_480 : decode cL_refusesAny 480 = .ok (.iload 4, 2) := by decide +kernel
theorem dL_refusesAny_482 : decode cL_refusesAny 482 = .ok (.iconst 0, 1) := by decide +kernel
theorem dL_refusesAny_483 : decode cL_refusesAny 483 = .ok (.iconst 0, 1) := by decide +kernel
theorem dL_refusesAny_484 : decode cL_refusesAny 484 = .ok (.invokevirtual 65, 3) := by decide +kernel
theorem dL_refusesAny_487 : decode cL_refusesAny 487 = .ok (.ldc 31, 2) := by decide +kernel
theorem dL_refusesAny_489 : decode cL_refusesAny 489 = .ok (.if_icmp .ne 110, 3) := by decide +kernel
theorem dL_refusesAny_492 : decode cL_refusesAny 492 = .ok (.aload_n 0, 1) := by decide +kernel
theorem dL_refusesAny_493 : decode cL_refusesAny 493 = .ok (.iconst 0, 1) := by decide +kernel
theorem dL_refusesAny_494 : decode cL_refusesAny 494 = .ok (.iload 4, 2) := by decide +kernel
theorem dL_refusesAny_496 : decode cL_refusesAny 496 = .ok (.iconst 0, 1) := by decide +kernel
theorem dL_refusesAny_497 : decode cL_refusesAny 497 = .ok (.invokevirtual 65, 3) := by decide +kernel
theorem dL_refusesAny_500 : decode cL_refusesAny 500 = .ok (.ldc 31, 2) := by decide +kernel
theorem dL_refusesAny_502 : decode cL_refusesAny 502 = .ok (.if_icmp .ne 97, 3) := by decide +kernel
theorem dL_refusesAny_505 : decode cL_refusesAny 505 = .ok (.aload_n 0, 1) := by decide +kernel
theorem dL_refusesAny_506 : decode cL_refusesAny 506 = .ok (.iconst 0, 1) := by decide +kernel
theorem dL_refusesAny_507 : decode cL_refusesAny 507 = .ok (.iconst 0, 1) := by decide +kernel
theorem dL_refusesAny_508 : decode cL_refusesAny 508 = .ok (.iload_n 1, 1) := by decide +kernel
theorem dL_refusesAny_509 : decode cL_refusesAny 509 = .ok (.ifCond .ge 7, 3) := by decide +kernel
theorem dL_refusesAny_512 : decode cL_refusesAny 512 = .ok (.iconst 5, 1) := by decide +kernel
theorem dL_refusesAny_513 : decode cL_refusesAny 513 = .ok (.goto 5, 3) := by decide +kernel
theorem dL_refusesAny_516 : decode cL_refusesAny 516 = .ok (.bipush 74, 2) := by decide +kernel
theorem dL_refusesAny_518 : decode cL_refusesAny 518 = .ok (.invokevirtual 65, 3) := by decide +kernel
theorem dL_refusesAny_521 : decode cL_refusesAny 521 = .ok (.ldc 31, 2) := by decide +kernel
theorem dL_refusesAny_523 : decode cL_refusesAny 523 = .ok (.if_icmp .ne 76, 3) := by decide +kernel
theorem dL_refusesAny_526 : decode cL_refusesAny 526 = .ok (.aload_n 0, 1) := by decide +kernel
theorem dL_refusesAny_527 : decode cL_refusesAny 527 = .ok (.iload_n 1, 1) := by decide +kernel
theorem dL_refusesAny_528 : decode cL_refusesAny 528 = .ok (.ifCond .ge 7, 3) := by decide +kernel
theorem dL_refusesAny_531 : decode cL_refusesAny 531 = .ok (.iconst 4, 1) := by decide +kernel
theorem dL_refusesAny_532 : decode cL_refusesAny 532 = .ok (.goto 5, 3) := by decide +kernel
theorem dL_refusesAny_535 : decode cL_refusesAny 535 = .ok (.bipush 19, 2) := by decide +kernel
theorem dL_refusesAny_537 : decode cL_refusesAny 537 = .ok (.invokevirtual 22, 3) := by decide +kernel
theorem dL_refusesAny_540 : decode cL_refusesAny 540 = .ok (.ldc 31, 2) := by decide +kernel
theorem dL_refusesAny_542 : decode cL_refusesAny 542 = .ok (.if_icmp .ne 57, 3) := by decide +kernel
theorem dL_refusesAny_545 : decode cL_refusesAny 545 = .ok (.aload_n 0, 1) := by decide +kernel
theorem dL_refusesAny_546 : decode cL_refusesAny 546 = .ok (.iload_n 1, 1) := by decide +kernel
theorem dL_refusesAny_547 : decode cL_refusesAny 547 = .ok (.ifCond .ge 7, 3) := by decide +kernel
theorem dL_refusesAny_550 : decode cL_refusesAny 550 = .ok (.iconst (-1), 1) := by decide +kernel
theorem dL_refusesAny_551 : decode cL_refusesAny 551 = .ok (.goto 5, 3) := by decide +kernel
theorem dL_refusesAny_554 : decode cL_refusesAny 554 = .ok (.bipush 9, 2) := by decide +kernel
theorem dL_refusesAny_556 : decode cL_refusesAny 556 = .ok (.invokevirtual 22, 3) := by decide +kernel
theorem dL_refusesAny_559 : decode cL_refusesAny 559 = .ok (.ldc 31, 2) := by decide +kernel
theorem dL_refusesAny_561 : decode cL_refusesAny 561 = .ok (.if_icmp .ne 38, 3) := by decide +kernel
theorem dL_refusesAny_564 : decode cL_refusesAny 564 = .ok (.aload_n 0, 1) := by decide +kernel
theorem dL_refusesAny_565 : decode cL_refusesAny 565 = .ok (.iload_n 1, 1) := by decide +kernel
theorem dL_refusesAny_566 : decode cL_refusesAny 566 = .ok (.ifCond .ge 8, 3) := by decide +kernel
theorem dL_refusesAny_569 : decode cL_refusesAny 569 = .ok (.bipush 31, 2) := by decide +kernel
theorem dL_refusesAny_571 : decode cL_refusesAny 571 = .ok (.goto 5, 3) := by decide +kernel
theorem dL_refusesAny_574 : decode cL_refusesAny 574 = .ok (.bipush 127, 2) := by decide +kernel
theorem dL_refusesAny_576 : decode cL_refusesAny 576 = .ok (.invokevirtual 68, 3) := by decide +kernel
theorem dL_refusesAny_579 : decode cL_refusesAny 579 = .ok (.ldc 31, 2) := by decide +kernel
theorem dL_refusesAny_581 : decode cL_refusesAny 581 = .ok (.if_icmp .ne 18, 3) := by decide +kernel
theorem dL_refusesAny_584 : decode cL_refusesAny 584 = .ok (.aload_n 0, 1) := by decide +kernel
theorem dL_refusesAny_585 : decode cL_refusesAny 585 = .ok (.iload 4, 2) := by decide +kernel
theorem dL_refusesAny_587 : decode cL_refusesAny 587 = .ok (.invokevirtual 71, 3) := by decide +kernel
theorem dL_refusesAny_590 : decode cL_refusesAny 590 = .ok (.ldc 31, 2) := by decide +kernel
theorem dL_refusesAny_592 : decode cL_refusesAny 592 = .ok (.if_icmp .ne 7, 3) := by decide +kernel
theorem dL_refusesAny_595 : decode cL_refusesAny 595 = .ok (.iconst 1, 1) := by decide +kernel
theorem dL_refusesAny_596 : decode cL_refusesAny 596 = .ok (.goto 4, 3) := by decide +kernel
theorem dL_refusesAny_599 : decode cL_refusesAny 599 = .ok (.iconst 0, 1) := by decide +kernel
theorem dL_refusesAny_600 : decode cL_refusesAny 600 = .ok (.ireturn, 1) := by decide +kernel
theorem dL_refused_0 : decode cL_refused 0 = .ok (.aload_n 0, 1) := by decide +kernel
theorem dL_refused_1 : decode cL_refused 1 = .ok (.invokestatic 74, 3) := by decide +kernel
theorem dL_refused_4 : decode cL_refused 4 = .ok (.lstore_n 1, 1) := by decide +kernel
theorem dL_refused_5 : decode cL_refused 5 = .ok (.aload_n 0, 1) := by decide +kernel
theorem dL_refused_6 : decode cL_refused 6 = .ok (.iconst 2, 1) := by decide +kernel
theorem dL_refused_7 : decode cL_refused 7 = .ok (.invokevirtual 22, 3) := by decide +kernel
theorem dL_refused_10 : decode cL_refused 10 = .ok (.istore_n 3, 1) := by decide +kernel
theorem dL_refused_11 : decode cL_refused 11 = .ok (.aload_n 0, 1) := by decide +kernel
theorem dL_refused_12 : decode cL_refused 12 = .ok (.iconst 3, 1) := by decide +kernel
theorem dL_refused_13 : decode cL_refused 13 = .ok (.invokevirtual 22, 3) := by decide +kernel
theorem dL_refused_16 : decode cL_refused 16 = .ok (.istore 4, 2) := by decide +kernel
theorem dL_refused_18 : decode cL_refused 18 = .ok (.aload_n 0, 1) := by decide +kernel
theorem dL_refused_19 : decode cL_refused 19 = .ok (.iconst (-1), 1) := by decide +kernel
theorem dL_refused_20 : decode cL_refused 20 = .ok (.invokestatic 78, 3) := by decide +kernel
theorem dL_refused_23 : decode cL_refused 23 = .ok (.ifCond .eq 43, 3) := by decide +kernel
theorem dL_refused_26 : decode cL_refused 26 = .ok (.aload_n 0, 1) := by decide +kernel
theorem dL_refused_27 : decode cL_refused 27 = .ok (.iconst 1, 1) := by decide +kernel
theorem dL_refused_28 : decode cL_refused 28 = .ok (.invokestatic 78, 3) := by decide +kernel
theorem dL_refused_31 : decode cL_refused 31 = .ok (.ifCond .eq 35, 3) := by decide +kernel
theorem dL_refused_34 : decode cL_refused 34 = .ok (.aload_n 0, 1) := by decide +kernel
theorem dL_refused_35 : decode cL_refused 35 = .ok (.invokestatic 74, 3) := by decide +kernel
theorem dL_refused_38 : decode cL_refused 38 = .ok (.lload_n 1, 1) := by decide +kernel
theorem dL_refused_39 : decode cL_refused 39 = .ok (.lcmp, 1) := by decide +kernel
theorem dL_refused_40 : decode cL_refused 40 = .ok (.ifCond .ne 26, 3) := by decide +kernel
theorem dL_refused_43 : decode cL_refused 43 = .ok (.aload_n 0, 1) := by decide +kernel
theorem dL_refused_44 : decode cL_refused 44 = .ok (.iconst 2, 1) := by decide +kernel
theorem dL_refused_45 : decode cL_refused 45 = .ok (.invokevirtual 22, 3) := by decide +kernel
theorem dL_refused_48 : decode cL_refused 48 = .ok (.iload_n 3, 1) := by decide +kernel
theorem dL_refused_49 : decode cL_refused 49 = .ok (.if_icmp .ne 17, 3) := by decide +kernel
theorem dL_refused_52 : decode cL_refused 52 = .ok (.aload_n 0, 1) := by decide +kernel
theorem dL_refused_53 : decode cL_refused 53 = .ok (.iconst 3, 1) := by decide +kernel
theorem dL_refused_54 : decode cL_refused 54 = .ok (.invokevirtual 22, 3) := by decide +kernel
theorem dL_refused_57 : decode cL_refused 57 = .ok (.iload 4, 2) := by decide +kernel
theorem dL_refused_59 : decode cL_refused 59 = .ok (.if_icmp .ne 7, 3) := by decide +kernel
theorem dL_refused_62 : decode cL_refused 62 = .ok (.iconst 1, 1) := by decide +kernel
theorem dL_refused_63 : decode cL_refused 63 = .ok (.goto 4, 3) := by decide +kernel
theorem dL_refused_66 : decode cL_refused 66 = .ok (.iconst 0, 1) := by decide +kernel
theorem dL_refused_67 : decode cL_refused 67 = .ok (.ireturn, 1) := by decide +kernel
theorem dL_puts_0 : decode cL_puts 0 = .ok (.iconst 1, 1) := by decide +kernel
theorem dL_puts_1 : decode cL_puts 1 = .ok (.istore_n 3, 1) := by decide +kernel
theorem dL_puts_2 : decode cL_puts 2 = .ok (.bipush 56, 2) := by decide +kernel
theorem dL_puts_4 : decode cL_puts 4 = .ok (.istore 4, 2) := by decide +kernel
theorem dL_puts_6 : decode cL_puts 6 = .ok (.iload 4, 2) := by decide +kernel
theorem dL_puts_8 : decode cL_puts 8 = .ok (.ifCond .lt 44, 3) := by decide +kernel
theorem dL_puts_11 : decode cL_puts 11 = .ok (.lload_n 1, 1) := by decide +kernel
theorem dL_puts_12 : decode cL_puts 12 = .ok (.iload 4, 2) := by decide +kernel
theorem dL_puts_14 : decode cL_puts 14 = .ok (.lshr, 1) := by decide +kernel
theorem dL_puts_15 : decode cL_puts 15 = .ok (.ldc2_w 82, 3) := by decide +kernel
theorem dL_puts_18 : decode cL_puts 18 = .ok (.land, 1) := by decide +kernel
theorem dL_puts_19 : decode cL_puts 19 = .ok (.l2i, 1) := by decide +kernel
theorem dL_puts_20 : decode cL_puts 20 = .ok (.istore 5, 2) := by decide +kernel
theorem dL_puts_22 : decode cL_puts 22 = .ok (.iload 5, 2) := by decide +kernel
theorem dL_puts_24 : decode cL_puts 24 = .ok (.ifCond .le 22, 3) := by decide +kernel
theorem dL_puts_27 : decode cL_puts 27 = .ok (.iload_n 3, 1) := by decide +kernel
theorem dL_puts_28 : decode cL_puts 28 = .ok (.ifCond .eq 16, 3) := by decide +kernel
theorem dL_puts_31 : decode cL_puts 31 = .ok (.aload_n 0, 1) := by decide +kernel
theorem dL_puts_32 : decode cL_puts 32 = .ok (.iload 5, 2) := by decide +kernel
theorem dL_puts_34 : decode cL_puts 34 = .ok (.invokevirtual 68, 3) := by decide +kernel
theorem dL_puts_37 : decode cL_puts 37 = .ok (.ifCond .le 7, 3) := by decide +kernel
theorem dL_puts_40 : decode cL_puts 40 = .ok (.iconst 1, 1) := by decide +kernel
theorem dL_puts_41 : decode cL_puts 41 = .ok (.goto 4, 3) := by decide +kernel
theorem dL_puts_44 : decode cL_puts 44 = .ok (.iconst 0, 1) := by decide +kernel
theorem dL_puts_45 : decode cL_puts 45 = .ok (.istore_n 3, 1) := by decide +kernel
theorem dL_puts_46 : decode cL_puts 46 = .ok (.iinc 4 (-8), 3) := by decide +kernel
theorem dL_puts_49 : decode cL_puts 49 = .ok (.goto (-43), 3) := by decide +kernel
theorem dL_puts_52 : decode cL_puts 52 = .ok (.iload_n 3, 1) := by decide +kernel
theorem dL_puts_53 : decode cL_puts 53 = .ok (.ireturn, 1) := by decide +kernel
theorem dL_faultOf_0 : decode cL_faultOf 0 = .ok (.new 14, 3) := by decide +kernel
theorem dL_faultOf_3 : decode cL_faultOf 3 = .ok (.dup, 1) := by decide +kernel
theorem dL_faultOf_4 : decode cL_faultOf 4 = .ok (.invokespecial 84, 3) := by decide +kernel
theorem dL_faultOf_7 : decode cL_faultOf 7 = .ok (.astore 4, 2) := by decide +kernel
theorem dL_faultOf_9 : decode cL_faultOf 9 = .ok (.aload 4, 2) := by decide +kernel
theorem dL_faultOf_11 : decode cL_faultOf 11 = .ok (.lload_n 0, 1) := by decide +kernel
theorem dL_faultOf_12 : decode cL_faultOf 12 = .ok (.invokestatic 85, 3) := by decide +kernel
theorem dL_faultOf_15 : decode cL_faultOf 15 = .ok (.ifCond .eq 12, 3) := by decide +kernel
theorem dL_faultOf_18 : decode cL_faultOf 18 = .ok (.aload 4, 2) := by decide +kernel
theorem dL_faultOf_20 : decode cL_faultOf 20 = .ok (.lload_n 2, 1) := by decide +kernel
theorem dL_faultOf_21 : decode cL_faultOf 21 = .ok (.invokestatic 85, 3) := by decide +kernel
theorem dL_faultOf_24 : decode cL_faultOf 24 = .ok (.ifCond .ne 6, 3) := by decide +kernel
theorem dL_faultOf_27 : decode cL_faultOf 27 = .ok (.bipush (-99), 2) := by decide +kernel
theorem dL_faultOf_29 : decode cL_faultOf 29 = .ok (.ireturn, 1) := by decide +kernel
theorem dL_faultOf_30 : decode cL_faultOf 30 = .ok (.aload 4, 2) := by decide +kernel
theorem dL_faultOf_32 : decode cL_faultOf 32 = .ok (.iconst 0, 1) := by decide +kernel
theorem dL_faultOf_33 : decode cL_faultOf 33 = .ok (.invokevirtual 71, 3) := by decide +kernel
theorem dL_faultOf_36 : decode cL_faultOf 36 = .ok (.istore 5, 2) := by decide +kernel
theorem dL_faultOf_38 : decode cL_faultOf 38 = .ok (.iload 5, 2) := by decide +kernel
theorem dL_faultOf_40 : decode cL_faultOf 40 = .ok (.ifCond .ge 33, 3) := by decide +kernel
theorem dL_faultOf_43 : decode cL_faultOf 43 = .ok (.aload 4, 2) := by decide +kernel
theorem dL_faultOf_45 : decode cL_faultOf 45 = .ok (.iconst 1, 1) := by decide +kernel
theorem dL_faultOf_46 : decode cL_faultOf 46 = .ok (.invokevirtual 71, 3) := by decide +kernel
theorem dL_faultOf_49 : decode cL_faultOf 49 = .ok (.ldc 55, 2) := by decide +kernel
theorem dL_faultOf_51 : decode cL_faultOf 51 = .ok (.if_icmp .ne 19, 3) := by decide +kernel
theorem dL_faultOf_54 : decode cL_faultOf 54 = .ok (.aload 4, 2) := by decide +kernel
theorem dL_faultOf_56 : decode cL_faultOf 56 = .ok (.iconst 2, 1) := by decide +kernel
theorem dL_faultOf_57 : decode cL_faultOf 57 = .ok (.invokevirtual 71, 3) := by decide +kernel
theorem dL_faultOf_60 : decode cL_faultOf 60 = .ok (.ldc 55, 2) := by decide +kernel
theorem dL_faultOf_62 : decode cL_faultOf 62 = .ok (.if_icmp .ne 8, 3) := by decide +kernel
theorem dL_faultOf_65 : decode cL_faultOf 65 = .ok (.iload 5, 2) := by decide +kernel
theorem dL_faultOf_67 : decode cL_faultOf 67 = .ok (.goto 5, 3) := by decide +kernel
theorem dL_faultOf_70 : decode cL_faultOf 70 = .ok (.bipush (-98), 2) := by decide +kernel
theorem dL_faultOf_72 : decode cL_faultOf 72 = .ok (.ireturn, 1) := by decide +kernel
theorem dL_faultOf_73 : decode cL_faultOf 73 = .ok (.aload 4, 2) := by decide +kernel
theorem dL_faultOf_75 : decode cL_faultOf 75 = .ok (.iconst 1, 1) := by decide +kernel
theorem dL_faultOf_76 : decode cL_faultOf 76 = .ok (.invokevirtual 49, 3) := by decide +kernel
theorem dL_faultOf_79 : decode cL_faultOf 79 = .ok (.ldc 89, 2) := by decide +kernel
theorem dL_faultOf_81 : decode cL_faultOf 81 = .ok (.if_icmp .ne 12, 3) := by decide +kernel
theorem dL_faultOf_84 : decode cL_faultOf 84 = .ok (.aload 4, 2) := by decide +kernel
theorem dL_faultOf_86 : decode cL_faultOf 86 = .ok (.iconst 2, 1) := by decide +kernel
theorem dL_faultOf_87 : decode cL_faultOf 87 = .ok (.invokevirtual 22, 3) := by decide +kernel
theorem dL_faultOf_90 : decode cL_faultOf 90 = .ok (.ifCond .eq 6, 3) := by decide +kernel
theorem dL_faultOf_93 : decode cL_faultOf 93 = .ok (.bipush (-97), 2) := by decide +kernel
theorem dL_faultOf_95 : decode cL_faultOf 95 = .ok (.ireturn, 1) := by decide +kernel
theorem dL_faultOf_96 : decode cL_faultOf 96 = .ok (.sipush 10000, 3) := by decide +kernel
theorem dL_faultOf_99 : decode cL_faultOf 99 = .ok (.iload 5, 2) := by decide +kernel
theorem dL_faultOf_101 : decode cL_faultOf 101 = .ok (.imul, 1) := by decide +kernel
theorem dL_faultOf_102 : decode cL_faultOf 102 = .ok (.bipush 100, 2) := by decide +kernel
theorem dL_faultOf_104 : decode cL_faultOf 104 = .ok (.aload 4, 2) := by decide +kernel
theorem dL_faultOf_106 : decode cL_faultOf 106 = .ok (.iconst 1, 1) := by decide +kernel
theorem dL_faultOf_107 : decode cL_faultOf 107 = .ok (.invokevirtual 71, 3) := by decide +kernel
theorem dL_faultOf_110 : decode cL_faultOf 110 = .ok (.imul, 1) := by decide +kernel
theorem dL_faultOf_111 : decode cL_faultOf 111 = .ok (.iadd, 1) := by decide +kernel
theorem dL_faultOf_112 : decode cL_faultOf 112 = .ok (.aload 4, 2) := by decide +kernel
theorem dL_faultOf_114 : decode cL_faultOf 114 = .ok (.iconst 2, 1) := by decide +kernel
theorem dL_faultOf_115 : decode cL_faultOf 115 = .ok (.invokevirtual 71, 3) := by decide +kernel
theorem dL_faultOf_118 : decode cL_faultOf 118 = .ok (.ldc 55, 2) := by decide +kernel
theorem dL_faultOf_120 : decode cL_faultOf 120 = .ok (.if_icmp .ne 8, 3) := by decide +kernel
theorem dL_faultOf_123 : decode cL_faultOf 123 = .ok (.bipush 99, 2) := by decide +kernel
theorem dL_faultOf_125 : decode cL_faultOf 125 = .ok (.goto 9, 3) := by decide +kernel
theorem dL_faultOf_128 : decode cL_faultOf 128 = .ok (.aload 4, 2) := by decide +kernel
theorem dL_faultOf_130 : decode cL_faultOf 130 = .ok (.iconst 2, 1) := by decide +kernel
theorem dL_faultOf_131 : decode cL_faultOf 131 = .ok (.invokevirtual 71, 3) := by decide +kernel
theorem dL_faultOf_134 : decode cL_faultOf 134 = .ok (.iadd, 1) := by decide +kernel
theorem dL_faultOf_135 : decode cL_faultOf 135 = .ok (.ireturn, 1) := by decide +kernel
theorem dL_texts_0 : decode cL_texts 0 = .ok (.lconst 0, 1) := by decide +kernel
theorem dL_texts_1 : decode cL_texts 1 = .ok (.lconst 0, 1) := by decide +kernel
theorem dL_texts_2 : decode cL_texts 2 = .ok (.invokestatic 90, 3) := by decide +kernel
theorem dL_texts_5 : decode cL_texts 5 = .ok (.ldc 55, 2) := by decide +kernel
theorem dL_texts_7 : decode cL_texts 7 = .ok (.if_icmp .ne 99, 3) := by decide +kernel
theorem dL_texts_10 : decode cL_texts 10 = .ok (.ldc2_w 94, 3) := by decide +kernel
theorem dL_texts_13 : decode cL_texts 13 = .ok (.lconst 0, 1) := by decide +kernel
theorem dL_texts_14 : decode cL_texts 14 = .ok (.invokestatic 90, 3) := by decide +kernel
theorem dL_texts_17 : decode cL_texts 17 = .ok (.bipush 100, 2) := by decide +kernel
theorem dL_texts_19 : decode cL_texts 19 = .ok (.if_icmp .ne 87, 3) := by decide +kernel
theorem dL_texts_22 : decode cL_texts 22 = .ok (.ldc2_w 96, 3) := by decide +kernel
theorem dL_texts_25 : decode cL_texts 25 = .ok (.lconst 0, 1) := by decide +kernel
theorem dL_texts_26 : decode cL_texts 26 = .ok (.invokestatic 90, 3) := by decide +kernel
theorem dL_texts_29 : decode cL_texts 29 = .ok (.bipush 101, 2) := by decide +kernel
theorem dL_texts_31 : decode cL_texts 31 = .ok (.if_icmp .ne 75, 3) := by decide +kernel
theorem dL_texts_34 : decode cL_texts 34 = .ok (.ldc2_w 98, 3) := by decide +kernel
theorem dL_texts_37 : decode cL_texts 37 = .ok (.lconst 0, 1) := by decide +kernel
theorem dL_texts_38 : decode cL_texts 38 = .ok (.invokestatic 90, 3) := by decide +kernel
theorem dL_texts_41 : decode cL_texts 41 = .ok (.bipush 102, 2) := by decide +kernel
theorem dL_texts_43 : decode cL_texts 43 = .ok (.if_icmp .ne 63, 3) := by decide +kernel
theorem dL_texts_46 : decode cL_texts 46 = .ok (.ldc2_w 100, 3) := by decide +kernel
theorem dL_texts_49 : decode cL_texts 49 = .ok (.lconst 0, 1) := by decide +kernel
theorem dL_texts_50 : decode cL_texts 50 = .ok (.invokestatic 90, 3) := by decide +kernel
theorem dL_texts_53 : decode cL_texts 53 = .ok (.bipush 103, 2) := by decide +kernel
theorem dL_texts_55 : decode cL_texts 55 = .ok (.if_icmp .ne 51, 3) := by decide +kernel
theorem dL_texts_58 : decode cL_texts 58 = .ok (.ldc2_w 102, 3) := by decide +kernel
theorem dL_texts_61 : decode cL_texts 61 = .ok (.lconst 0, 1) := by decide +kernel
theorem dL_texts_62 : decode cL_texts 62 = .ok (.invokestatic 90, 3) := by decide +kernel
theorem dL_texts_65 : decode cL_texts 65 = .ok (.bipush 102, 2) := by decide +kernel
theorem dL_texts_67 : decode cL_texts 67 = .ok (.if_icmp .ne 39, 3) := by decide +kernel
theorem dL_texts_70 : decode cL_texts 70 = .ok (.ldc2_w 104, 3) := by decide +kernel
theorem dL_texts_73 : decode cL_texts 73 = .ok (.lconst 0, 1) := by decide +kernel
theorem dL_texts_74 : decode cL_texts 74 = .ok (.invokestatic 90, 3) := by decide +kernel
theorem dL_texts_77 : decode cL_texts 77 = .ok (.bipush 103, 2) := by decide +kernel
theorem dL_texts_79 : decode cL_texts 79 = .ok (.if_icmp .ne 27, 3) := by decide +kernel
theorem dL_texts_82 : decode cL_texts 82 = .ok (.ldc2_w 106, 3) := by decide +kernel
theorem dL_texts_85 : decode cL_texts 85 = .ok (.lconst 0, 1) := by decide +kernel
theorem dL_texts_86 : decode cL_texts 86 = .ok (.invokestatic 90, 3) := by decide +kernel
theorem dL_texts_89 : decode cL_texts 89 = .ok (.bipush 102, 2) := by decide +kernel
theorem dL_texts_91 : decode cL_texts 91 = .ok (.if_icmp .ne 15, 3) := by decide +kernel
theorem dL_texts_94 : decode cL_texts 94 = .ok (.ldc2_w 108, 3) := by decide +kernel
theorem dL_texts_97 : decode cL_texts 97 = .ok (.lconst 0, 1) := by decide +kernel
theorem dL_texts_98 : decode cL_texts 98 = .ok (.invokestatic 90, 3) := by decide +kernel
theorem dL_texts_101 : decode cL_texts 101 = .ok (.ldc 55, 2) := by decide +kernel
theorem dL_texts_103 : decode cL_texts 103 = .ok (.if_icmp .eq 5, 3) := by decide +kernel
theorem dL_texts_106 : decode cL_texts 106 = .ok (.iconst 0, 1) := by decide +kernel
theorem dL_texts_107 : decode cL_texts 107 = .ok (.ireturn, 1) := by decide +kernel
theorem dL_texts_108 : decode cL_texts 108 = .ok (.ldc2_w 110, 3) := by decide +kernel
theorem dL_texts_111 : decode cL_texts 111 = .ok (.lconst 0, 1) := by decide +kernel
theorem dL_texts_112 : decode cL_texts 112 = .ok (.invokestatic 90, 3) := by decide +kernel
theorem dL_texts_115 : decode cL_texts 115 = .ok (.sipush 30299, 3) := by decide +kernel
theorem dL_texts_118 : decode cL_texts 118 = .ok (.if_icmp .ne 75, 3) := by decide +kernel
theorem dL_texts_121 : decode cL_texts 121 = .ok (.ldc2_w 112, 3) := by decide +kernel
theorem dL_texts_124 : decode cL_texts 124 = .ok (.ldc2_w 114, 3) := by decide +kernel
theorem dL_texts_127 : decode cL_texts 127 = .ok (.invokestatic 90, 3) := by decide +kernel
theorem dL_texts_130 : decode cL_texts 130 = .ok (.sipush 30301, 3) := by decide +kernel
theorem dL_texts_133 : decode cL_texts 133 = .ok (.if_icmp .ne 60, 3) := by decide +kernel
theorem dL_texts_136 : decode cL_texts 136 = .ok (.ldc2_w 116, 3) := by decide +kernel
theorem dL_texts_139 : decode cL_texts 139 = .ok (.ldc2_w 118, 3) := by decide +kernel
theorem dL_texts_142 : decode cL_texts 142 = .ok (.invokestatic 90, 3) := by decide +kernel
theorem dL_texts_145 : decode cL_texts 145 = .ok (.sipush 30299, 3) := by decide +kernel
theorem dL_texts_148 : decode cL_texts 148 = .ok (.if_icmp .ne 45, 3) := by decide +kernel
theorem dL_texts_151 : decode cL_texts 151 = .ok (.ldc2_w 120, 3) := by decide +kernel
theorem dL_texts_154 : decode cL_texts 154 = .ok (.lconst 0, 1) := by decide +kernel
theorem dL_texts_155 : decode cL_texts 155 = .ok (.invokestatic 90, 3) := by decide +kernel
theorem dL_texts_158 : decode cL_texts 158 = .ok (.ldc 122, 2) := by decide +kernel
theorem dL_texts_160 : decode cL_texts 160 = .ok (.if_icmp .ne 33, 3) := by decide +kernel
theorem dL_texts_163 : decode cL_texts 163 = .ok (.ldc2_w 123, 3) := by decide +kernel
theorem dL_texts_166 : decode cL_texts 166 = .ok (.ldc2_w 125, 3) := by decide +kernel
theorem dL_texts_169 : decode cL_texts 169 = .ok (.invokestatic 90, 3) := by decide +kernel
theorem dL_texts_172 : decode cL_texts 172 = .ok (.ldc 127, 2) := by decide +kernel
theorem dL_texts_174 : decode cL_texts 174 = .ok (.if_icmp .ne 19, 3) := by decide +kernel
theorem dL_texts_177 : decode cL_texts 177 = .ok (.ldc2_w 128, 3) := by decide +kernel
theorem dL_texts_180 : decode cL_texts 180 = .ok (.lconst 0, 1) := by decide +kernel
theorem dL_texts_181 : decode cL_texts 181 = .ok (.invokestatic 90, 3) := by decide +kernel
theorem dL_texts_184 : decode cL_texts 184 = .ok (.bipush 106, 2) := by decide +kernel
theorem dL_texts_186 : decode cL_texts 186 = .ok (.if_icmp .ne 7, 3) := by decide +kernel
theorem dL_texts_189 : decode cL_texts 189 = .ok (.iconst 1, 1) := by decide +kernel
theorem dL_texts_190 : decode cL_texts 190 = .ok (.goto 4, 3) := by decide +kernel
theorem dL_texts_193 : decode cL_texts 193 = .ok (.iconst 0, 1) := by decide +kernel
theorem dL_texts_194 : decode cL_texts 194 = .ok (.ireturn, 1) := by decide +kernel
theorem dL_plans_0 : decode cL_plans 0 = .ok (.new 14, 3) := by decide +kernel
theorem dL_plans_3 : decode cL_plans 3 = .ok (.dup, 1) := by decide +kernel
theorem dL_plans_4 : decode cL_plans 4 = .ok (.invokespecial 84, 3) := by decide +kernel
theorem dL_plans_7 : decode cL_plans 7 = .ok (.astore_n 0, 1) := by decide +kernel
theorem dL_plans_8 : decode cL_plans 8 = .ok (.aload_n 0, 1) := by decide +kernel
theorem dL_plans_9 : decode cL_plans 9 = .ok (.iconst 0, 1) := by decide +kernel
theorem dL_plans_10 : decode cL_plans 10 = .ok (.invokevirtual 22, 3) := by decide +kernel
theorem dL_plans_13 : decode cL_plans 13 = .ok (.ifCond .ne 86, 3) := by decide +kernel
theorem dL_plans_16 : decode cL_plans 16 = .ok (.aload_n 0, 1) := by decide +kernel
theorem dL_plans_17 : decode cL_plans 17 = .ok (.iconst 0, 1) := by decide +kernel
theorem dL_plans_18 : decode cL_plans 18 = .ok (.iconst 1, 1) := by decide +kernel
theorem dL_plans_19 : decode cL_plans 19 = .ok (.iconst 0, 1) := by decide +kernel
theorem dL_plans_20 : decode cL_plans 20 = .ok (.invokevirtual 19, 3) := by decide +kernel
theorem dL_plans_23 : decode cL_plans 23 = .ok (.iconst 1, 1) := by decide +kernel
theorem dL_plans_24 : decode cL_plans 24 = .ok (.if_icmp .ne 75, 3) := by decide +kernel
theorem dL_plans_27 : decode cL_plans 27 = .ok (.aload_n 0, 1) := by decide +kernel
theorem dL_plans_28 : decode cL_plans 28 = .ok (.iconst 0, 1) := by decide +kernel
theorem dL_plans_29 : decode cL_plans 29 = .ok (.iconst 1, 1) := by decide +kernel
theorem dL_plans_30 : decode cL_plans 30 = .ok (.iconst 2, 1) := by decide +kernel
theorem dL_plans_31 : decode cL_plans 31 = .ok (.invokevirtual 19, 3) := by decide +kernel
theorem dL_plans_34 : decode cL_plans 34 = .ok (.iconst 1, 1) := by decide +kernel
theorem dL_plans_35 : decode cL_plans 35 = .ok (.if_icmp .ne 64, 3) := by decide +kernel
theorem dL_plans_38 : decode cL_plans 38 = .ok (.aload_n 0, 1) := by decide +kernel
theorem dL_plans_39 : decode cL_plans 39 = .ok (.iconst 0, 1) := by decide +kernel
theorem dL_plans_40 : decode cL_plans 40 = .ok (.iconst 1, 1) := by decide +kernel
theorem dL_plans_41 : decode cL_plans 41 = .ok (.iconst 4, 1) := by decide +kernel
theorem dL_plans_42 : decode cL_plans 42 = .ok (.invokevirtual 19, 3) := by decide +kernel
theorem dL_plans_45 : decode cL_plans 45 = .ok (.ifCond .ne 54, 3) := by decide +kernel
theorem dL_plans_48 : decode cL_plans 48 = .ok (.aload_n 0, 1) := by decide +kernel
theorem dL_plans_49 : decode cL_plans 49 = .ok (.iconst 0, 1) := by decide +kernel
theorem dL_plans_50 : decode cL_plans 50 = .ok (.iconst 2, 1) := by decide +kernel
theorem dL_plans_51 : decode cL_plans 51 = .ok (.invokevirtual 56, 3) := by decide +kernel
theorem dL_plans_54 : decode cL_plans 54 = .ok (.lconst 1, 1) := by decide +kernel
theorem dL_plans_55 : decode cL_plans 55 = .ok (.lcmp, 1) := by decide +kernel
theorem dL_plans_56 : decode cL_plans 56 = .ok (.ifCond .ne 43, 3) := by decide +kernel
theorem dL_plans_59 : decode cL_plans 59 = .ok (.aload_n 0, 1) := by decide +kernel
theorem dL_plans_60 : decode cL_plans 60 = .ok (.iconst 1, 1) := by decide +kernel
theorem dL_plans_61 : decode cL_plans 61 = .ok (.iconst 2, 1) := by decide +kernel
theorem dL_plans_62 : decode cL_plans 62 = .ok (.invokevirtual 62, 3) := by decide +kernel
theorem dL_plans_65 : decode cL_plans 65 = .ok (.iconst 1, 1) := by decide +kernel
theorem dL_plans_66 : decode cL_plans 66 = .ok (.if_icmp .ne 33, 3) := by decide +kernel
theorem dL_plans_69 : decode cL_plans 69 = .ok (.aload_n 0, 1) := by decide +kernel
theorem dL_plans_70 : decode cL_plans 70 = .ok (.iconst 0, 1) := by decide +kernel
theorem dL_plans_71 : decode cL_plans 71 = .ok (.invokevirtual 46, 3) := by decide +kernel
theorem dL_plans_74 : decode cL_plans 74 = .ok (.iconst 1, 1) := by decide +kernel
theorem dL_plans_75 : decode cL_plans 75 = .ok (.if_icmp .ne 24, 3) := by decide +kernel
theorem dL_plans_78 : decode cL_plans 78 = .ok (.aload_n 0, 1) := by decide +kernel
theorem dL_plans_79 : decode cL_plans 79 = .ok (.invokevirtual 130, 3) := by decide +kernel
theorem dL_plans_82 : decode cL_plans 82 = .ok (.ldc 89, 2) := by decide +kernel
theorem dL_plans_84 : decode cL_plans 84 = .ok (.if_icmp .ne 15, 3) := by decide +kernel
theorem dL_plans_87 : decode cL_plans 87 = .ok (.aload_n 0, 1) := by decide +kernel
theorem dL_plans_88 : decode cL_plans 88 = .ok (.iconst 0, 1) := by decide +kernel
theorem dL_plans_89 : decode cL_plans 89 = .ok (.iconst 0, 1) := by decide +kernel
theorem dL_plans_90 : decode cL_plans 90 = .ok (.iconst 0, 1) := by decide +kernel
theorem dL_plans_91 : decode cL_plans 91 = .ok (.invokevirtual 36, 3) := by decide +kernel
theorem dL_plans_94 : decode cL_plans 94 = .ok (.ldc 89, 2) := by decide +kernel
theorem dL_plans_96 : decode cL_plans 96 = .ok (.if_icmp .eq 5, 3) := by decide +kernel
theorem dL_plans_99 : decode cL_plans 99 = .ok (.iconst 0, 1) := by decide +kernel
theorem dL_plans_100 : decode cL_plans 100 = .ok (.ireturn, 1) := by decide +kernel
theorem dL_plans_101 : decode cL_plans 101 = .ok (.aload_n 0, 1) := by decide +kernel
theorem dL_plans_102 : decode cL_plans 102 = .ok (.ldc2_w 134, 3) := by decide +kernel
theorem dL_plans_105 : decode cL_plans 105 = .ok (.invokestatic 85, 3) := by decide +kernel
theorem dL_plans_108 : decode cL_plans 108 = .ok (.ifCond .eq 120, 3) := by decide +kernel
theorem dL_plans_111 : decode cL_plans 111 = .ok (.aload_n 0, 1) := by decide +kernel
theorem dL_plans_112 : decode cL_plans 112 = .ok (.ldc2_w 136, 3) := by decide +kernel
theorem dL_plans_115 : decode cL_plans 115 = .ok (.invokestatic 85, 3) := by decide +kernel
theorem dL_plans_118 : decode cL_plans 118 = .ok (.ifCond .eq 110, 3) := by decide +kernel
theorem dL_plans_121 : decode cL_plans 121 = .ok (.aload_n 0, 1) := by decide +kernel
theorem dL_plans_122 : decode cL_plans 122 = .ok (.iconst 0, 1) := by decide +kernel
theorem dL_plans_123 : decode cL_plans 123 = .ok (.invokevirtual 49, 3) := by decide +kernel
theorem dL_plans_126 : decode cL_plans 126 = .ok (.iconst 3, 1) := by decide +kernel
theorem dL_plans_127 : decode cL_plans 127 = .ok (.if_icmp .ne 101, 3) := by decide +kernel
theorem dL_plans_130 : decode cL_plans 130 = .ok (.aload_n 0, 1) := by decide +kernel
theorem dL_plans_131 : decode cL_plans 131 = .ok (.iconst 0, 1) := by decide +kernel
theorem dL_plans_132 : decode cL_plans 132 = .ok (.iconst 0, 1) := by decide +kernel
theorem dL_plans_133 : decode cL_plans 133 = .ok (.iconst 0, 1) := by decide +kernel
theorem dL_plans_134 : decode cL_plans 134 = .ok (.invokevirtual 13, 3) := by decide +kernel
theorem dL_plans_137 : decode cL_plans 137 = .ok (.iconst 1, 1) := by decide +kernel
theorem dL_plans_138 : decode cL_plans 138 = .ok (.if_icmp .ne 90, 3) := by decide +kernel
theorem dL_plans_141 : decode cL_plans 141 = .ok (.aload_n 0, 1) := by decide +kernel
theorem dL_plans_142 : decode cL_plans 142 = .ok (.iconst 0, 1) := by decide +kernel
theorem dL_plans_143 : decode cL_plans 143 = .ok (.iconst 0, 1) := by decide +kernel
theorem dL_plans_144 : decode cL_plans 144 = .ok (.iconst 1, 1) := by decide +kernel
theorem dL_plans_145 : decode cL_plans 145 = .ok (.invokevirtual 13, 3) := by decide +kernel
theorem dL_plans_148 : decode cL_plans 148 = .ok (.iconst 3, 1) := by decide +kernel
theorem dL_plans_149 : decode cL_plans 149 = .ok (.if_icmp .ne 79, 3) := by decide +kernel
theorem dL_plans_152 : decode cL_plans 152 = .ok (.aload_n 0, 1) := by decide +kernel
theorem dL_plans_153 : decode cL_plans 153 = .ok (.iconst 0, 1) := by decide +kernel
theorem dL_plans_154 : decode cL_plans 154 = .ok (.iconst 0, 1) := by decide +kernel
theorem dL_plans_155 : decode cL_plans 155 = .ok (.bipush 11, 2) := by decide +kernel
theorem dL_plans_157 : decode cL_plans 157 = .ok (.invokevirtual 13, 3) := by decide +kernel
theorem dL_plans_160 : decode cL_plans 160 = .ok (.iconst 2, 1) := by decide +kernel
theorem dL_plans_161 : decode cL_plans 161 = .ok (.if_icmp .ne 67, 3) := by decide +kernel
theorem dL_plans_164 : decode cL_plans 164 = .ok (.aload_n 0, 1) := by decide +kernel
theorem dL_plans_165 : decode cL_plans 165 = .ok (.iconst 0, 1) := by decide +kernel
theorem dL_plans_166 : decode cL_plans 166 = .ok (.iconst 0, 1) := by decide +kernel
theorem dL_plans_167 : decode cL_plans 167 = .ok (.bipush 12, 2) := by decide +kernel
theorem dL_plans_169 : decode cL_plans 169 = .ok (.invokevirtual 13, 3) := by decide +kernel
theorem dL_plans_172 : decode cL_plans 172 = .ok (.ldc 55, 2) := by decide +kernel
theorem dL_plans_174 : decode cL_plans 174 = .ok (.if_icmp .ne 54, 3) := by decide +kernel
theorem dL_plans_177 : decode cL_plans 177 = .ok (.aload_n 0, 1) := by decide +kernel
theorem dL_plans_178 : decode cL_plans 178 = .ok (.iconst 0, 1) := by decide +kernel
theorem dL_plans_179 : decode cL_plans 179 = .ok (.iconst 0, 1) := by decide +kernel
theorem dL_plans_180 : decode cL_plans 180 = .ok (.iconst 3, 1) := by decide +kernel
theorem dL_plans_181 : decode cL_plans 181 = .ok (.invokevirtual 13, 3) := by decide +kernel
theorem dL_plans_184 : decode cL_plans 184 = .ok (.bipush 7, 2) := by decide +kernel
theorem dL_plans_186 : decode cL_plans 186 = .ok (.if_icmp .ne 42, 3) := by decide +kernel
theorem dL_plans_189 : decode cL_plans 189 = .ok (.aload_n 0, 1) := by decide +kernel
theorem dL_plans_190 : decode cL_plans 190 = .ok (.iconst 0, 1) := by decide +kernel
theorem dL_plans_191 : decode cL_plans 191 = .ok (.iconst 5, 1) := by decide +kernel
theorem dL_plans_192 : decode cL_plans 192 = .ok (.iconst 2, 1) := by decide +kernel
theorem dL_plans_193 : decode cL_plans 193 = .ok (.invokevirtual 13, 3) := by decide +kernel
theorem dL_plans_196 : decode cL_plans 196 = .ok (.iconst 2, 1) := by decide +kernel
theorem dL_plans_197 : decode cL_plans 197 = .ok (.if_icmp .ne 31, 3) := by decide +kernel
theorem dL_plans_200 : decode cL_plans 200 = .ok (.aload_n 0, 1) := by decide +kernel
theorem dL_plans_201 : decode cL_plans 201 = .ok (.iconst 0, 1) := by decide +kernel
theorem dL_plans_202 : decode cL_plans 202 = .ok (.invokevirtual 46, 3) := by decide +kernel
theorem dL_plans_205 : decode cL_plans 205 = .ok (.iconst 3, 1) := by decide +kernel
theorem dL_plans_206 : decode cL_plans 206 = .ok (.if_icmp .ne 22, 3) := by decide +kernel
theorem dL_plans_209 : decode cL_plans 209 = .ok (.aload_n 0, 1) := by decide +kernel
theorem dL_plans_210 : decode cL_plans 210 = .ok (.iconst 0, 1) := by decide +kernel
theorem dL_plans_211 : decode cL_plans 211 = .ok (.iconst 1, 1) := by decide +kernel
theorem dL_plans_212 : decode cL_plans 212 = .ok (.invokevirtual 39, 3) := by decide +kernel
theorem dL_plans_215 : decode cL_plans 215 = .ok (.iconst 2, 1) := by decide +kernel
theorem dL_plans_216 : decode cL_plans 216 = .ok (.if_icmp .ne 12, 3) := by decide +kernel
theorem dL_plans_219 : decode cL_plans 219 = .ok (.aload_n 0, 1) := by decide +kernel
theorem dL_plans_220 : decode cL_plans 220 = .ok (.iconst 1, 1) := by decide +kernel
theorem dL_plans_221 : decode cL_plans 221 = .ok (.invokevirtual 43, 3) := by decide +kernel
theorem dL_plans_224 : decode cL_plans 224 = .ok (.iconst 2, 1) := by decide +kernel
theorem dL_plans_225 : decode cL_plans 225 = .ok (.if_icmp .eq 5, 3) := by decide +kernel
theorem dL_plans_228 : decode cL_plans 228 = .ok (.iconst 0, 1) := by decide +kernel
theorem dL_plans_229 : decode cL_plans 229 = .ok (.ireturn, 1) := by decide +kernel
theorem dL_plans_230 : decode cL_plans 230 = .ok (.aload_n 0, 1) := by decide +kernel
theorem dL_plans_231 : decode cL_plans 231 = .ok (.iconst 0, 1) := by decide +kernel
theorem dL_plans_232 : decode cL_plans 232 = .ok (.iconst 1, 1) := by decide +kernel
theorem dL_plans_233 : decode cL_plans 233 = .ok (.iconst 0, 1) := by decide +kernel
theorem dL_plans_234 : decode cL_plans 234 = .ok (.invokevirtual 19, 3) := by decide +kernel
theorem dL_plans_237 : decode cL_plans 237 = .ok (.iconst 3, 1) := by decide +kernel
theorem dL_plans_238 : decode cL_plans 238 = .ok (.if_icmp .ne 122, 3) := by decide +kernel
theorem dL_plans_241 : decode cL_plans 241 = .ok (.aload_n 0, 1) := by decide +kernel
theorem dL_plans_242 : decode cL_plans 242 = .ok (.iconst 0, 1) := by decide +kernel
theorem dL_plans_243 : decode cL_plans 243 = .ok (.iconst 1, 1) := by decide +kernel
theorem dL_plans_244 : decode cL_plans 244 = .ok (.iconst 1, 1) := by decide +kernel
theorem dL_plans_245 : decode cL_plans 245 = .ok (.invokevirtual 19, 3) := by decide +kernel
theorem dL_plans_248 : decode cL_plans 248 = .ok (.ifCond .ne 112, 3) := by decide +kernel
theorem dL_plans_251 : decode cL_plans 251 = .ok (.aload_n 0, 1) := by decide +kernel
theorem dL_plans_252 : decode cL_plans 252 = .ok (.iconst 0, 1) := by decide +kernel
theorem dL_plans_253 : decode cL_plans 253 = .ok (.iconst 1, 1) := by decide +kernel
theorem dL_plans_254 : decode cL_plans 254 = .ok (.iconst 2, 1) := by decide +kernel
theorem dL_plans_255 : decode cL_plans 255 = .ok (.invokevirtual 19, 3) := by decide +kernel
theorem dL_plans_258 : decode cL_plans 258 = .ok (.iconst 1, 1) := by decide +kernel
theorem dL_plans_259 : decode cL_plans 259 = .ok (.if_icmp .ne 101, 3) := by decide +kernel
theorem dL_plans_262 : decode cL_plans 262 = .ok (.aload_n 0, 1) := by decide +kernel
theorem dL_plans_263 : decode cL_plans 263 = .ok (.iconst 0, 1) := by decide +kernel
theorem dL_plans_264 : decode cL_plans 264 = .ok (.iconst 1, 1) := by decide +kernel
theorem dL_plans_265 : decode cL_plans 265 = .ok (.iconst 3, 1) := by decide +kernel
theorem dL_plans_266 : decode cL_plans 266 = .ok (.invokevirtual 19, 3) := by decide +kernel
theorem dL_plans_269 : decode cL_plans 269 = .ok (.iconst 1, 1) := by decide +kernel
theorem dL_plans_270 : decode cL_plans 270 = .ok (.if_icmp .ne 90, 3) := by decide +kernel
theorem dL_plans_273 : decode cL_plans 273 = .ok (.aload_n 0, 1) := by decide +kernel
theorem dL_plans_274 : decode cL_plans 274 = .ok (.iconst 0, 1) := by decide +kernel
theorem dL_plans_275 : decode cL_plans 275 = .ok (.iconst 1, 1) := by decide +kernel
theorem dL_plans_276 : decode cL_plans 276 = .ok (.iconst 4, 1) := by decide +kernel
theorem dL_plans_277 : decode cL_plans 277 = .ok (.invokevirtual 19, 3) := by decide +kernel
theorem dL_plans_280 : decode cL_plans 280 = .ok (.iconst 1, 1) := by decide +kernel
theorem dL_plans_281 : decode cL_plans 281 = .ok (.if_icmp .ne 79, 3) := by decide +kernel
theorem dL_plans_284 : decode cL_plans 284 = .ok (.aload_n 0, 1) := by decide +kernel
theorem dL_plans_285 : decode cL_plans 285 = .ok (.iconst 0, 1) := by decide +kernel
theorem dL_plans_286 : decode cL_plans 286 = .ok (.iconst 1, 1) := by decide +kernel
theorem dL_plans_287 : decode cL_plans 287 = .ok (.iconst 5, 1) := by decide +kernel
theorem dL_plans_288 : decode cL_plans 288 = .ok (.invokevirtual 19, 3) := by decide +kernel
theorem dL_plans_291 : decode cL_plans 291 = .ok (.bipush 7, 2) := by decide +kernel
theorem dL_plans_293 : decode cL_plans 293 = .ok (.if_icmp .ne 67, 3) := by decide +kernel
theorem dL_plans_296 : decode cL_plans 296 = .ok (.aload_n 0, 1) := by decide +kernel
theorem dL_plans_297 : decode cL_plans 297 = .ok (.iconst 0, 1) := by decide +kernel
theorem dL_plans_298 : decode cL_plans 298 = .ok (.iconst 1, 1) := by decide +kernel
theorem dL_plans_299 : decode cL_plans 299 = .ok (.invokevirtual 56, 3) := by decide +kernel
theorem dL_plans_302 : decode cL_plans 302 = .ok (.ldc2_w 138, 3) := by decide +kernel
theorem dL_plans_305 : decode cL_plans 305 = .ok (.lcmp, 1) := by decide +kernel
theorem dL_plans_306 : decode cL_plans 306 = .ok (.ifCond .ne 54, 3) := by decide +kernel
theorem dL_plans_309 : decode cL_plans 309 = .ok (.aload_n 0, 1) := by decide +kernel
theorem dL_plans_310 : decode cL_plans 310 = .ok (.iconst 0, 1) := by decide +kernel
theorem dL_plans_311 : decode cL_plans 311 = .ok (.iconst 1, 1) := by decide +kernel
theorem dL_plans_312 : decode cL_plans 312 = .ok (.iconst 1, 1) := by decide +kernel
theorem dL_plans_313 : decode cL_plans 313 = .ok (.iconst 0, 1) := by decide +kernel
theorem dL_plans_314 : decode cL_plans 314 = .ok (.invokevirtual 52, 3) := by decide +kernel
theorem dL_plans_317 : decode cL_plans 317 = .ok (.iconst 1, 1) := by decide +kernel
theorem dL_plans_318 : decode cL_plans 318 = .ok (.if_icmp .ne 42, 3) := by decide +kernel
theorem dL_plans_321 : decode cL_plans 321 = .ok (.aload_n 0, 1) := by decide +kernel
theorem dL_plans_322 : decode cL_plans 322 = .ok (.iconst 0, 1) := by decide +kernel
theorem dL_plans_323 : decode cL_plans 323 = .ok (.iconst 1, 1) := by decide +kernel
theorem dL_plans_324 : decode cL_plans 324 = .ok (.iconst 2, 1) := by decide +kernel
theorem dL_plans_325 : decode cL_plans 325 = .ok (.bipush 10, 2) := by decide +kernel
theorem dL_plans_327 : decode cL_plans 327 = .ok (.invokevirtual 52, 3) := by decide +kernel
theorem dL_plans_330 : decode cL_plans 330 = .ok (.iconst 1, 1) := by decide +kernel
theorem dL_plans_331 : decode cL_plans 331 = .ok (.if_icmp .ne 29, 3) := by decide +kernel
theorem dL_plans_334 : decode cL_plans 334 = .ok (.aload_n 0, 1) := by decide +kernel
theorem dL_plans_335 : decode cL_plans 335 = .ok (.iconst 0, 1) := by decide +kernel
theorem dL_plans_336 : decode cL_plans 336 = .ok (.iconst 1, 1) := by decide +kernel
theorem dL_plans_337 : decode cL_plans 337 = .ok (.iconst (-1), 1) := by decide +kernel
theorem dL_plans_338 : decode cL_plans 338 = .ok (.iconst 0, 1) := by decide +kernel
theorem dL_plans_339 : decode cL_plans 339 = .ok (.invokevirtual 52, 3) := by decide +kernel
theorem dL_plans_342 : decode cL_plans 342 = .ok (.ldc 55, 2) := by decide +kernel
theorem dL_plans_344 : decode cL_plans 344 = .ok (.if_icmp .ne 16, 3) := by decide +kernel
theorem dL_plans_347 : decode cL_plans 347 = .ok (.aload_n 0, 1) := by decide +kernel
theorem dL_plans_348 : decode cL_plans 348 = .ok (.iconst 0, 1) := by decide +kernel
theorem dL_plans_349 : decode cL_plans 349 = .ok (.iconst 1, 1) := by decide +kernel
theorem dL_plans_350 : decode cL_plans 350 = .ok (.iconst 3, 1) := by decide +kernel
theorem dL_plans_351 : decode cL_plans 351 = .ok (.iconst 0, 1) := by decide +kernel
theorem dL_plans_352 : decode cL_plans 352 = .ok (.invokevirtual 52, 3) := by decide +kernel
theorem dL_plans_355 : decode cL_plans 355 = .ok (.ldc 55, 2) := by decide +kernel
theorem dL_plans_357 : decode cL_plans 357 = .ok (.if_icmp .eq 5, 3) := by decide +kernel
theorem dL_plans_360 : decode cL_plans 360 = .ok (.iconst 0, 1) := by decide +kernel
theorem dL_plans_361 : decode cL_plans 361 = .ok (.ireturn, 1) := by decide +kernel
theorem dL_plans_362 : decode cL_plans 362 = .ok (.aload_n 0, 1) := by decide +kernel
theorem dL_plans_363 : decode cL_plans 363 = .ok (.iconst 0, 1) := by decide +kernel
theorem dL_plans_364 : decode cL_plans 364 = .ok (.iconst 0, 1) := by decide +kernel
theorem dL_plans_365 : decode cL_plans 365 = .ok (.iconst 0, 1) := by decide +kernel
theorem dL_plans_366 : decode cL_plans 366 = .ok (.invokevirtual 19, 3) := by decide +kernel
theorem dL_plans_369 : decode cL_plans 369 = .ok (.iconst 1, 1) := by decide +kernel
theorem dL_plans_370 : decode cL_plans 370 = .ok (.if_icmp .ne 62, 3) := by decide +kernel
theorem dL_plans_373 : decode cL_plans 373 = .ok (.aload_n 0, 1) := by decide +kernel
theorem dL_plans_374 : decode cL_plans 374 = .ok (.iconst 0, 1) := by decide +kernel
theorem dL_plans_375 : decode cL_plans 375 = .ok (.iconst 0, 1) := by decide +kernel
theorem dL_plans_376 : decode cL_plans 376 = .ok (.iconst (-1), 1) := by decide +kernel
theorem dL_plans_377 : decode cL_plans 377 = .ok (.iconst 3, 1) := by decide +kernel
theorem dL_plans_378 : decode cL_plans 378 = .ok (.invokevirtual 52, 3) := by decide +kernel
theorem dL_plans_381 : decode cL_plans 381 = .ok (.iconst 3, 1) := by decide +kernel
theorem dL_plans_382 : decode cL_plans 382 = .ok (.if_icmp .ne 50, 3) := by decide +kernel
theorem dL_plans_385 : decode cL_plans 385 = .ok (.aload_n 0, 1) := by decide +kernel
theorem dL_plans_386 : decode cL_plans 386 = .ok (.iconst 1, 1) := by decide +kernel
theorem dL_plans_387 : decode cL_plans 387 = .ok (.iconst 1, 1) := by decide +kernel
theorem dL_plans_388 : decode cL_plans 388 = .ok (.iconst 0, 1) := by decide +kernel
theorem dL_plans_389 : decode cL_plans 389 = .ok (.iconst 3, 1) := by decide +kernel
theorem dL_plans_390 : decode cL_plans 390 = .ok (.invokevirtual 52, 3) := by decide +kernel
theorem dL_plans_393 : decode cL_plans 393 = .ok (.iconst 2, 1) := by decide +kernel
theorem dL_plans_394 : decode cL_plans 394 = .ok (.if_icmp .ne 38, 3) := by decide +kernel
theorem dL_plans_397 : decode cL_plans 397 = .ok (.aload_n 0, 1) := by decide +kernel
theorem dL_plans_398 : decode cL_plans 398 = .ok (.iconst 0, 1) := by decide +kernel
theorem dL_plans_399 : decode cL_plans 399 = .ok (.iconst 0, 1) := by decide +kernel
theorem dL_plans_400 : decode cL_plans 400 = .ok (.iconst 4, 1) := by decide +kernel
theorem dL_plans_401 : decode cL_plans 401 = .ok (.invokevirtual 19, 3) := by decide +kernel
theorem dL_plans_404 : decode cL_plans 404 = .ok (.ldc 55, 2) := by decide +kernel
theorem dL_plans_406 : decode cL_plans 406 = .ok (.if_icmp .ne 26, 3) := by decide +kernel
theorem dL_plans_409 : decode cL_plans 409 = .ok (.aload_n 0, 1) := by decide +kernel
theorem dL_plans_410 : decode cL_plans 410 = .ok (.iconst 0, 1) := by decide +kernel
theorem dL_plans_411 : decode cL_plans 411 = .ok (.iconst 0, 1) := by decide +kernel
theorem dL_plans_412 : decode cL_plans 412 = .ok (.invokevirtual 56, 3) := by decide +kernel
theorem dL_plans_415 : decode cL_plans 415 = .ok (.lconst 0, 1) := by decide +kernel
theorem dL_plans_416 : decode cL_plans 416 = .ok (.lcmp, 1) := by decide +kernel
theorem dL_plans_417 : decode cL_plans 417 = .ok (.ifCond .ne 15, 3) := by decide +kernel
theorem dL_plans_420 : decode cL_plans 420 = .ok (.aload_n 0, 1) := by decide +kernel
theorem dL_plans_421 : decode cL_plans 421 = .ok (.iconst 0, 1) := by decide +kernel
theorem dL_plans_422 : decode cL_plans 422 = .ok (.iconst 2, 1) := by decide +kernel
theorem dL_plans_423 : decode cL_plans 423 = .ok (.iconst 0, 1) := by decide +kernel
theorem dL_plans_424 : decode cL_plans 424 = .ok (.iconst 3, 1) := by decide +kernel
theorem dL_plans_425 : decode cL_plans 425 = .ok (.invokevirtual 52, 3) := by decide +kernel
theorem dL_plans_428 : decode cL_plans 428 = .ok (.iconst 1, 1) := by decide +kernel
theorem dL_plans_429 : decode cL_plans 429 = .ok (.if_icmp .eq 5, 3) := by decide +kernel
theorem dL_plans_432 : decode cL_plans 432 = .ok (.iconst 0, 1) := by decide +kernel
theorem dL_plans_433 : decode cL_plans 433 = .ok (.ireturn, 1) := by decide +kernel
theorem dL_plans_434 : decode cL_plans 434 = .ok (.aload_n 0, 1) := by decide +kernel
theorem dL_plans_435 : decode cL_plans 435 = .ok (.iconst 0, 1) := by decide +kernel
theorem dL_plans_436 : decode cL_plans 436 = .ok (.iconst 1, 1) := by decide +kernel
theorem dL_plans_437 : decode cL_plans 437 = .ok (.iconst 0, 1) := by decide +kernel
theorem dL_plans_438 : decode cL_plans 438 = .ok (.invokevirtual 36, 3) := by decide +kernel
theorem dL_plans_441 : decode cL_plans 441 = .ok (.ifCond .ne 109, 3) := by decide +kernel
theorem dL_plans_444 : decode cL_plans 444 = .ok (.aload_n 0, 1) := by decide +kernel
theorem dL_plans_445 : decode cL_plans 445 = .ok (.iconst 0, 1) := by decide +kernel
theorem dL_plans_446 : decode cL_plans 446 = .ok (.iconst 1, 1) := by decide +kernel
theorem dL_plans_447 : decode cL_plans 447 = .ok (.iconst 3, 1) := by decide +kernel
theorem dL_plans_448 : decode cL_plans 448 = .ok (.invokevirtual 19, 3) := by decide +kernel
theorem dL_plans_451 : decode cL_plans 451 = .ok (.ifCond .ne 99, 3) := by decide +kernel
theorem dL_plans_454 : decode cL_plans 454 = .ok (.aload_n 0, 1) := by decide +kernel
theorem dL_plans_455 : decode cL_plans 455 = .ok (.iconst 0, 1) := by decide +kernel
theorem dL_plans_456 : decode cL_plans 456 = .ok (.iconst 1, 1) := by decide +kernel
theorem dL_plans_457 : decode cL_plans 457 = .ok (.invokevirtual 56, 3) := by decide +kernel
theorem dL_plans_460 : decode cL_plans 460 = .ok (.lconst 1, 1) := by decide +kernel
theorem dL_plans_461 : decode cL_plans 461 = .ok (.lcmp, 1) := by decide +kernel
theorem dL_plans_462 : decode cL_plans 462 = .ok (.ifCond .ne 88, 3) := by decide +kernel
theorem dL_plans_465 : decode cL_plans 465 = .ok (.aload_n 0, 1) := by decide +kernel
theorem dL_plans_466 : decode cL_plans 466 = .ok (.iconst 0, 1) := by decide +kernel
theorem dL_plans_467 : decode cL_plans 467 = .ok (.iconst 1, 1) := by decide +kernel
theorem dL_plans_468 : decode cL_plans 468 = .ok (.iconst 1, 1) := by decide +kernel
theorem dL_plans_469 : decode cL_plans 469 = .ok (.invokevirtual 19, 3) := by decide +kernel
theorem dL_plans_472 : decode cL_plans 472 = .ok (.iconst 1, 1) := by decide +kernel
theorem dL_plans_473 : decode cL_plans 473 = .ok (.if_icmp .ne 77, 3) := by decide +kernel
theorem dL_plans_476 : decode cL_plans 476 = .ok (.aload_n 0, 1) := by decide +kernel
theorem dL_plans_477 : decode cL_plans 477 = .ok (.iconst 0, 1) := by decide +kernel
theorem dL_plans_478 : decode cL_plans 478 = .ok (.iconst 1, 1) := by decide +kernel
theorem dL_plans_479 : decode cL_plans 479 = .ok (.iconst (-1), 1) := by decide +kernel
theorem dL_plans_480 : decode cL_plans 480 = .ok (.iconst 0, 1) := by decide +kernel
theorem dL_plans_481 : decode cL_plans 481 = .ok (.invokevirtual 52, 3) := by decide +kernel
theorem dL_plans_484 : decode cL_plans 484 = .ok (.iconst 1, 1) := by decide +kernel
theorem dL_plans_485 : decode cL_plans 485 = .ok (.if_icmp .ne 65, 3) := by decide +kernel
theorem dL_plans_488 : decode cL_plans 488 = .ok (.aload_n 0, 1) := by decide +kernel
theorem dL_plans_489 : decode cL_plans 489 = .ok (.iconst 0, 1) := by decide +kernel
theorem dL_plans_490 : decode cL_plans 490 = .ok (.iconst 1, 1) := by decide +kernel
theorem dL_plans_491 : decode cL_plans 491 = .ok (.iconst (-1), 1) := by decide +kernel
theorem dL_plans_492 : decode cL_plans 492 = .ok (.iconst 3, 1) := by decide +kernel
theorem dL_plans_493 : decode cL_plans 493 = .ok (.invokevirtual 52, 3) := by decide +kernel
theorem dL_plans_496 : decode cL_plans 496 = .ok (.iconst 5, 1) := by decide +kernel
theorem dL_plans_497 : decode cL_plans 497 = .ok (.if_icmp .ne 53, 3) := by decide +kernel
theorem dL_plans_500 : decode cL_plans 500 = .ok (.aload_n 0, 1) := by decide +kernel
theorem dL_plans_501 : decode cL_plans 501 = .ok (.iconst 0, 1) := by decide +kernel
theorem dL_plans_502 : decode cL_plans 502 = .ok (.iconst 1, 1) := by decide +kernel
theorem dL_plans_503 : decode cL_plans 503 = .ok (.iconst (-1), 1) := by decide +kernel
theorem dL_plans_504 : decode cL_plans 504 = .ok (.iconst 4, 1) := by decide +kernel
theorem dL_plans_505 : decode cL_plans 505 = .ok (.invokevirtual 52, 3) := by decide +kernel
theorem dL_plans_508 : decode cL_plans 508 = .ok (.ifCond .ne 42, 3) := by decide +kernel
theorem dL_plans_511 : decode cL_plans 511 = .ok (.aload_n 0, 1) := by decide +kernel
theorem dL_plans_512 : decode cL_plans 512 = .ok (.iconst 0, 1) := by decide +kernel
theorem dL_plans_513 : decode cL_plans 513 = .ok (.iconst 1, 1) := by decide +kernel
theorem dL_plans_514 : decode cL_plans 514 = .ok (.iconst (-1), 1) := by decide +kernel
theorem dL_plans_515 : decode cL_plans 515 = .ok (.bipush 10, 2) := by decide +kernel
theorem dL_plans_517 : decode cL_plans 517 = .ok (.invokevirtual 52, 3) := by decide +kernel
theorem dL_plans_520 : decode cL_plans 520 = .ok (.ifCond .ne 30, 3) := by decide +kernel
theorem dL_plans_523 : decode cL_plans 523 = .ok (.aload_n 0, 1) := by decide +kernel
theorem dL_plans_524 : decode cL_plans 524 = .ok (.iconst 0, 1) := by decide +kernel
theorem dL_plans_525 : decode cL_plans 525 = .ok (.iconst 1, 1) := by decide +kernel
theorem dL_plans_526 : decode cL_plans 526 = .ok (.iconst (-1), 1) := by decide +kernel
theorem dL_plans_527 : decode cL_plans 527 = .ok (.bipush 11, 2) := by decide +kernel
theorem dL_plans_529 : decode cL_plans 529 = .ok (.invokevirtual 52, 3) := by decide +kernel
theorem dL_plans_532 : decode cL_plans 532 = .ok (.ldc 55, 2) := by decide +kernel
theorem dL_plans_534 : decode cL_plans 534 = .ok (.if_icmp .ne 16, 3) := by decide +kernel
theorem dL_plans_537 : decode cL_plans 537 = .ok (.aload_n 0, 1) := by decide +kernel
theorem dL_plans_538 : decode cL_plans 538 = .ok (.iconst 0, 1) := by decide +kernel
theorem dL_plans_539 : decode cL_plans 539 = .ok (.iconst 1, 1) := by decide +kernel
theorem dL_plans_540 : decode cL_plans 540 = .ok (.iconst 0, 1) := by decide +kernel
theorem dL_plans_541 : decode cL_plans 541 = .ok (.iconst 4, 1) := by decide +kernel
theorem dL_plans_542 : decode cL_plans 542 = .ok (.invokevirtual 52, 3) := by decide +kernel
theorem dL_plans_545 : decode cL_plans 545 = .ok (.ldc 55, 2) := by decide +kernel
theorem dL_plans_547 : decode cL_plans 547 = .ok (.if_icmp .eq 5, 3) := by decide +kernel
theorem dL_plans_550 : decode cL_plans 550 = .ok (.iconst 0, 1) := by decide +kernel
theorem dL_plans_551 : decode cL_plans 551 = .ok (.ireturn, 1) := by decide +kernel
theorem dL_plans_552 : decode cL_plans 552 = .ok (.aload_n 0, 1) := by decide +kernel
theorem dL_plans_553 : decode cL_plans 553 = .ok (.iconst 0, 1) := by decide +kernel
theorem dL_plans_554 : decode cL_plans 554 = .ok (.iconst 0, 1) := by decide +kernel
theorem dL_plans_555 : decode cL_plans 555 = .ok (.invokevirtual 62, 3) := by decide +kernel
theorem dL_plans_558 : decode cL_plans 558 = .ok (.iconst 1, 1) := by decide +kernel
theorem dL_plans_559 : decode cL_plans 559 = .ok (.if_icmp .ne 121, 3) := by decide +kernel
theorem dL_plans_562 : decode cL_plans 562 = .ok (.aload_n 0, 1) := by decide +kernel
theorem dL_plans_563 : decode cL_plans 563 = .ok (.iconst 1, 1) := by decide +kernel
theorem dL_plans_564 : decode cL_plans 564 = .ok (.iconst 0, 1) := by decide +kernel
theorem dL_plans_565 : decode cL_plans 565 = .ok (.invokevirtual 62, 3) := by decide +kernel
theorem dL_plans_568 : decode cL_plans 568 = .ok (.ifCond .ne 112, 3) := by decide +kernel
theorem dL_plans_571 : decode cL_plans 571 = .ok (.aload_n 0, 1) := by decide +kernel
theorem dL_plans_572 : decode cL_plans 572 = .ok (.iconst 1, 1) := by decide +kernel
theorem dL_plans_573 : decode cL_plans 573 = .ok (.iconst 0, 1) := by decide +kernel
theorem dL_plans_574 : decode cL_plans 574 = .ok (.iconst 0, 1) := by decide +kernel
theorem dL_plans_575 : decode cL_plans 575 = .ok (.invokevirtual 65, 3) := by decide +kernel
theorem dL_plans_578 : decode cL_plans 578 = .ok (.ifCond .ne 102, 3) := by decide +kernel
theorem dL_plans_581 : decode cL_plans 581 = .ok (.aload_n 0, 1) := by decide +kernel
theorem dL_plans_582 : decode cL_plans 582 = .ok (.iconst 1, 1) := by decide +kernel
theorem dL_plans_583 : decode cL_plans 583 = .ok (.iconst 0, 1) := by decide +kernel
theorem dL_plans_584 : decode cL_plans 584 = .ok (.iconst 3, 1) := by decide +kernel
theorem dL_plans_585 : decode cL_plans 585 = .ok (.invokevirtual 65, 3) := by decide +kernel
theorem dL_plans_588 : decode cL_plans 588 = .ok (.iconst 1, 1) := by decide +kernel
theorem dL_plans_589 : decode cL_plans 589 = .ok (.if_icmp .ne 91, 3) := by decide +kernel
theorem dL_plans_592 : decode cL_plans 592 = .ok (.aload_n 0, 1) := by decide +kernel
theorem dL_plans_593 : decode cL_plans 593 = .ok (.iconst 1, 1) := by decide +kernel
theorem dL_plans_594 : decode cL_plans 594 = .ok (.iconst 0, 1) := by decide +kernel
theorem dL_plans_595 : decode cL_plans 595 = .ok (.iconst 4, 1) := by decide +kernel
theorem dL_plans_596 : decode cL_plans 596 = .ok (.invokevirtual 65, 3) := by decide +kernel
theorem dL_plans_599 : decode cL_plans 599 = .ok (.ldc 55, 2) := by decide +kernel
theorem dL_plans_601 : decode cL_plans 601 = .ok (.if_icmp .ne 79, 3) := by decide +kernel
theorem dL_plans_604 : decode cL_plans 604 = .ok (.aload_n 0, 1) := by decide +kernel
theorem dL_plans_605 : decode cL_plans 605 = .ok (.iconst 1, 1) := by decide +kernel
theorem dL_plans_606 : decode cL_plans 606 = .ok (.iconst 0, 1) := by decide +kernel
theorem dL_plans_607 : decode cL_plans 607 = .ok (.bipush 10, 2) := by decide +kernel
theorem dL_plans_609 : decode cL_plans 609 = .ok (.invokevirtual 65, 3) := by decide +kernel
theorem dL_plans_612 : decode cL_plans 612 = .ok (.ldc 55, 2) := by decide +kernel
theorem dL_plans_614 : decode cL_plans 614 = .ok (.if_icmp .ne 66, 3) := by decide +kernel
theorem dL_plans_617 : decode cL_plans 617 = .ok (.aload_n 0, 1) := by decide +kernel
theorem dL_plans_618 : decode cL_plans 618 = .ok (.iconst 0, 1) := by decide +kernel
theorem dL_plans_619 : decode cL_plans 619 = .ok (.iconst 2, 1) := by decide +kernel
theorem dL_plans_620 : decode cL_plans 620 = .ok (.invokevirtual 39, 3) := by decide +kernel
theorem dL_plans_623 : decode cL_plans 623 = .ok (.iconst 2, 1) := by decide +kernel
theorem dL_plans_624 : decode cL_plans 624 = .ok (.if_icmp .ne 56, 3) := by decide +kernel
theorem dL_plans_627 : decode cL_plans 627 = .ok (.aload_n 0, 1) := by decide +kernel
theorem dL_plans_628 : decode cL_plans 628 = .ok (.iconst 2, 1) := by decide +kernel
theorem dL_plans_629 : decode cL_plans 629 = .ok (.iconst 0, 1) := by decide +kernel
theorem dL_plans_630 : decode cL_plans 630 = .ok (.iconst 2, 1) := by decide +kernel
theorem dL_plans_631 : decode cL_plans 631 = .ok (.iconst 2, 1) := by decide +kernel
theorem dL_plans_632 : decode cL_plans 632 = .ok (.invokevirtual 32, 3) := by decide +kernel
theorem dL_plans_635 : decode cL_plans 635 = .ok (.iconst 3, 1) := by decide +kernel
theorem dL_plans_636 : decode cL_plans 636 = .ok (.if_icmp .ne 44, 3) := by decide +kernel
theorem dL_plans_639 : decode cL_plans 639 = .ok (.aload_n 0, 1) := by decide +kernel
theorem dL_plans_640 : decode cL_plans 640 = .ok (.iconst 0, 1) := by decide +kernel
theorem dL_plans_641 : decode cL_plans 641 = .ok (.iconst 2, 1) := by decide +kernel
theorem dL_plans_642 : decode cL_plans 642 = .ok (.invokevirtual 62, 3) := by decide +kernel
theorem dL_plans_645 : decode cL_plans 645 = .ok (.iconst 1, 1) := by decide +kernel
theorem dL_plans_646 : decode cL_plans 646 = .ok (.if_icmp .ne 34, 3) := by decide +kernel
theorem dL_plans_649 : decode cL_plans 649 = .ok (.aload_n 0, 1) := by decide +kernel
theorem dL_plans_650 : decode cL_plans 650 = .ok (.iconst 2, 1) := by decide +kernel
theorem dL_plans_651 : decode cL_plans 651 = .ok (.iconst 0, 1) := by decide +kernel
theorem dL_plans_652 : decode cL_plans 652 = .ok (.invokevirtual 62, 3) := by decide +kernel
theorem dL_plans_655 : decode cL_plans 655 = .ok (.ifCond .ne 25, 3) := by decide +kernel
theorem dL_plans_658 : decode cL_plans 658 = .ok (.aload_n 0, 1) := by decide +kernel
theorem dL_plans_659 : decode cL_plans 659 = .ok (.iconst 2, 1) := by decide +kernel
theorem dL_plans_660 : decode cL_plans 660 = .ok (.iconst 0, 1) := by decide +kernel
theorem dL_plans_661 : decode cL_plans 661 = .ok (.iconst 3, 1) := by decide +kernel
theorem dL_plans_662 : decode cL_plans 662 = .ok (.invokevirtual 65, 3) := by decide +kernel
theorem dL_plans_665 : decode cL_plans 665 = .ok (.iconst 3, 1) := by decide +kernel
theorem dL_plans_666 : decode cL_plans 666 = .ok (.if_icmp .ne 14, 3) := by decide +kernel
theorem dL_plans_669 : decode cL_plans 669 = .ok (.aload_n 0, 1) := by decide +kernel
theorem dL_plans_670 : decode cL_plans 670 = .ok (.iconst 2, 1) := by decide +kernel
theorem dL_plans_671 : decode cL_plans 671 = .ok (.iconst 0, 1) := by decide +kernel
theorem dL_plans_672 : decode cL_plans 672 = .ok (.iconst 4, 1) := by decide +kernel
theorem dL_plans_673 : decode cL_plans 673 = .ok (.invokevirtual 65, 3) := by decide +kernel
theorem dL_plans_676 : decode cL_plans 676 = .ok (.iconst 2, 1) := by decide +kernel
theorem dL_plans_677 : decode cL_plans 677 = .ok (.if_icmp .eq 5, 3) := by decide +kernel
theorem dL_plans_680 : decode cL_plans 680 = .ok (.iconst 0, 1) := by decide +kernel
theorem dL_plans_681 : decode cL_plans 681 = .ok (.ireturn, 1) := by decide +kernel
theorem dL_plans_682 : decode cL_plans 682 = .ok (.aload_n 0, 1) := by decide +kernel
theorem dL_plans_683 : decode cL_plans 683 = .ok (.iconst 2, 1) := by decide +kernel
theorem dL_plans_684 : decode cL_plans 684 = .ok (.iconst 1, 1) := by decide +kernel
theorem dL_plans_685 : decode cL_plans 685 = .ok (.iconst 3, 1) := by decide +kernel
theorem dL_plans_686 : decode cL_plans 686 = .ok (.iconst 2, 1) := by decide +kernel
theorem dL_plans_687 : decode cL_plans 687 = .ok (.invokevirtual 32, 3) := by decide +kernel
theorem dL_plans_690 : decode cL_plans 690 = .ok (.iconst 1, 1) := by decide +kernel
theorem dL_plans_691 : decode cL_plans 691 = .ok (.if_icmp .ne 110, 3) := by decide +kernel
theorem dL_plans_694 : decode cL_plans 694 = .ok (.aload_n 0, 1) := by decide +kernel
theorem dL_plans_695 : decode cL_plans 695 = .ok (.iconst 0, 1) := by decide +kernel
theorem dL_plans_696 : decode cL_plans 696 = .ok (.iconst 2, 1) := by decide +kernel
theorem dL_plans_697 : decode cL_plans 697 = .ok (.invokevirtual 62, 3) := by decide +kernel
theorem dL_plans_700 : decode cL_plans 700 = .ok (.ifCond .ne 101, 3) := by decide +kernel
theorem dL_plans_703 : decode cL_plans 703 = .ok (.aload_n 0, 1) := by decide +kernel
theorem dL_plans_704 : decode cL_plans 704 = .ok (.iconst 0, 1) := by decide +kernel
theorem dL_plans_705 : decode cL_plans 705 = .ok (.iconst 2, 1) := by decide +kernel
theorem dL_plans_706 : decode cL_plans 706 = .ok (.iconst 0, 1) := by decide +kernel
theorem dL_plans_707 : decode cL_plans 707 = .ok (.invokevirtual 65, 3) := by decide +kernel
theorem dL_plans_710 : decode cL_plans 710 = .ok (.iconst 1, 1) := by decide +kernel
theorem dL_plans_711 : decode cL_plans 711 = .ok (.if_icmp .ne 90, 3) := by decide +kernel
theorem dL_plans_714 : decode cL_plans 714 = .ok (.aload_n 0, 1) := by decide +kernel
theorem dL_plans_715 : decode cL_plans 715 = .ok (.iconst 0, 1) := by decide +kernel
theorem dL_plans_716 : decode cL_plans 716 = .ok (.iconst 2, 1) := by decide +kernel
theorem dL_plans_717 : decode cL_plans 717 = .ok (.iconst 1, 1) := by decide +kernel
theorem dL_plans_718 : decode cL_plans 718 = .ok (.invokevirtual 65, 3) := by decide +kernel
theorem dL_plans_721 : decode cL_plans 721 = .ok (.iconst 1, 1) := by decide +kernel
theorem dL_plans_722 : decode cL_plans 722 = .ok (.if_icmp .ne 79, 3) := by decide +kernel
theorem dL_plans_725 : decode cL_plans 725 = .ok (.aload_n 0, 1) := by decide +kernel
theorem dL_plans_726 : decode cL_plans 726 = .ok (.iconst 0, 1) := by decide +kernel
theorem dL_plans_727 : decode cL_plans 727 = .ok (.iconst 2, 1) := by decide +kernel
theorem dL_plans_728 : decode cL_plans 728 = .ok (.iconst 2, 1) := by decide +kernel
theorem dL_plans_729 : decode cL_plans 729 = .ok (.invokevirtual 65, 3) := by decide +kernel
theorem dL_plans_732 : decode cL_plans 732 = .ok (.iconst 1, 1) := by decide +kernel
theorem dL_plans_733 : decode cL_plans 733 = .ok (.if_icmp .ne 68, 3) := by decide +kernel
theorem dL_plans_736 : decode cL_plans 736 = .ok (.aload_n 0, 1) := by decide +kernel
theorem dL_plans_737 : decode cL_plans 737 = .ok (.iconst 0, 1) := by decide +kernel
theorem dL_plans_738 : decode cL_plans 738 = .ok (.iconst 2, 1) := by decide +kernel
theorem dL_plans_739 : decode cL_plans 739 = .ok (.iconst 3, 1) := by decide +kernel
theorem dL_plans_740 : decode cL_plans 740 = .ok (.invokevirtual 65, 3) := by decide +kernel
theorem dL_plans_743 : decode cL_plans 743 = .ok (.iconst 3, 1) := by decide +kernel
theorem dL_plans_744 : decode cL_plans 744 = .ok (.if_icmp .ne 57, 3) := by decide +kernel
theorem dL_plans_747 : decode cL_plans 747 = .ok (.aload_n 0, 1) := by decide +kernel
theorem dL_plans_748 : decode cL_plans 748 = .ok (.iconst 0, 1) := by decide +kernel
theorem dL_plans_749 : decode cL_plans 749 = .ok (.iconst 2, 1) := by decide +kernel
theorem dL_plans_750 : decode cL_plans 750 = .ok (.iconst 4, 1) := by decide +kernel
theorem dL_plans_751 : decode cL_plans 751 = .ok (.invokevirtual 65, 3) := by decide +kernel
theorem dL_plans_754 : decode cL_plans 754 = .ok (.iconst 3, 1) := by decide +kernel
theorem dL_plans_755 : decode cL_plans 755 = .ok (.if_icmp .ne 46, 3) := by decide +kernel
theorem dL_plans_758 : decode cL_plans 758 = .ok (.aload_n 0, 1) := by decide +kernel
theorem dL_plans_759 : decode cL_plans 759 = .ok (.iconst 0, 1) := by decide +kernel
theorem dL_plans_760 : decode cL_plans 760 = .ok (.iconst 2, 1) := by decide +kernel
theorem dL_plans_761 : decode cL_plans 761 = .ok (.bipush 10, 2) := by decide +kernel
theorem dL_plans_763 : decode cL_plans 763 = .ok (.invokevirtual 65, 3) := by decide +kernel
theorem dL_plans_766 : decode cL_plans 766 = .ok (.ifCond .ne 35, 3) := by decide +kernel
theorem dL_plans_769 : decode cL_plans 769 = .ok (.aload_n 0, 1) := by decide +kernel
theorem dL_plans_770 : decode cL_plans 770 = .ok (.iconst 0, 1) := by decide +kernel
theorem dL_plans_771 : decode cL_plans 771 = .ok (.iconst 2, 1) := by decide +kernel
theorem dL_plans_772 : decode cL_plans 772 = .ok (.bipush 11, 2) := by decide +kernel
theorem dL_plans_774 : decode cL_plans 774 = .ok (.invokevirtual 65, 3) := by decide +kernel
theorem dL_plans_777 : decode cL_plans 777 = .ok (.ldc 55, 2) := by decide +kernel
theorem dL_plans_779 : decode cL_plans 779 = .ok (.if_icmp .ne 22, 3) := by decide +kernel
theorem dL_plans_782 : decode cL_plans 782 = .ok (.aload_n 0, 1) := by decide +kernel
theorem dL_plans_783 : decode cL_plans 783 = .ok (.bipush 10, 2) := by decide +kernel
theorem dL_plans_785 : decode cL_plans 785 = .ok (.invokevirtual 22, 3) := by decide +kernel
theorem dL_plans_788 : decode cL_plans 788 = .ok (.iconst 1, 1) := by decide +kernel
theorem dL_plans_789 : decode cL_plans 789 = .ok (.if_icmp .ne 12, 3) := by decide +kernel
theorem dL_plans_792 : decode cL_plans 792 = .ok (.aload_n 0, 1) := by decide +kernel
theorem dL_plans_793 : decode cL_plans 793 = .ok (.bipush 12, 2) := by decide +kernel
theorem dL_plans_795 : decode cL_plans 795 = .ok (.invokevirtual 22, 3) := by decide +kernel
theorem dL_plans_798 : decode cL_plans 798 = .ok (.ifCond .eq 5, 3) := by decide +kernel
theorem dL_plans_801 : decode cL_plans 801 = .ok (.iconst 0, 1) := by decide +kernel
theorem dL_plans_802 : decode cL_plans 802 = .ok (.ireturn, 1) := by decide +kernel
theorem dL_plans_803 : decode cL_plans 803 = .ok (.aload_n 0, 1) := by decide +kernel
theorem dL_plans_804 : decode cL_plans 804 = .ok (.iconst 2, 1) := by decide +kernel
theorem dL_plans_805 : decode cL_plans 805 = .ok (.iconst 0, 1) := by decide +kernel
theorem dL_plans_806 : decode cL_plans 806 = .ok (.iconst 0, 1) := by decide +kernel
theorem dL_plans_807 : decode cL_plans 807 = .ok (.invokevirtual 26, 3) := by decide +kernel
theorem dL_plans_810 : decode cL_plans 810 = .ok (.iconst 1, 1) := by decide +kernel
theorem dL_plans_811 : decode cL_plans 811 = .ok (.if_icmp .ne 89, 3) := by decide +kernel
theorem dL_plans_814 : decode cL_plans 814 = .ok (.aload_n 0, 1) := by decide +kernel
theorem dL_plans_815 : decode cL_plans 815 = .ok (.iconst 2, 1) := by decide +kernel
theorem dL_plans_816 : decode cL_plans 816 = .ok (.iconst 0, 1) := by decide +kernel
theorem dL_plans_817 : decode cL_plans 817 = .ok (.iconst 1, 1) := by decide +kernel
theorem dL_plans_818 : decode cL_plans 818 = .ok (.invokevirtual 13, 3) := by decide +kernel
theorem dL_plans_821 : decode cL_plans 821 = .ok (.bipush 7, 2) := by decide +kernel
theorem dL_plans_823 : decode cL_plans 823 = .ok (.if_icmp .ne 77, 3) := by decide +kernel
theorem dL_plans_826 : decode cL_plans 826 = .ok (.aload_n 0, 1) := by decide +kernel
theorem dL_plans_827 : decode cL_plans 827 = .ok (.iconst 2, 1) := by decide +kernel
theorem dL_plans_828 : decode cL_plans 828 = .ok (.iconst 0, 1) := by decide +kernel
theorem dL_plans_829 : decode cL_plans 829 = .ok (.bipush 12, 2) := by decide +kernel
theorem dL_plans_831 : decode cL_plans 831 = .ok (.invokevirtual 13, 3) := by decide +kernel
theorem dL_plans_834 : decode cL_plans 834 = .ok (.iconst 2, 1) := by decide +kernel
theorem dL_plans_835 : decode cL_plans 835 = .ok (.if_icmp .ne 65, 3) := by decide +kernel
theorem dL_plans_838 : decode cL_plans 838 = .ok (.aload_n 0, 1) := by decide +kernel
theorem dL_plans_839 : decode cL_plans 839 = .ok (.iconst 2, 1) := by decide +kernel
theorem dL_plans_840 : decode cL_plans 840 = .ok (.iconst 0, 1) := by decide +kernel
theorem dL_plans_841 : decode cL_plans 841 = .ok (.iconst 3, 1) := by decide +kernel
theorem dL_plans_842 : decode cL_plans 842 = .ok (.invokevirtual 13, 3) := by decide +kernel
theorem dL_plans_845 : decode cL_plans 845 = .ok (.iconst 1, 1) := by decide +kernel
theorem dL_plans_846 : decode cL_plans 846 = .ok (.if_icmp .ne 54, 3) := by decide +kernel
theorem dL_plans_849 : decode cL_plans 849 = .ok (.aload_n 0, 1) := by decide +kernel
theorem dL_plans_850 : decode cL_plans 850 = .ok (.iconst 2, 1) := by decide +kernel
theorem dL_plans_851 : decode cL_plans 851 = .ok (.invokevirtual 46, 3) := by decide +kernel
theorem dL_plans_854 : decode cL_plans 854 = .ok (.iconst 1, 1) := by decide +kernel
theorem dL_plans_855 : decode cL_plans 855 = .ok (.if_icmp .ne 45, 3) := by decide +kernel
theorem dL_plans_858 : decode cL_plans 858 = .ok (.aload_n 0, 1) := by decide +kernel
theorem dL_plans_859 : decode cL_plans 859 = .ok (.iconst 0, 1) := by decide +kernel
theorem dL_plans_860 : decode cL_plans 860 = .ok (.invokevirtual 22, 3) := by decide +kernel
theorem dL_plans_863 : decode cL_plans 863 = .ok (.iconst 5, 1) := by decide +kernel
theorem dL_plans_864 : decode cL_plans 864 = .ok (.if_icmp .ne 36, 3) := by decide +kernel
theorem dL_plans_867 : decode cL_plans 867 = .ok (.aload_n 0, 1) := by decide +kernel
theorem dL_plans_868 : decode cL_plans 868 = .ok (.iconst 1, 1) := by decide +kernel
theorem dL_plans_869 : decode cL_plans 869 = .ok (.invokevirtual 22, 3) := by decide +kernel
theorem dL_plans_872 : decode cL_plans 872 = .ok (.bipush 9, 2) := by decide +kernel
theorem dL_plans_874 : decode cL_plans 874 = .ok (.if_icmp .ne 26, 3) := by decide +kernel
theorem dL_plans_877 : decode cL_plans 877 = .ok (.aload_n 0, 1) := by decide +kernel
theorem dL_plans_878 : decode cL_plans 878 = .ok (.iconst 2, 1) := by decide +kernel
theorem dL_plans_879 : decode cL_plans 879 = .ok (.iconst 0, 1) := by decide +kernel
theorem dL_plans_880 : decode cL_plans 880 = .ok (.iconst 0, 1) := by decide +kernel
theorem dL_plans_881 : decode cL_plans 881 = .ok (.iconst 3, 1) := by decide +kernel
theorem dL_plans_882 : decode cL_plans 882 = .ok (.invokevirtual 52, 3) := by decide +kernel
theorem dL_plans_885 : decode cL_plans 885 = .ok (.iconst 1, 1) := by decide +kernel
theorem dL_plans_886 : decode cL_plans 886 = .ok (.if_icmp .ne 14, 3) := by decide +kernel
theorem dL_plans_889 : decode cL_plans 889 = .ok (.aload_n 0, 1) := by decide +kernel
theorem dL_plans_890 : decode cL_plans 890 = .ok (.iconst 2, 1) := by decide +kernel
theorem dL_plans_891 : decode cL_plans 891 = .ok (.iconst 2, 1) := by decide +kernel
theorem dL_plans_892 : decode cL_plans 892 = .ok (.iconst 2, 1) := by decide +kernel
theorem dL_plans_893 : decode cL_plans 893 = .ok (.invokevirtual 19, 3) := by decide +kernel
theorem dL_plans_896 : decode cL_plans 896 = .ok (.iconst 1, 1) := by decide +kernel
theorem dL_plans_897 : decode cL_plans 897 = .ok (.if_icmp .eq 5, 3) := by decide +kernel
theorem dL_plans_900 : decode cL_plans 900 = .ok (.iconst 0, 1) := by decide +kernel
theorem dL_plans_901 : decode cL_plans 901 = .ok (.ireturn, 1) := by decide +kernel
theorem dL_plans_902 : decode cL_plans 902 = .ok (.aload_n 0, 1) := by decide +kernel
theorem dL_plans_903 : decode cL_plans 903 = .ok (.iconst 2, 1) := by decide +kernel
theorem dL_plans_904 : decode cL_plans 904 = .ok (.iconst 3, 1) := by decide +kernel
theorem dL_plans_905 : decode cL_plans 905 = .ok (.iconst 1, 1) := by decide +kernel
theorem dL_plans_906 : decode cL_plans 906 = .ok (.invokevirtual 26, 3) := by decide +kernel
theorem dL_plans_909 : decode cL_plans 909 = .ok (.ifCond .ne 79, 3) := by decide +kernel
theorem dL_plans_912 : decode cL_plans 912 = .ok (.aload_n 0, 1) := by decide +kernel
theorem dL_plans_913 : decode cL_plans 913 = .ok (.iconst 2, 1) := by decide +kernel
theorem dL_plans_914 : decode cL_plans 914 = .ok (.iconst 0, 1) := by decide +kernel
theorem dL_plans_915 : decode cL_plans 915 = .ok (.iconst 1, 1) := by decide +kernel
theorem dL_plans_916 : decode cL_plans 916 = .ok (.invokevirtual 26, 3) := by decide +kernel
theorem dL_plans_919 : decode cL_plans 919 = .ok (.ifCond .ne 69, 3) := by decide +kernel
theorem dL_plans_922 : decode cL_plans 922 = .ok (.aload_n 0, 1) := by decide +kernel
theorem dL_plans_923 : decode cL_plans 923 = .ok (.iconst 2, 1) := by decide +kernel
theorem dL_plans_924 : decode cL_plans 924 = .ok (.iconst 0, 1) := by decide +kernel
theorem dL_plans_925 : decode cL_plans 925 = .ok (.iconst 0, 1) := by decide +kernel
theorem dL_plans_926 : decode cL_plans 926 = .ok (.iconst 3, 1) := by decide +kernel
theorem dL_plans_927 : decode cL_plans 927 = .ok (.invokevirtual 32, 3) := by decide +kernel
theorem dL_plans_930 : decode cL_plans 930 = .ok (.iconst 3, 1) := by decide +kernel
theorem dL_plans_931 : decode cL_plans 931 = .ok (.if_icmp .ne 57, 3) := by decide +kernel
theorem dL_plans_934 : decode cL_plans 934 = .ok (.aload_n 0, 1) := by decide +kernel
theorem dL_plans_935 : decode cL_plans 935 = .ok (.iconst 2, 1) := by decide +kernel
theorem dL_plans_936 : decode cL_plans 936 = .ok (.iconst 2, 1) := by decide +kernel
theorem dL_plans_937 : decode cL_plans 937 = .ok (.invokevirtual 62, 3) := by decide +kernel
theorem dL_plans_940 : decode cL_plans 940 = .ok (.ifCond .ne 48, 3) := by decide +kernel
theorem dL_plans_943 : decode cL_plans 943 = .ok (.aload_n 0, 1) := by decide +kernel
theorem dL_plans_944 : decode cL_plans 944 = .ok (.iconst 2, 1) := by decide +kernel
theorem dL_plans_945 : decode cL_plans 945 = .ok (.iconst 2, 1) := by decide +kernel
theorem dL_plans_946 : decode cL_plans 946 = .ok (.iconst 0, 1) := by decide +kernel
theorem dL_plans_947 : decode cL_plans 947 = .ok (.invokevirtual 65, 3) := by decide +kernel
theorem dL_plans_950 : decode cL_plans 950 = .ok (.iconst 1, 1) := by decide +kernel
theorem dL_plans_951 : decode cL_plans 951 = .ok (.if_icmp .ne 37, 3) := by decide +kernel
theorem dL_plans_954 : decode cL_plans 954 = .ok (.aload_n 0, 1) := by decide +kernel
theorem dL_plans_955 : decode cL_plans 955 = .ok (.iconst 2, 1) := by decide +kernel
theorem dL_plans_956 : decode cL_plans 956 = .ok (.iconst 2, 1) := by decide +kernel
theorem dL_plans_957 : decode cL_plans 957 = .ok (.iconst 3, 1) := by decide +kernel
theorem dL_plans_958 : decode cL_plans 958 = .ok (.invokevirtual 65, 3) := by decide +kernel
theorem dL_plans_961 : decode cL_plans 961 = .ok (.iconst 2, 1) := by decide +kernel
theorem dL_plans_962 : decode cL_plans 962 = .ok (.if_icmp .ne 26, 3) := by decide +kernel
theorem dL_plans_965 : decode cL_plans 965 = .ok (.aload_n 0, 1) := by decide +kernel
theorem dL_plans_966 : decode cL_plans 966 = .ok (.iconst 2, 1) := by decide +kernel
theorem dL_plans_967 : decode cL_plans 967 = .ok (.iconst 2, 1) := by decide +kernel
theorem dL_plans_968 : decode cL_plans 968 = .ok (.iconst 4, 1) := by decide +kernel
theorem dL_plans_969 : decode cL_plans 969 = .ok (.invokevirtual 65, 3) := by decide +kernel
theorem dL_plans_972 : decode cL_plans 972 = .ok (.ldc 55, 2) := by decide +kernel
theorem dL_plans_974 : decode cL_plans 974 = .ok (.if_icmp .ne 14, 3) := by decide +kernel
theorem dL_plans_977 : decode cL_plans 977 = .ok (.aload_n 0, 1) := by decide +kernel
theorem dL_plans_978 : decode cL_plans 978 = .ok (.invokestatic 140, 3) := by decide +kernel
theorem dL_plans_981 : decode cL_plans 981 = .ok (.ifCond .eq 7, 3) := by decide +kernel
theorem dL_plans_984 : decode cL_plans 984 = .ok (.iconst 1, 1) := by decide +kernel
theorem dL_plans_985 : decode cL_plans 985 = .ok (.goto 4, 3) := by decide +kernel
theorem dL_plans_988 : decode cL_plans 988 = .ok (.iconst 0, 1) := by decide +kernel
theorem dL_plans_989 : decode cL_plans 989 = .ok (.ireturn, 1) := by decide +kernel
theorem dL_circles_0 : decode cL_circles 0 = .ok (.new 14, 3) := by decide +kernel
theorem dL_circles_3 : decode cL_circles 3 = .ok (.dup, 1) := by decide +kernel
theorem dL_circles_4 : decode cL_circles 4 = .ok (.invokespecial 84, 3) := by decide +kernel
theorem dL_circles_7 : decode cL_circles 7 = .ok (.astore_n 0, 1) := by decide +kernel
theorem dL_circles_8 : decode cL_circles 8 = .ok (.iconst 0, 1) := by decide +kernel
theorem dL_circles_9 : decode cL_circles 9 = .ok (.istore_n 1, 1) := by decide +kernel
theorem dL_circles_10 : decode cL_circles 10 = .ok (.iload_n 1, 1) := by decide +kernel
theorem dL_circles_11 : decode cL_circles 11 = .ok (.bipush 7, 2) := by decide +kernel
theorem dL_circles_13 : decode cL_circles 13 = .ok (.if_icmp .ge 188, 3) := by decide +kernel
theorem dL_circles_16 : decode cL_circles 16 = .ok (.aload_n 0, 1) := by decide +kernel
theorem dL_circles_17 : decode cL_circles 17 = .ok (.iconst 0, 1) := by decide +kernel
theorem dL_circles_18 : decode cL_circles 18 = .ok (.iload_n 1, 1) := by decide +kernel
theorem dL_circles_19 : decode cL_circles 19 = .ok (.iconst 1, 1) := by decide +kernel
theorem dL_circles_20 : decode cL_circles 20 = .ok (.invokevirtual 26, 3) := by decide +kernel
theorem dL_circles_23 : decode cL_circles 23 = .ok (.ifCond .ne 19, 3) := by decide +kernel
theorem dL_circles_26 : decode cL_circles 26 = .ok (.iload_n 1, 1) := by decide +kernel
theorem dL_circles_27 : decode cL_circles 27 = .ok (.bipush 6, 2) := by decide +kernel
theorem dL_circles_29 : decode cL_circles 29 = .ok (.if_icmp .ge 15, 3) := by decide +kernel
theorem dL_circles_32 : decode cL_circles 32 = .ok (.aload_n 0, 1) := by decide +kernel
theorem dL_circles_33 : decode cL_circles 33 = .ok (.iconst 1, 1) := by decide +kernel
theorem dL_circles_34 : decode cL_circles 34 = .ok (.iload_n 1, 1) := by decide +kernel
theorem dL_circles_35 : decode cL_circles 35 = .ok (.iconst 2, 1) := by decide +kernel
theorem dL_circles_36 : decode cL_circles 36 = .ok (.invokevirtual 26, 3) := by decide +kernel
theorem dL_circles_39 : decode cL_circles 39 = .ok (.ifCond .eq 5, 3) := by decide +kernel
theorem dL_circles_42 : decode cL_circles 42 = .ok (.iconst 0, 1) := by decide +kernel
theorem dL_circles_43 : decode cL_circles 43 = .ok (.ireturn, 1) := by decide +kernel
theorem dL_circles_44 : decode cL_circles 44 = .ok (.iconst 0, 1) := by decide +kernel
theorem dL_circles_45 : decode cL_circles 45 = .ok (.istore_n 2, 1) := by decide +kernel
theorem dL_circles_46 : decode cL_circles 46 = .ok (.iload_n 2, 1) := by decide +kernel
theorem dL_circles_47 : decode cL_circles 47 = .ok (.bipush 6, 2) := by decide +kernel
theorem dL_circles_49 : decode cL_circles 49 = .ok (.if_icmp .ge 146, 3) := by decide +kernel
theorem dL_circles_52 : decode cL_circles 52 = .ok (.iload_n 1, 1) := by decide +kernel
theorem dL_circles_53 : decode cL_circles 53 = .ok (.bipush 6, 2) := by decide +kernel
theorem dL_circles_55 : decode cL_circles 55 = .ok (.if_icmp .ge 16, 3) := by decide +kernel
theorem dL_circles_58 : decode cL_circles 58 = .ok (.iload_n 2, 1) := by decide +kernel
theorem dL_circles_59 : decode cL_circles 59 = .ok (.iconst 5, 1) := by decide +kernel
theorem dL_circles_60 : decode cL_circles 60 = .ok (.if_icmp .ge 7, 3) := by decide +kernel
theorem dL_circles_63 : decode cL_circles 63 = .ok (.iconst 1, 1) := by decide +kernel
theorem dL_circles_64 : decode cL_circles 64 = .ok (.goto 22, 3) := by decide +kernel
theorem dL_circles_67 : decode cL_circles 67 = .ok (.iconst 0, 1) := by decide +kernel
theorem dL_circles_68 : decode cL_circles 68 = .ok (.goto 18, 3) := by decide +kernel
theorem dL_circles_71 : decode cL_circles 71 = .ok (.iload_n 2, 1) := by decide +kernel
theorem dL_circles_72 : decode cL_circles 72 = .ok (.iconst 2, 1) := by decide +kernel
theorem dL_circles_73 : decode cL_circles 73 = .ok (.if_icmp .lt 8, 3) := by decide +kernel
theorem dL_circles_76 : decode cL_circles 76 = .ok (.iload_n 2, 1) := by decide +kernel
theorem dL_circles_77 : decode cL_circles 77 = .ok (.iconst 5, 1) := by decide +kernel
theorem dL_circles_78 : decode cL_circles 78 = .ok (.if_icmp .ne 7, 3) := by decide +kernel
theorem dL_circles_81 : decode cL_circles 81 = .ok (.iconst 1, 1) := by decide +kernel
theorem dL_circles_82 : decode cL_circles 82 = .ok (.goto 4, 3) := by decide +kernel
theorem dL_circles_85 : decode cL_circles 85 = .ok (.iconst 0, 1) := by decide +kernel
theorem dL_circles_86 : decode cL_circles 86 = .ok (.istore_n 3, 1) := by decide +kernel
theorem dL_circles_87 : decode cL_circles 87 = .ok (.iload_n 3, 1) := by decide +kernel
theorem dL_circles_88 : decode cL_circles 88 = .ok (.ifCond .eq 32, 3) := by decide +kernel
theorem dL_circles_91 : decode cL_circles 91 = .ok (.aload_n 0, 1) := by decide +kernel
theorem dL_circles_92 : decode cL_circles 92 = .ok (.iconst 0, 1) := by decide +kernel
theorem dL_circles_93 : decode cL_circles 93 = .ok (.iload_n 1, 1) := by decide +kernel
theorem dL_circles_94 : decode cL_circles 94 = .ok (.iload_n 2, 1) := by decide +kernel
theorem dL_circles_95 : decode cL_circles 95 = .ok (.iload_n 2, 1) := by decide +kernel
theorem dL_circles_96 : decode cL_circles 96 = .ok (.iconst 5, 1) := by decide +kernel
theorem dL_circles_97 : decode cL_circles 97 = .ok (.if_icmp .ne 8, 3) := by decide +kernel
theorem dL_circles_100 : decode cL_circles 100 = .ok (.bipush 7, 2) := by decide +kernel
theorem dL_circles_102 : decode cL_circles 102 = .ok (.goto 9, 3) := by decide +kernel
theorem dL_circles_105 : decode cL_circles 105 = .ok (.iload_n 1, 1) := by decide +kernel
theorem dL_circles_106 : decode cL_circles 106 = .ok (.iconst 1, 1) := by decide +kernel
theorem dL_circles_107 : decode cL_circles 107 = .ok (.iadd, 1) := by decide +kernel
theorem dL_circles_108 : decode cL_circles 108 = .ok (.bipush 7, 2) := by decide +kernel
theorem dL_circles_110 : decode cL_circles 110 = .ok (.irem, 1) := by decide +kernel
theorem dL_circles_111 : decode cL_circles 111 = .ok (.invokevirtual 32, 3) := by decide +kernel
theorem dL_circles_114 : decode cL_circles 114 = .ok (.iconst 1, 1) := by decide +kernel
theorem dL_circles_115 : decode cL_circles 115 = .ok (.if_icmp .ge 5, 3) := by decide +kernel
theorem dL_circles_118 : decode cL_circles 118 = .ok (.iconst 0, 1) := by decide +kernel
theorem dL_circles_119 : decode cL_circles 119 = .ok (.ireturn, 1) := by decide +kernel
theorem dL_circles_120 : decode cL_circles 120 = .ok (.iload_n 1, 1) := by decide +kernel
theorem dL_circles_121 : decode cL_circles 121 = .ok (.iconst 5, 1) := by decide +kernel
theorem dL_circles_122 : decode cL_circles 122 = .ok (.if_icmp .ge 16, 3) := by decide +kernel
theorem dL_circles_125 : decode cL_circles 125 = .ok (.iload_n 2, 1) := by decide +kernel
theorem dL_circles_126 : decode cL_circles 126 = .ok (.iconst 5, 1) := by decide +kernel
theorem dL_circles_127 : decode cL_circles 127 = .ok (.if_icmp .ge 7, 3) := by decide +kernel
theorem dL_circles_130 : decode cL_circles 130 = .ok (.iconst 1, 1) := by decide +kernel
theorem dL_circles_131 : decode cL_circles 131 = .ok (.goto 22, 3) := by decide +kernel
theorem dL_circles_134 : decode cL_circles 134 = .ok (.iconst 0, 1) := by decide +kernel
theorem dL_circles_135 : decode cL_circles 135 = .ok (.goto 18, 3) := by decide +kernel
theorem dL_circles_138 : decode cL_circles 138 = .ok (.iload_n 1, 1) := by decide +kernel
theorem dL_circles_139 : decode cL_circles 139 = .ok (.iconst 5, 1) := by decide +kernel
theorem dL_circles_140 : decode cL_circles 140 = .ok (.if_icmp .ne 12, 3) := by decide +kernel
theorem dL_circles_143 : decode cL_circles 143 = .ok (.iload_n 2, 1) := by decide +kernel
theorem dL_circles_144 : decode cL_circles 144 = .ok (.iconst 1, 1) := by decide +kernel
theorem dL_circles_145 : decode cL_circles 145 = .ok (.if_icmp .le 7, 3) := by decide +kernel
theorem dL_circles_148 : decode cL_circles 148 = .ok (.iconst 1, 1) := by decide +kernel
theorem dL_circles_149 : decode cL_circles 149 = .ok (.goto 4, 3) := by decide +kernel
theorem dL_circles_152 : decode cL_circles 152 = .ok (.iconst 0, 1) := by decide +kernel
theorem dL_circles_153 : decode cL_circles 153 = .ok (.istore 4, 2) := by decide +kernel
theorem dL_circles_155 : decode cL_circles 155 = .ok (.iload 4, 2) := by decide +kernel
theorem dL_circles_157 : decode cL_circles 157 = .ok (.ifCond .eq 32, 3) := by decide +kernel
theorem dL_circles_160 : decode cL_circles 160 = .ok (.aload_n 0, 1) := by decide +kernel
theorem dL_circles_161 : decode cL_circles 161 = .ok (.iconst 1, 1) := by decide +kernel
theorem dL_circles_162 : decode cL_circles 162 = .ok (.iload_n 1, 1) := by decide +kernel
theorem dL_circles_163 : decode cL_circles 163 = .ok (.iload_n 2, 1) := by decide +kernel
theorem dL_circles_164 : decode cL_circles 164 = .ok (.iload_n 2, 1) := by decide +kernel
theorem dL_circles_165 : decode cL_circles 165 = .ok (.iconst 5, 1) := by decide +kernel
theorem dL_circles_166 : decode cL_circles 166 = .ok (.if_icmp .ne 8, 3) := by decide +kernel
theorem dL_circles_169 : decode cL_circles 169 = .ok (.bipush 7, 2) := by decide +kernel
theorem dL_circles_171 : decode cL_circles 171 = .ok (.goto 9, 3) := by decide +kernel
theorem dL_circles_174 : decode cL_circles 174 = .ok (.iload_n 1, 1) := by decide +kernel
theorem dL_circles_175 : decode cL_circles 175 = .ok (.iconst 1, 1) := by decide +kernel
theorem dL_circles_176 : decode cL_circles 176 = .ok (.iadd, 1) := by decide +kernel
theorem dL_circles_177 : decode cL_circles 177 = .ok (.bipush 6, 2) := by decide +kernel
theorem dL_circles_179 : decode cL_circles 179 = .ok (.irem, 1) := by decide +kernel
theorem dL_circles_180 : decode cL_circles 180 = .ok (.invokevirtual 32, 3) := by decide +kernel
theorem dL_circles_183 : decode cL_circles 183 = .ok (.iconst 1, 1) := by decide +kernel
theorem dL_circles_184 : decode cL_circles 184 = .ok (.if_icmp .ge 5, 3) := by decide +kernel
theorem dL_circles_187 : decode cL_circles 187 = .ok (.iconst 0, 1) := by decide +kernel
theorem dL_circles_188 : decode cL_circles 188 = .ok (.ireturn, 1) := by decide +kernel
theorem dL_circles_189 : decode cL_circles 189 = .ok (.iinc 2 1, 3) := by decide +kernel
theorem dL_circles_192 : decode cL_circles 192 = .ok (.goto (-146), 3) := by decide +kernel
theorem dL_circles_195 : decode cL_circles 195 = .ok (.iinc 1 1, 3) := by decide +kernel
theorem dL_circles_198 : decode cL_circles 198 = .ok (.goto (-188), 3) := by decide +kernel
theorem dL_circles_201 : decode cL_circles 201 = .ok (.aload_n 0, 1) := by decide +kernel
theorem dL_circles_202 : decode cL_circles 202 = .ok (.iconst 0, 1) := by decide +kernel
theorem dL_circles_203 : decode cL_circles 203 = .ok (.iconst 1, 1) := by decide +kernel
theorem dL_circles_204 : decode cL_circles 204 = .ok (.iconst 0, 1) := by decide +kernel
theorem dL_circles_205 : decode cL_circles 205 = .ok (.invokevirtual 19, 3) := by decide +kernel
theorem dL_circles_208 : decode cL_circles 208 = .ok (.bipush 43, 2) := by decide +kernel
theorem dL_circles_210 : decode cL_circles 210 = .ok (.if_icmp .ne 116, 3) := by decide +kernel
theorem dL_circles_213 : decode cL_circles 213 = .ok (.aload_n 0, 1) := by decide +kernel
theorem dL_circles_214 : decode cL_circles 214 = .ok (.iconst 0, 1) := by decide +kernel
theorem dL_circles_215 : decode cL_circles 215 = .ok (.iconst 1, 1) := by decide +kernel
theorem dL_circles_216 : decode cL_circles 216 = .ok (.iconst 1, 1) := by decide +kernel
theorem dL_circles_217 : decode cL_circles 217 = .ok (.invokevirtual 19, 3) := by decide +kernel
theorem dL_circles_220 : decode cL_circles 220 = .ok (.bipush 12, 2) := by decide +kernel
theorem dL_circles_222 : decode cL_circles 222 = .ok (.if_icmp .ne 104, 3) := by decide +kernel
theorem dL_circles_225 : decode cL_circles 225 = .ok (.aload_n 0, 1) := by decide +kernel
theorem dL_circles_226 : decode cL_circles 226 = .ok (.iconst 0, 1) := by decide +kernel
theorem dL_circles_227 : decode cL_circles 227 = .ok (.iconst 1, 1) := by decide +kernel
theorem dL_circles_228 : decode cL_circles 228 = .ok (.iconst 2, 1) := by decide +kernel
theorem dL_circles_229 : decode cL_circles 229 = .ok (.invokevirtual 19, 3) := by decide +kernel
theorem dL_circles_232 : decode cL_circles 232 = .ok (.iconst 1, 1) := by decide +kernel
theorem dL_circles_233 : decode cL_circles 233 = .ok (.if_icmp .ne 93, 3) := by decide +kernel
theorem dL_circles_236 : decode cL_circles 236 = .ok (.aload_n 0, 1) := by decide +kernel
theorem dL_circles_237 : decode cL_circles 237 = .ok (.iconst 0, 1) := by decide +kernel
theorem dL_circles_238 : decode cL_circles 238 = .ok (.iconst 1, 1) := by decide +kernel
theorem dL_circles_239 : decode cL_circles 239 = .ok (.iconst 3, 1) := by decide +kernel
theorem dL_circles_240 : decode cL_circles 240 = .ok (.invokevirtual 19, 3) := by decide +kernel
theorem dL_circles_243 : decode cL_circles 243 = .ok (.ifCond .ne 83, 3) := by decide +kernel
theorem dL_circles_246 : decode cL_circles 246 = .ok (.aload_n 0, 1) := by decide +kernel
theorem dL_circles_247 : decode cL_circles 247 = .ok (.iconst 0, 1) := by decide +kernel
theorem dL_circles_248 : decode cL_circles 248 = .ok (.iconst 1, 1) := by decide +kernel
theorem dL_circles_249 : decode cL_circles 249 = .ok (.iconst 4, 1) := by decide +kernel
theorem dL_circles_250 : decode cL_circles 250 = .ok (.invokevirtual 19, 3) := by decide +kernel
theorem dL_circles_253 : decode cL_circles 253 = .ok (.bipush 42, 2) := by decide +kernel
theorem dL_circles_255 : decode cL_circles 255 = .ok (.if_icmp .ne 71, 3) := by decide +kernel
theorem dL_circles_258 : decode cL_circles 258 = .ok (.aload_n 0, 1) := by decide +kernel
theorem dL_circles_259 : decode cL_circles 259 = .ok (.iconst 0, 1) := by decide +kernel
theorem dL_circles_260 : decode cL_circles 260 = .ok (.iconst 1, 1) := by decide +kernel
theorem dL_circles_261 : decode cL_circles 261 = .ok (.invokevirtual 56, 3) := by decide +kernel
theorem dL_circles_264 : decode cL_circles 264 = .ok (.ldc2_w 144, 3) := by decide +kernel
theorem dL_circles_267 : decode cL_circles 267 = .ok (.lcmp, 1) := by decide +kernel
theorem dL_circles_268 : decode cL_circles 268 = .ok (.ifCond .ne 58, 3) := by decide +kernel
theorem dL_circles_271 : decode cL_circles 271 = .ok (.aload_n 0, 1) := by decide +kernel
theorem dL_circles_272 : decode cL_circles 272 = .ok (.iconst 1, 1) := by decide +kernel
theorem dL_circles_273 : decode cL_circles 273 = .ok (.iconst 0, 1) := by decide +kernel
theorem dL_circles_274 : decode cL_circles 274 = .ok (.invokevirtual 56, 3) := by decide +kernel
theorem dL_circles_277 : decode cL_circles 277 = .ok (.ldc2_w 144, 3) := by decide +kernel
theorem dL_circles_280 : decode cL_circles 280 = .ok (.lcmp, 1) := by decide +kernel
theorem dL_circles_281 : decode cL_circles 281 = .ok (.ifCond .ne 45, 3) := by decide +kernel
theorem dL_circles_284 : decode cL_circles 284 = .ok (.aload_n 0, 1) := by decide +kernel
theorem dL_circles_285 : decode cL_circles 285 = .ok (.iconst 0, 1) := by decide +kernel
theorem dL_circles_286 : decode cL_circles 286 = .ok (.iconst 1, 1) := by decide +kernel
theorem dL_circles_287 : decode cL_circles 287 = .ok (.bipush 42, 2) := by decide +kernel
theorem dL_circles_289 : decode cL_circles 289 = .ok (.bipush 10, 2) := by decide +kernel
theorem dL_circles_291 : decode cL_circles 291 = .ok (.invokevirtual 52, 3) := by decide +kernel
theorem dL_circles_294 : decode cL_circles 294 = .ok (.ifCond .ne 32, 3) := by decide +kernel
theorem dL_circles_297 : decode cL_circles 297 = .ok (.aload_n 0, 1) := by decide +kernel
theorem dL_circles_298 : decode cL_circles 298 = .ok (.iconst 0, 1) := by decide +kernel
theorem dL_circles_299 : decode cL_circles 299 = .ok (.iconst 1, 1) := by decide +kernel
theorem dL_circles_300 : decode cL_circles 300 = .ok (.bipush 42, 2) := by decide +kernel
theorem dL_circles_302 : decode cL_circles 302 = .ok (.bipush 51, 2) := by decide +kernel
theorem dL_circles_304 : decode cL_circles 304 = .ok (.invokevirtual 52, 3) := by decide +kernel
theorem dL_circles_307 : decode cL_circles 307 = .ok (.iconst 5, 1) := by decide +kernel
theorem dL_circles_308 : decode cL_circles 308 = .ok (.if_icmp .ne 18, 3) := by decide +kernel
theorem dL_circles_311 : decode cL_circles 311 = .ok (.aload_n 0, 1) := by decide +kernel
theorem dL_circles_312 : decode cL_circles 312 = .ok (.iconst 0, 1) := by decide +kernel
theorem dL_circles_313 : decode cL_circles 313 = .ok (.iconst 1, 1) := by decide +kernel
theorem dL_circles_314 : decode cL_circles 314 = .ok (.bipush 42, 2) := by decide +kernel
theorem dL_circles_316 : decode cL_circles 316 = .ok (.bipush 52, 2) := by decide +kernel
theorem dL_circles_318 : decode cL_circles 318 = .ok (.invokevirtual 52, 3) := by decide +kernel
theorem dL_circles_321 : decode cL_circles 321 = .ok (.ldc 55, 2) := by decide +kernel
theorem dL_circles_323 : decode cL_circles 323 = .ok (.if_icmp .eq 5, 3) := by decide +kernel
theorem dL_circles_326 : decode cL_circles 326 = .ok (.iconst 0, 1) := by decide +kernel
theorem dL_circles_327 : decode cL_circles 327 = .ok (.ireturn, 1) := by decide +kernel
theorem dL_circles_328 : decode cL_circles 328 = .ok (.iconst 0, 1) := by decide +kernel
theorem dL_circles_329 : decode cL_circles 329 = .ok (.istore_n 1, 1) := by decide +kernel
theorem dL_circles_330 : decode cL_circles 330 = .ok (.iload_n 1, 1) := by decide +kernel
theorem dL_circles_331 : decode cL_circles 331 = .ok (.bipush 25, 2) := by decide +kernel
theorem dL_circles_333 : decode cL_circles 333 = .ok (.if_icmp .ge 36, 3) := by decide +kernel
theorem dL_circles_336 : decode cL_circles 336 = .ok (.iload_n 1, 1) := by decide +kernel
theorem dL_circles_337 : decode cL_circles 337 = .ok (.iconst 5, 1) := by decide +kernel
theorem dL_circles_338 : decode cL_circles 338 = .ok (.idiv, 1) := by decide +kernel
theorem dL_circles_339 : decode cL_circles 339 = .ok (.istore_n 2, 1) := by decide +kernel
theorem dL_circles_340 : decode cL_circles 340 = .ok (.iload_n 2, 1) := by decide +kernel
theorem dL_circles_341 : decode cL_circles 341 = .ok (.ifCond .eq 22, 3) := by decide +kernel
theorem dL_circles_344 : decode cL_circles 344 = .ok (.iload_n 2, 1) := by decide +kernel
theorem dL_circles_345 : decode cL_circles 345 = .ok (.iconst 2, 1) := by decide +kernel
theorem dL_circles_346 : decode cL_circles 346 = .ok (.if_icmp .eq 17, 3) := by decide +kernel
theorem dL_circles_349 : decode cL_circles 349 = .ok (.aload_n 0, 1) := by decide +kernel
theorem dL_circles_350 : decode cL_circles 350 = .ok (.iconst 1, 1) := by decide +kernel
theorem dL_circles_351 : decode cL_circles 351 = .ok (.iload_n 1, 1) := by decide +kernel
theorem dL_circles_352 : decode cL_circles 352 = .ok (.iconst 5, 1) := by decide +kernel
theorem dL_circles_353 : decode cL_circles 353 = .ok (.irem, 1) := by decide +kernel
theorem dL_circles_354 : decode cL_circles 354 = .ok (.iload_n 2, 1) := by decide +kernel
theorem dL_circles_355 : decode cL_circles 355 = .ok (.invokevirtual 36, 3) := by decide +kernel
theorem dL_circles_358 : decode cL_circles 358 = .ok (.ifCond .ge 5, 3) := by decide +kernel
theorem dL_circles_361 : decode cL_circles 361 = .ok (.iconst 0, 1) := by decide +kernel
theorem dL_circles_362 : decode cL_circles 362 = .ok (.ireturn, 1) := by decide +kernel
theorem dL_circles_363 : decode cL_circles 363 = .ok (.iinc 1 1, 3) := by decide +kernel
theorem dL_circles_366 : decode cL_circles 366 = .ok (.goto (-36), 3) := by decide +kernel
theorem dL_circles_369 : decode cL_circles 369 = .ok (.aload_n 0, 1) := by decide +kernel
theorem dL_circles_370 : decode cL_circles 370 = .ok (.iconst 0, 1) := by decide +kernel
theorem dL_circles_371 : decode cL_circles 371 = .ok (.iconst 1, 1) := by decide +kernel
theorem dL_circles_372 : decode cL_circles 372 = .ok (.iconst 3, 1) := by decide +kernel
theorem dL_circles_373 : decode cL_circles 373 = .ok (.invokevirtual 19, 3) := by decide +kernel
theorem dL_circles_376 : decode cL_circles 376 = .ok (.ifCond .ne 32, 3) := by decide +kernel
theorem dL_circles_379 : decode cL_circles 379 = .ok (.aload_n 0, 1) := by decide +kernel
theorem dL_circles_380 : decode cL_circles 380 = .ok (.iconst 0, 1) := by decide +kernel
theorem dL_circles_381 : decode cL_circles 381 = .ok (.iconst 1, 1) := by decide +kernel
theorem dL_circles_382 : decode cL_circles 382 = .ok (.iconst 4, 1) := by decide +kernel
theorem dL_circles_383 : decode cL_circles 383 = .ok (.invokevirtual 19, 3) := by decide +kernel
theorem dL_circles_386 : decode cL_circles 386 = .ok (.bipush 42, 2) := by decide +kernel
theorem dL_circles_388 : decode cL_circles 388 = .ok (.if_icmp .ne 20, 3) := by decide +kernel
theorem dL_circles_391 : decode cL_circles 391 = .ok (.aload_n 0, 1) := by decide +kernel
theorem dL_circles_392 : decode cL_circles 392 = .ok (.iconst 0, 1) := by decide +kernel
theorem dL_circles_393 : decode cL_circles 393 = .ok (.iconst 1, 1) := by decide +kernel
theorem dL_circles_394 : decode cL_circles 394 = .ok (.invokevirtual 56, 3) := by decide +kernel
theorem dL_circles_397 : decode cL_circles 397 = .ok (.ldc2_w 146, 3) := by decide +kernel
theorem dL_circles_400 : decode cL_circles 400 = .ok (.lcmp, 1) := by decide +kernel
theorem dL_circles_401 : decode cL_circles 401 = .ok (.ifCond .ne 7, 3) := by decide +kernel
theorem dL_circles_404 : decode cL_circles 404 = .ok (.iconst 1, 1) := by decide +kernel
theorem dL_circles_405 : decode cL_circles 405 = .ok (.goto 4, 3) := by decide +kernel
theorem dL_circles_408 : decode cL_circles 408 = .ok (.iconst 0, 1) := by decide +kernel
theorem dL_circles_409 : decode cL_circles 409 = .ok (.ireturn, 1) := by decide +kernel
theorem dL_law_0 : decode cL_law 0 = .ok (.invokestatic 148, 3) := by decide +kernel
theorem dL_law_3 : decode cL_law 3 = .ok (.ifCond .eq 15, 3) := by decide +kernel
theorem dL_law_6 : decode cL_law 6 = .ok (.invokestatic 152, 3) := by decide +kernel
theorem dL_law_9 : decode cL_law 9 = .ok (.ifCond .eq 9, 3) := by decide +kernel
theorem dL_law_12 : decode cL_law 12 = .ok (.invokestatic 155, 3) := by decide +kernel
theorem dL_law_15 : decode cL_law 15 = .ok (.ifCond .ne 5, 3) := by decide +kernel
theorem dL_law_18 : decode cL_law 18 = .ok (.iconst 0, 1) := by decide +kernel
theorem dL_law_19 : decode cL_law 19 = .ok (.ireturn, 1) := by decide +kernel
theorem dL_law_20 : decode cL_law 20 = .ok (.new 14, 3) := by decide +kernel
theorem dL_law_23 : decode cL_law 23 = .ok (.dup, 1) := by decide +kernel
theorem dL_law_24 : decode cL_law 24 = .ok (.invokespecial 84, 3) := by decide +kernel
theorem dL_law_27 : decode cL_law 27 = .ok (.astore_n 1, 1) := by decide +kernel
theorem dL_law_28 : decode cL_law 28 = .ok (.bipush 64, 2) := by decide +kernel
theorem dL_law_30 : decode cL_law 30 = .ok (.newarray .long, 2) := by decide +kernel
theorem dL_law_32 : decode cL_law 32 = .ok (.astore_n 2, 1) := by decide +kernel
theorem dL_law_33 : decode cL_law 33 = .ok (.iconst 0, 1) := by decide +kernel
theorem dL_law_34 : decode cL_law 34 = .ok (.istore_n 3, 1) := by decide +kernel
theorem dL_law_35 : decode cL_law 35 = .ok (.aload_n 1, 1) := by decide +kernel
theorem dL_law_36 : decode cL_law 36 = .ok (.ldc2_w 158, 3) := by decide +kernel
theorem dL_law_39 : decode cL_law 39 = .ok (.invokestatic 85, 3) := by decide +kernel
theorem dL_law_42 : decode cL_law 42 = .ok (.ifCond .ne 5, 3) := by decide +kernel
theorem dL_law_45 : decode cL_law 45 = .ok (.iconst 0, 1) := by decide +kernel
theorem dL_law_46 : decode cL_law 46 = .ok (.ireturn, 1) := by decide +kernel
theorem dL_law_47 : decode cL_law 47 = .ok (.iconst 0, 1) := by decide +kernel
theorem dL_law_48 : decode cL_law 48 = .ok (.istore 4, 2) := by decide +kernel
theorem dL_law_50 : decode cL_law 50 = .ok (.iload 4, 2) := by decide +kernel
theorem dL_law_52 : decode cL_law 52 = .ok (.bipush 36, 2) := by decide +kernel
theorem dL_law_54 : decode cL_law 54 = .ok (.if_icmp .ge 241, 3) := by decide +kernel
theorem dL_law_57 : decode cL_law 57 = .ok (.aload_n 0, 1) := by decide +kernel
theorem dL_law_58 : decode cL_law 58 = .ok (.iload 4, 2) := by decide +kernel
theorem dL_law_60 : decode cL_law 60 = .ok (.invokestatic 160, 3) := by decide +kernel
theorem dL_law_63 : decode cL_law 63 = .ok (.istore 5, 2) := by decide +kernel
theorem dL_law_65 : decode cL_law 65 = .ok (.iload 5, 2) := by decide +kernel
theorem dL_law_67 : decode cL_law 67 = .ok (.bipush 9, 2) := by decide +kernel
theorem dL_law_69 : decode cL_law 69 = .ok (.invokestatic 164, 3) := by decide +kernel
theorem dL_law_72 : decode cL_law 72 = .ok (.istore 6, 2) := by decide +kernel
theorem dL_law_74 : decode cL_law 74 = .ok (.iload 5, 2) := by decide +kernel
theorem dL_law_76 : decode cL_law 76 = .ok (.iconst 4, 1) := by decide +kernel
theorem dL_law_77 : decode cL_law 77 = .ok (.ishr, 1) := by decide +kernel
theorem dL_law_78 : decode cL_law 78 = .ok (.iconst 3, 1) := by decide +kernel
theorem dL_law_79 : decode cL_law 79 = .ok (.invokestatic 164, 3) := by decide +kernel
theorem dL_law_82 : decode cL_law 82 = .ok (.istore 7, 2) := by decide +kernel
theorem dL_law_84 : decode cL_law 84 = .ok (.iload 5, 2) := by decide +kernel
theorem dL_law_86 : decode cL_law 86 = .ok (.bipush 6, 2) := by decide +kernel
theorem dL_law_88 : decode cL_law 88 = .ok (.ishr, 1) := by decide +kernel
theorem dL_law_89 : decode cL_law 89 = .ok (.bipush 8, 2) := by decide +kernel
theorem dL_law_91 : decode cL_law 91 = .ok (.invokestatic 164, 3) := by decide +kernel
theorem dL_law_94 : decode cL_law 94 = .ok (.istore 8, 2) := by decide +kernel
theorem dL_law_96 : decode cL_law 96 = .ok (.aload_n 2, 1) := by decide +kernel
theorem dL_law_97 : decode cL_law 97 = .ok (.iload_n 3, 1) := by decide +kernel
theorem dL_law_98 : decode cL_law 98 = .ok (.aload_n 1, 1) := by decide +kernel
theorem dL_law_99 : decode cL_law 99 = .ok (.invokestatic 74, 3) := by decide +kernel
theorem dL_law_102 : decode cL_law 102 = .ok (.lastore, 1) := by decide +kernel
theorem dL_law_103 : decode cL_law 103 = .ok (.aload_n 1, 1) := by decide +kernel
theorem dL_law_104 : decode cL_law 104 = .ok (.iconst 2, 1) := by decide +kernel
theorem dL_law_105 : decode cL_law 105 = .ok (.invokevirtual 22, 3) := by decide +kernel
theorem dL_law_108 : decode cL_law 108 = .ok (.istore 9, 2) := by decide +kernel
theorem dL_law_110 : decode cL_law 110 = .ok (.iload 6, 2) := by decide +kernel
theorem dL_law_112 : decode cL_law 112 = .ok (.ifCond .ne 23, 3) := by decide +kernel
theorem dL_law_115 : decode cL_law 115 = .ok (.aload_n 1, 1) := by decide +kernel
theorem dL_law_116 : decode cL_law 116 = .ok (.iload 7, 2) := by decide +kernel
theorem dL_law_118 : decode cL_law 118 = .ok (.iload 8, 2) := by decide +kernel
theorem dL_law_120 : decode cL_law 120 = .ok (.iload 5, 2) := by decide +kernel
theorem dL_law_122 : decode cL_law 122 = .ok (.bipush 9, 2) := by decide +kernel
theorem dL_law_124 : decode cL_law 124 = .ok (.ishr, 1) := by decide +kernel
theorem dL_law_125 : decode cL_law 125 = .ok (.iconst 3, 1) := by decide +kernel
theorem dL_law_126 : decode cL_law 126 = .ok (.invokestatic 164, 3) := by decide +kernel
theorem dL_law_129 : decode cL_law 129 = .ok (.invokevirtual 26, 3) := by decide +kernel
theorem dL_law_132 : decode cL_law 132 = .ok (.goto 114, 3) := by decide +kernel
theorem dL_law_135 : decode cL_law 135 = .ok (.iload 6, 2) := by decide +kernel
theorem dL_law_137 : decode cL_law 137 = .ok (.iconst 5, 1) := by decide +kernel
theorem dL_law_138 : decode cL_law 138 = .ok (.if_icmp .ge 34, 3) := by decide +kernel
theorem dL_law_141 : decode cL_law 141 = .ok (.aload_n 1, 1) := by decide +kernel
theorem dL_law_142 : decode cL_law 142 = .ok (.iload 7, 2) := by decide +kernel
theorem dL_law_144 : decode cL_law 144 = .ok (.iload 8, 2) := by decide +kernel
theorem dL_law_146 : decode cL_law 146 = .ok (.iload 5, 2) := by decide +kernel
theorem dL_law_148 : decode cL_law 148 = .ok (.bipush 9, 2) := by decide +kernel
theorem dL_law_150 : decode cL_law 150 = .ok (.ishr, 1) := by decide +kernel
theorem dL_law_151 : decode cL_law 151 = .ok (.bipush 6, 2) := by decide +kernel
theorem dL_law_153 : decode cL_law 153 = .ok (.invokestatic 164, 3) := by decide +kernel
theorem dL_law_156 : decode cL_law 156 = .ok (.iload 5, 2) := by decide +kernel
theorem dL_law_158 : decode cL_law 158 = .ok (.bipush 12, 2) := by decide +kernel
theorem dL_law_160 : decode cL_law 160 = .ok (.ishr, 1) := by decide +kernel
theorem dL_law_161 : decode cL_law 161 = .ok (.bipush 8, 2) := by decide +kernel
theorem dL_law_163 : decode cL_law 163 = .ok (.invokestatic 164, 3) := by decide +kernel
theorem dL_law_166 : decode cL_law 166 = .ok (.invokevirtual 32, 3) := by decide +kernel
theorem dL_law_169 : decode cL_law 169 = .ok (.goto 77, 3) := by decide +kernel
theorem dL_law_172 : decode cL_law 172 = .ok (.iload 6, 2) := by decide +kernel
theorem dL_law_174 : decode cL_law 174 = .ok (.iconst 5, 1) := by decide +kernel
theorem dL_law_175 : decode cL_law 175 = .ok (.if_icmp .ne 24, 3) := by decide +kernel
theorem dL_law_178 : decode cL_law 178 = .ok (.aload_n 1, 1) := by decide +kernel
theorem dL_law_179 : decode cL_law 179 = .ok (.iload 7, 2) := by decide +kernel
theorem dL_law_181 : decode cL_law 181 = .ok (.iload 8, 2) := by decide +kernel
theorem dL_law_183 : decode cL_law 183 = .ok (.iload 5, 2) := by decide +kernel
theorem dL_law_185 : decode cL_law 185 = .ok (.bipush 9, 2) := by decide +kernel
theorem dL_law_187 : decode cL_law 187 = .ok (.ishr, 1) := by decide +kernel
theorem dL_law_188 : decode cL_law 188 = .ok (.bipush 6, 2) := by decide +kernel
theorem dL_law_190 : decode cL_law 190 = .ok (.invokestatic 164, 3) := by decide +kernel
theorem dL_law_193 : decode cL_law 193 = .ok (.invokevirtual 36, 3) := by decide +kernel
theorem dL_law_196 : decode cL_law 196 = .ok (.goto 50, 3) := by decide +kernel
theorem dL_law_199 : decode cL_law 199 = .ok (.iload 6, 2) := by decide +kernel
theorem dL_law_201 : decode cL_law 201 = .ok (.bipush 6, 2) := by decide +kernel
theorem dL_law_203 : decode cL_law 203 = .ok (.if_icmp .ne 21, 3) := by decide +kernel
theorem dL_law_206 : decode cL_law 206 = .ok (.aload_n 1, 1) := by decide +kernel
theorem dL_law_207 : decode cL_law 207 = .ok (.iload 7, 2) := by decide +kernel
theorem dL_law_209 : decode cL_law 209 = .ok (.iload 5, 2) := by decide +kernel
theorem dL_law_211 : decode cL_law 211 = .ok (.bipush 9, 2) := by decide +kernel
theorem dL_law_213 : decode cL_law 213 = .ok (.ishr, 1) := by decide +kernel
theorem dL_law_214 : decode cL_law 214 = .ok (.iconst 3, 1) := by decide +kernel
theorem dL_law_215 : decode cL_law 215 = .ok (.invokestatic 164, 3) := by decide +kernel
theorem dL_law_218 : decode cL_law 218 = .ok (.invokevirtual 39, 3) := by decide +kernel
theorem dL_law_221 : decode cL_law 221 = .ok (.goto 25, 3) := by decide +kernel
theorem dL_law_224 : decode cL_law 224 = .ok (.iload 6, 2) := by decide +kernel
theorem dL_law_226 : decode cL_law 226 = .ok (.bipush 7, 2) := by decide +kernel
theorem dL_law_228 : decode cL_law 228 = .ok (.if_icmp .ne 12, 3) := by decide +kernel
theorem dL_law_231 : decode cL_law 231 = .ok (.aload_n 1, 1) := by decide +kernel
theorem dL_law_232 : decode cL_law 232 = .ok (.iload 7, 2) := by decide +kernel
theorem dL_law_234 : decode cL_law 234 = .ok (.invokevirtual 43, 3) := by decide +kernel
theorem dL_law_237 : decode cL_law 237 = .ok (.goto 9, 3) := by decide +kernel
theorem dL_law_240 : decode cL_law 240 = .ok (.aload_n 1, 1) := by decide +kernel
theorem dL_law_241 : decode cL_law 241 = .ok (.iload 7, 2) := by decide +kernel
theorem dL_law_243 : decode cL_law 243 = .ok (.invokevirtual 49, 3) := by decide +kernel
theorem dL_law_246 : decode cL_law 246 = .ok (.istore 10, 2) := by decide +kernel
theorem dL_law_248 : decode cL_law 248 = .ok (.iload 10, 2) := by decide +kernel
theorem dL_law_250 : decode cL_law 250 = .ok (.ifCond .ge 26, 3) := by decide +kernel
theorem dL_law_253 : decode cL_law 253 = .ok (.aload_n 1, 1) := by decide +kernel
theorem dL_law_254 : decode cL_law 254 = .ok (.iconst 2, 1) := by decide +kernel
theorem dL_law_255 : decode cL_law 255 = .ok (.invokevirtual 22, 3) := by decide +kernel
theorem dL_law_258 : decode cL_law 258 = .ok (.iload 9, 2) := by decide +kernel
theorem dL_law_260 : decode cL_law 260 = .ok (.if_icmp .ne 14, 3) := by decide +kernel
theorem dL_law_263 : decode cL_law 263 = .ok (.aload_n 1, 1) := by decide +kernel
theorem dL_law_264 : decode cL_law 264 = .ok (.invokestatic 74, 3) := by decide +kernel
theorem dL_law_267 : decode cL_law 267 = .ok (.aload_n 2, 1) := by decide +kernel
theorem dL_law_268 : decode cL_law 268 = .ok (.iload_n 3, 1) := by decide +kernel
theorem dL_law_269 : decode cL_law 269 = .ok (.laload, 1) := by decide +kernel
theorem dL_law_270 : decode cL_law 270 = .ok (.lcmp, 1) := by decide +kernel
theorem dL_law_271 : decode cL_law 271 = .ok (.ifCond .eq 5, 3) := by decide +kernel
theorem dL_law_274 : decode cL_law 274 = .ok (.iconst 0, 1) := by decide +kernel
theorem dL_law_275 : decode cL_law 275 = .ok (.ireturn, 1) := by decide +kernel
theorem dL_law_276 : decode cL_law 276 = .ok (.iload_n 3, 1) := by decide +kernel
theorem dL_law_277 : decode cL_law 277 = .ok (.iload 10, 2) := by decide +kernel
theorem dL_law_279 : decode cL_law 279 = .ok (.ifCond .ge 7, 3) := by decide +kernel
theorem dL_law_282 : decode cL_law 282 = .ok (.iconst 0, 1) := by decide +kernel
theorem dL_law_283 : decode cL_law 283 = .ok (.goto 4, 3) := by decide +kernel
theorem dL_law_286 : decode cL_law 286 = .ok (.iconst 1, 1) := by decide +kernel
theorem dL_law_287 : decode cL_law 287 = .ok (.iadd, 1) := by decide +kernel
theorem dL_law_288 : decode cL_law 288 = .ok (.istore_n 3, 1) := by decide +kernel
theorem dL_law_289 : decode cL_law 289 = .ok (.iinc 4 1, 3) := by decide +kernel
theorem dL_law_292 : decode cL_law 292 = .ok (.goto (-242), 3) := by decide +kernel
theorem dL_law_295 : decode cL_law 295 = .ok (.aload_n 2, 1) := by decide +kernel
theorem dL_law_296 : decode cL_law 296 = .ok (.iload_n 3, 1) := by decide +kernel
theorem dL_law_297 : decode cL_law 297 = .ok (.aload_n 1, 1) := by decide +kernel
theorem dL_law_298 : decode cL_law 298 = .ok (.invokestatic 74, 3) := by decide +kernel
theorem dL_law_301 : decode cL_law 301 = .ok (.lastore, 1) := by decide +kernel
theorem dL_law_302 : decode cL_law 302 = .ok (.aload_n 1, 1) := by decide +kernel
theorem dL_law_303 : decode cL_law 303 = .ok (.iconst 0, 1) := by decide +kernel
theorem dL_law_304 : decode cL_law 304 = .ok (.invokevirtual 49, 3) := by decide +kernel
theorem dL_law_307 : decode cL_law 307 = .ok (.iconst 2, 1) := by decide +kernel
theorem dL_law_308 : decode cL_law 308 = .ok (.if_icmp .ne 48, 3) := by decide +kernel
theorem dL_law_311 : decode cL_law 311 = .ok (.aload_n 1, 1) := by decide +kernel
theorem dL_law_312 : decode cL_law 312 = .ok (.iconst 0, 1) := by decide +kernel
theorem dL_law_313 : decode cL_law 313 = .ok (.bipush 7, 2) := by decide +kernel
theorem dL_law_315 : decode cL_law 315 = .ok (.iconst 0, 1) := by decide +kernel
theorem dL_law_316 : decode cL_law 316 = .ok (.invokevirtual 13, 3) := by decide +kernel
theorem dL_law_319 : decode cL_law 319 = .ok (.iconst 2, 1) := by decide +kernel
theorem dL_law_320 : decode cL_law 320 = .ok (.if_icmp .ne 36, 3) := by decide +kernel
theorem dL_law_323 : decode cL_law 323 = .ok (.aload_n 1, 1) := by decide +kernel
theorem dL_law_324 : decode cL_law 324 = .ok (.iconst 0, 1) := by decide +kernel
theorem dL_law_325 : decode cL_law 325 = .ok (.iconst 0, 1) := by decide +kernel
theorem dL_law_326 : decode cL_law 326 = .ok (.iconst 2, 1) := by decide +kernel
theorem dL_law_327 : decode cL_law 327 = .ok (.invokevirtual 26, 3) := by decide +kernel
theorem dL_law_330 : decode cL_law 330 = .ok (.iconst 1, 1) := by decide +kernel
theorem dL_law_331 : decode cL_law 331 = .ok (.if_icmp .ne 25, 3) := by decide +kernel
theorem dL_law_334 : decode cL_law 334 = .ok (.aload_n 1, 1) := by decide +kernel
theorem dL_law_335 : decode cL_law 335 = .ok (.invokestatic 140, 3) := by decide +kernel
theorem dL_law_338 : decode cL_law 338 = .ok (.ifCond .eq 18, 3) := by decide +kernel
theorem dL_law_341 : decode cL_law 341 = .ok (.aload_n 1, 1) := by decide +kernel
theorem dL_law_342 : decode cL_law 342 = .ok (.invokevirtual 130, 3) := by decide +kernel
theorem dL_law_345 : decode cL_law 345 = .ok (.iconst 1, 1) := by decide +kernel
theorem dL_law_346 : decode cL_law 346 = .ok (.if_icmp .lt 10, 3) := by decide +kernel
theorem dL_law_349 : decode cL_law 349 = .ok (.aload_n 1, 1) := by decide +kernel
theorem dL_law_350 : decode cL_law 350 = .ok (.invokevirtual 130, 3) := by decide +kernel
theorem dL_law_353 : decode cL_law 353 = .ok (.ifCond .ge 5, 3) := by decide +kernel
theorem dL_law_356 : decode cL_law 356 = .ok (.iconst 0, 1) := by decide +kernel
theorem dL_law_357 : decode cL_law 357 = .ok (.ireturn, 1) := by decide +kernel
theorem dL_law_358 : decode cL_law 358 = .ok (.iconst 0, 1) := by decide +kernel
theorem dL_law_359 : decode cL_law 359 = .ok (.istore 4, 2) := by decide +kernel
theorem dL_law_361 : decode cL_law 361 = .ok (.aload_n 1, 1) := by decide +kernel
theorem dL_law_362 : decode cL_law 362 = .ok (.iconst 2, 1) := by decide +kernel
theorem dL_law_363 : decode cL_law 363 = .ok (.invokevirtual 22, 3) := by decide +kernel
theorem dL_law_366 : decode cL_law 366 = .ok (.ifCond .le 38, 3) := by decide +kernel
theorem dL_law_369 : decode cL_law 369 = .ok (.iload 4, 2) := by decide +kernel
theorem dL_law_371 : decode cL_law 371 = .ok (.iconst 4, 1) := by decide +kernel
theorem dL_law_372 : decode cL_law 372 = .ok (.if_icmp .gt 24, 3) := by decide +kernel
theorem dL_law_375 : decode cL_law 375 = .ok (.aload_n 1, 1) := by decide +kernel
theorem dL_law_376 : decode cL_law 376 = .ok (.invokestatic 74, 3) := by decide +kernel
theorem dL_law_379 : decode cL_law 379 = .ok (.aload_n 2, 1) := by decide +kernel
theorem dL_law_380 : decode cL_law 380 = .ok (.iload_n 3, 1) := by decide +kernel
theorem dL_law_381 : decode cL_law 381 = .ok (.iload 4, 2) := by decide +kernel
theorem dL_law_383 : decode cL_law 383 = .ok (.isub, 1) := by decide +kernel
theorem dL_law_384 : decode cL_law 384 = .ok (.laload, 1) := by decide +kernel
theorem dL_law_385 : decode cL_law 385 = .ok (.lcmp, 1) := by decide +kernel
theorem dL_law_386 : decode cL_law 386 = .ok (.ifCond .ne 10, 3) := by decide +kernel
theorem dL_law_389 : decode cL_law 389 = .ok (.aload_n 1, 1) := by decide +kernel
theorem dL_law_390 : decode cL_law 390 = .ok (.invokevirtual 130, 3) := by decide +kernel
theorem dL_law_393 : decode cL_law 393 = .ok (.ifCond .ge 5, 3) := by decide +kernel
theorem dL_law_396 : decode cL_law 396 = .ok (.iconst 0, 1) := by decide +kernel
theorem dL_law_397 : decode cL_law 397 = .ok (.ireturn, 1) := by decide +kernel
theorem dL_law_398 : decode cL_law 398 = .ok (.iinc 4 1, 3) := by decide +kernel
theorem dL_law_401 : decode cL_law 401 = .ok (.goto (-40), 3) := by decide +kernel
theorem dL_law_404 : decode cL_law 404 = .ok (.aload_n 1, 1) := by decide +kernel
theorem dL_law_405 : decode cL_law 405 = .ok (.invokevirtual 130, 3) := by decide +kernel
theorem dL_law_408 : decode cL_law 408 = .ok (.ldc 89, 2) := by decide +kernel
theorem dL_law_410 : decode cL_law 410 = .ok (.if_icmp .ne 33, 3) := by decide +kernel
theorem dL_law_413 : decode cL_law 413 = .ok (.aload_n 1, 1) := by decide +kernel
theorem dL_law_414 : decode cL_law 414 = .ok (.iconst 3, 1) := by decide +kernel
theorem dL_law_415 : decode cL_law 415 = .ok (.invokevirtual 22, 3) := by decide +kernel
theorem dL_law_418 : decode cL_law 418 = .ok (.bipush 8, 2) := by decide +kernel
theorem dL_law_420 : decode cL_law 420 = .ok (.if_icmp .ne 23, 3) := by decide +kernel
theorem dL_law_423 : decode cL_law 423 = .ok (.aload_n 1, 1) := by decide +kernel
theorem dL_law_424 : decode cL_law 424 = .ok (.invokevirtual 167, 3) := by decide +kernel
theorem dL_law_427 : decode cL_law 427 = .ok (.bipush 8, 2) := by decide +kernel
theorem dL_law_429 : decode cL_law 429 = .ok (.if_icmp .ne 14, 3) := by decide +kernel
theorem dL_law_432 : decode cL_law 432 = .ok (.aload_n 1, 1) := by decide +kernel
theorem dL_law_433 : decode cL_law 433 = .ok (.invokevirtual 167, 3) := by decide +kernel
theorem dL_law_436 : decode cL_law 436 = .ok (.ifCond .ne 7, 3) := by decide +kernel
theorem dL_law_439 : decode cL_law 439 = .ok (.iconst 1, 1) := by decide +kernel
theorem dL_law_440 : decode cL_law 440 = .ok (.goto 4, 3) := by decide +kernel
theorem dL_law_443 : decode cL_law 443 = .ok (.iconst 0, 1) := by decide +kernel
theorem dL_law_444 : decode cL_law 444 = .ok (.ireturn, 1) := by decide +kernel
