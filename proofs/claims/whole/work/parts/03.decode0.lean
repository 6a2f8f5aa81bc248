theorem d_X0_init_0 : decode c_X0_init 0 = .ok (.aload_n 0, 1) := by decide +kernel
theorem d_X0_init_1 : decode c_X0_init 1 = .ok (.invokespecial 3, 3) := by decide +kernel
theorem d_X0_init_4 : decode c_X0_init 4 = .ok (.aload_n 0, 1) := by decide +kernel
theorem d_X0_init_5 : decode c_X0_init 5 = .ok (.bipush 64, 2) := by decide +kernel
theorem d_X0_init_7 : decode c_X0_init 7 = .ok (.newarray .int, 2) := by decide +kernel
theorem d_X0_init_9 : decode c_X0_init 9 = .ok (.putfield 9, 3) := by decide +kernel
theorem d_X0_init_12 : decode c_X0_init 12 = .ok (.aload_n 0, 1) := by decide +kernel
theorem d_X0_init_13 : decode c_X0_init 13 = .ok (.bipush 64, 2) := by decide +kernel
theorem d_X0_init_15 : decode c_X0_init 15 = .ok (.newarray .long, 2) := by decide +kernel
theorem d_X0_init_17 : decode c_X0_init 17 = .ok (.putfield 13, 3) := by decide +kernel
theorem d_X0_init_20 : decode c_X0_init 20 = .ok (.aload_n 0, 1) := by decide +kernel
theorem d_X0_init_21 : decode c_X0_init 21 = .ok (.bipush 14, 2) := by decide +kernel
theorem d_X0_init_23 : decode c_X0_init 23 = .ok (.newarray .int, 2) := by decide +kernel
theorem d_X0_init_25 : decode c_X0_init 25 = .ok (.putfield 17, 3) := by decide +kernel
theorem d_X0_init_28 : decode c_X0_init 28 = .ok (.aload_n 0, 1) := by decide +kernel
theorem d_X0_init_29 : decode c_X0_init 29 = .ok (.ldc2_w 20, 3) := by decide +kernel
theorem d_X0_init_32 : decode c_X0_init 32 = .ok (.ldc2_w 22, 3) := by decide +kernel
theorem d_X0_init_35 : decode c_X0_init 35 = .ok (.iconst 0, 1) := by decide +kernel
theorem d_X0_init_36 : decode c_X0_init 36 = .ok (.invokevirtual 24, 3) := by decide +kernel
theorem d_X0_init_39 : decode c_X0_init 39 = .ok (.return_, 1) := by decide +kernel
theorem d_X0_begin_0 : decode c_X0_begin 0 = .ok (.aload_n 0, 1) := by decide +kernel
theorem d_X0_begin_1 : decode c_X0_begin 1 = .ok (.ldc2_w 20, 3) := by decide +kernel
theorem d_X0_begin_4 : decode c_X0_begin 4 = .ok (.ldc2_w 22, 3) := by decide +kernel
theorem d_X0_begin_7 : decode c_X0_begin 7 = .ok (.iconst 0, 1) := by decide +kernel
theorem d_X0_begin_8 : decode c_X0_begin 8 = .ok (.invokevirtual 24, 3) := by decide +kernel
theorem d_X0_begin_11 : decode c_X0_begin 11 = .ok (.return_, 1) := by decide +kernel
theorem d_X0_set_0 : decode c_X0_set 0 = .ok (.lload_n 1, 1) := by decide +kernel
theorem d_X0_set_1 : decode c_X0_set 1 = .ok (.lload_n 3, 1) := by decide +kernel
theorem d_X0_set_2 : decode c_X0_set 2 = .ok (.land, 1) := by decide +kernel
theorem d_X0_set_3 : decode c_X0_set 3 = .ok (.lconst 0, 1) := by decide +kernel
theorem d_X0_set_4 : decode c_X0_set 4 = .ok (.lcmp, 1) := by decide +kernel
theorem d_X0_set_5 : decode c_X0_set 5 = .ok (.ifCond .eq 13, 3) := by decide +kernel
theorem d_X0_set_8 : decode c_X0_set 8 = .ok (.new 28, 3) := by decide +kernel
theorem d_X0_set_11 : decode c_X0_set 11 = .ok (.dup, 1) := by decide +kernel
theorem d_X0_set_12 : decode c_X0_set 12 = .ok (.ldc 30, 2) := by decide +kernel
theorem d_X0_set_14 : decode c_X0_set 14 = .ok (.invokespecial 32, 3) := by decide +kernel
theorem d_X0_set_17 : decode c_X0_set 17 = .ok (.athrow, 1) := by decide +kernel
theorem d_X0_set_18 : decode c_X0_set 18 = .ok (.iload 5, 2) := by decide +kernel
theorem d_X0_set_20 : decode c_X0_set 20 = .ok (.invokestatic 35, 3) := by decide +kernel
theorem d_X0_set_23 : decode c_X0_set 23 = .ok (.iload 5, 2) := by decide +kernel
theorem d_X0_set_25 : decode c_X0_set 25 = .ok (.ifCond .ne 13, 3) := by decide +kernel
theorem d_X0_set_28 : decode c_X0_set 28 = .ok (.aload_n 0, 1) := by decide +kernel
theorem d_X0_set_29 : decode c_X0_set 29 = .ok (.lload_n 1, 1) := by decide +kernel
theorem d_X0_set_30 : decode c_X0_set 30 = .ok (.lload_n 3, 1) := by decide +kernel
theorem d_X0_set_31 : decode c_X0_set 31 = .ok (.iconst 0, 1) := by decide +kernel
theorem d_X0_set_32 : decode c_X0_set 32 = .ok (.invokevirtual 24, 3) := by decide +kernel
theorem d_X0_set_35 : decode c_X0_set 35 = .ok (.goto 10, 3) := by decide +kernel
theorem d_X0_set_38 : decode c_X0_set 38 = .ok (.aload_n 0, 1) := by decide +kernel
theorem d_X0_set_39 : decode c_X0_set 39 = .ok (.lload_n 3, 1) := by decide +kernel
theorem d_X0_set_40 : decode c_X0_set 40 = .ok (.lload_n 1, 1) := by decide +kernel
theorem d_X0_set_41 : decode c_X0_set 41 = .ok (.iconst 1, 1) := by decide +kernel
theorem d_X0_set_42 : decode c_X0_set 42 = .ok (.invokevirtual 24, 3) := by decide +kernel
theorem d_X0_set_45 : decode c_X0_set 45 = .ok (.return_, 1) := by decide +kernel
theorem d_X0_discs_0 : decode c_X0_discs 0 = .ok (.iload_n 1, 1) := by decide +kernel
theorem d_X0_discs_1 : decode c_X0_discs 1 = .ok (.invokestatic 35, 3) := by decide +kernel
theorem d_X0_discs_4 : decode c_X0_discs 4 = .ok (.aload_n 0, 1) := by decide +kernel
theorem d_X0_discs_5 : decode c_X0_discs 5 = .ok (.iload_n 1, 1) := by decide +kernel
theorem d_X0_discs_6 : decode c_X0_discs 6 = .ok (.invokevirtual 39, 3) := by decide +kernel
theorem d_X0_discs_9 : decode c_X0_discs 9 = .ok (.lreturn, 1) := by decide +kernel
theorem d_X0_player_0 : decode c_X0_player 0 = .ok (.aload_n 0, 1) := by decide +kernel
theorem d_X0_player_1 : decode c_X0_player 1 = .ok (.getfield 43, 3) := by decide +kernel
theorem d_X0_player_4 : decode c_X0_player 4 = .ok (.ireturn, 1) := by decide +kernel
theorem d_X0_moves_0 : decode c_X0_moves 0 = .ok (.aload_n 0, 1) := by decide +kernel
theorem d_X0_moves_1 : decode c_X0_moves 1 = .ok (.getfield 47, 3) := by decide +kernel
theorem d_X0_moves_4 : decode c_X0_moves 4 = .ok (.aload_n 0, 1) := by decide +kernel
theorem d_X0_moves_5 : decode c_X0_moves 5 = .ok (.getfield 51, 3) := by decide +kernel
theorem d_X0_moves_8 : decode c_X0_moves 8 = .ok (.invokestatic 54, 3) := by decide +kernel
theorem d_X0_moves_11 : decode c_X0_moves 11 = .ok (.lreturn, 1) := by decide +kernel
theorem d_X0_turns_0 : decode c_X0_turns 0 = .ok (.iload_n 1, 1) := by decide +kernel
theorem d_X0_turns_1 : decode c_X0_turns 1 = .ok (.ifCond .lt 9, 3) := by decide +kernel
theorem d_X0_turns_4 : decode c_X0_turns 4 = .ok (.iload_n 1, 1) := by decide +kernel
theorem d_X0_turns_5 : decode c_X0_turns 5 = .ok (.bipush 64, 2) := by decide +kernel
theorem d_X0_turns_7 : decode c_X0_turns 7 = .ok (.if_icmp .lt 13, 3) := by decide +kernel
theorem d_X0_turns_10 : decode c_X0_turns 10 = .ok (.new 28, 3) := by decide +kernel
theorem d_X0_turns_13 : decode c_X0_turns 13 = .ok (.dup, 1) := by decide +kernel
theorem d_X0_turns_14 : decode c_X0_turns 14 = .ok (.ldc 58, 2) := by decide +kernel
theorem d_X0_turns_16 : decode c_X0_turns 16 = .ok (.invokespecial 32, 3) := by decide +kernel
theorem d_X0_turns_19 : decode c_X0_turns 19 = .ok (.athrow, 1) := by decide +kernel
theorem d_X0_turns_20 : decode c_X0_turns 20 = .ok (.iload_n 1, 1) := by decide +kernel
theorem d_X0_turns_21 : decode c_X0_turns 21 = .ok (.invokestatic 60, 3) := by decide +kernel
theorem d_X0_turns_24 : decode c_X0_turns 24 = .ok (.lstore_n 2, 1) := by decide +kernel
theorem d_X0_turns_25 : decode c_X0_turns 25 = .ok (.lload_n 2, 1) := by decide +kernel
theorem d_X0_turns_26 : decode c_X0_turns 26 = .ok (.aload_n 0, 1) := by decide +kernel
theorem d_X0_turns_27 : decode c_X0_turns 27 = .ok (.invokevirtual 63, 3) := by decide +kernel
theorem d_X0_turns_30 : decode c_X0_turns 30 = .ok (.land, 1) := by decide +kernel
theorem d_X0_turns_31 : decode c_X0_turns 31 = .ok (.lconst 0, 1) := by decide +kernel
theorem d_X0_turns_32 : decode c_X0_turns 32 = .ok (.lcmp, 1) := by decide +kernel
theorem d_X0_turns_33 : decode c_X0_turns 33 = .ok (.ifCond .ne 7, 3) := by decide +kernel
theorem d_X0_turns_36 : decode c_X0_turns 36 = .ok (.lconst 0, 1) := by decide +kernel
theorem d_X0_turns_37 : decode c_X0_turns 37 = .ok (.goto 15, 3) := by decide +kernel
theorem d_X0_turns_40 : decode c_X0_turns 40 = .ok (.aload_n 0, 1) := by decide +kernel
theorem d_X0_turns_41 : decode c_X0_turns 41 = .ok (.getfield 47, 3) := by decide +kernel
theorem d_X0_turns_44 : decode c_X0_turns 44 = .ok (.aload_n 0, 1) := by decide +kernel
theorem d_X0_turns_45 : decode c_X0_turns 45 = .ok (.getfield 51, 3) := by decide +kernel
theorem d_X0_turns_48 : decode c_X0_turns 48 = .ok (.lload_n 2, 1) := by decide +kernel
theorem d_X0_turns_49 : decode c_X0_turns 49 = .ok (.invokestatic 67, 3) := by decide +kernel
theorem d_X0_turns_52 : decode c_X0_turns 52 = .ok (.lreturn, 1) := by decide +kernel
theorem d_X0_over_0 : decode c_X0_over 0 = .ok (.aload_n 0, 1) := by decide +kernel
theorem d_X0_over_1 : decode c_X0_over 1 = .ok (.getfield 47, 3) := by decide +kernel
theorem d_X0_over_4 : decode c_X0_over 4 = .ok (.aload_n 0, 1) := by decide +kernel
theorem d_X0_over_5 : decode c_X0_over 5 = .ok (.getfield 51, 3) := by decide +kernel
theorem d_X0_over_8 : decode c_X0_over 8 = .ok (.invokestatic 71, 3) := by decide +kernel
theorem d_X0_over_11 : decode c_X0_over 11 = .ok (.ireturn, 1) := by decide +kernel
theorem d_X0_play_0 : decode c_X0_play 0 = .ok (.aload_n 0, 1) := by decide +kernel
theorem d_X0_play_1 : decode c_X0_play 1 = .ok (.iload_n 1, 1) := by decide +kernel
theorem d_X0_play_2 : decode c_X0_play 2 = .ok (.invokevirtual 75, 3) := by decide +kernel
theorem d_X0_play_5 : decode c_X0_play 5 = .ok (.ifCond .ne 13, 3) := by decide +kernel
theorem d_X0_play_8 : decode c_X0_play 8 = .ok (.new 28, 3) := by decide +kernel
theorem d_X0_play_11 : decode c_X0_play 11 = .ok (.dup, 1) := by decide +kernel
theorem d_X0_play_12 : decode c_X0_play 12 = .ok (.ldc 79, 2) := by decide +kernel
theorem d_X0_play_14 : decode c_X0_play 14 = .ok (.invokespecial 32, 3) := by decide +kernel
theorem d_X0_play_17 : decode c_X0_play 17 = .ok (.athrow, 1) := by decide +kernel
theorem d_X0_play_18 : decode c_X0_play 18 = .ok (.aload_n 0, 1) := by decide +kernel
theorem d_X0_play_19 : decode c_X0_play 19 = .ok (.getfield 81, 3) := by decide +kernel
theorem d_X0_play_22 : decode c_X0_play 22 = .ok (.bipush 64, 2) := by decide +kernel
theorem d_X0_play_24 : decode c_X0_play 24 = .ok (.if_icmp .lt 13, 3) := by decide +kernel
theorem d_X0_play_27 : decode c_X0_play 27 = .ok (.new 84, 3) := by decide +kernel
theorem d_X0_play_30 : decode c_X0_play 30 = .ok (.dup, 1) := by decide +kernel
theorem d_X0_play_31 : decode c_X0_play 31 = .ok (.ldc 86, 2) := by decide +kernel
theorem d_X0_play_33 : decode c_X0_play 33 = .ok (.invokespecial 88, 3) := by decide +kernel
theorem d_X0_play_36 : decode c_X0_play 36 = .ok (.athrow, 1) := by decide +kernel
theorem d_X0_play_37 : decode c_X0_play 37 = .ok (.aload_n 0, 1) := by decide +kernel
theorem d_X0_play_38 : decode c_X0_play 38 = .ok (.iload_n 1, 1) := by decide +kernel
theorem d_X0_play_39 : decode c_X0_play 39 = .ok (.invokevirtual 89, 3) := by decide +kernel
theorem d_X0_play_42 : decode c_X0_play 42 = .ok (.ireturn, 1) := by decide +kernel
theorem d_X0_back_0 : decode c_X0_back 0 = .ok (.aload_n 0, 1) := by decide +kernel
theorem d_X0_back_1 : decode c_X0_back 1 = .ok (.getfield 81, 3) := by decide +kernel
theorem d_X0_back_4 : decode c_X0_back 4 = .ok (.ifCond .gt 13, 3) := by decide +kernel
theorem d_X0_back_7 : decode c_X0_back 7 = .ok (.new 93, 3) := by decide +kernel
theorem d_X0_back_10 : decode c_X0_back 10 = .ok (.dup, 1) := by decide +kernel
theorem d_X0_back_11 : decode c_X0_back 11 = .ok (.ldc 95, 2) := by decide +kernel
theorem d_X0_back_13 : decode c_X0_back 13 = .ok (.invokespecial 97, 3) := by decide +kernel
theorem d_X0_back_16 : decode c_X0_back 16 = .ok (.athrow, 1) := by decide +kernel
theorem d_X0_back_17 : decode c_X0_back 17 = .ok (.aload_n 0, 1) := by decide +kernel
theorem d_X0_back_18 : decode c_X0_back 18 = .ok (.dup, 1) := by decide +kernel
theorem d_X0_back_19 : decode c_X0_back 19 = .ok (.getfield 81, 3) := by decide +kernel
theorem d_X0_back_22 : decode c_X0_back 22 = .ok (.iconst 1, 1) := by decide +kernel
theorem d_X0_back_23 : decode c_X0_back 23 = .ok (.isub, 1) := by decide +kernel
theorem d_X0_back_24 : decode c_X0_back 24 = .ok (.putfield 81, 3) := by decide +kernel
theorem d_X0_back_27 : decode c_X0_back 27 = .ok (.aload_n 0, 1) := by decide +kernel
theorem d_X0_back_28 : decode c_X0_back 28 = .ok (.getfield 9, 3) := by decide +kernel
theorem d_X0_back_31 : decode c_X0_back 31 = .ok (.aload_n 0, 1) := by decide +kernel
theorem d_X0_back_32 : decode c_X0_back 32 = .ok (.getfield 81, 3) := by decide +kernel
theorem d_X0_back_35 : decode c_X0_back 35 = .ok (.iaload, 1) := by decide +kernel
theorem d_X0_back_36 : decode c_X0_back 36 = .ok (.istore_n 1, 1) := by decide +kernel
theorem d_X0_back_37 : decode c_X0_back 37 = .ok (.aload_n 0, 1) := by decide +kernel
theorem d_X0_back_38 : decode c_X0_back 38 = .ok (.getfield 13, 3) := by decide +kernel
theorem d_X0_back_41 : decode c_X0_back 41 = .ok (.aload_n 0, 1) := by decide +kernel
theorem d_X0_back_42 : decode c_X0_back 42 = .ok (.getfield 81, 3) := by decide +kernel
theorem d_X0_back_45 : decode c_X0_back 45 = .ok (.laload, 1) := by decide +kernel
theorem d_X0_back_46 : decode c_X0_back 46 = .ok (.lstore_n 2, 1) := by decide +kernel
theorem d_X0_back_47 : decode c_X0_back 47 = .ok (.aload_n 0, 1) := by decide +kernel
theorem d_X0_back_48 : decode c_X0_back 48 = .ok (.getfield 51, 3) := by decide +kernel
theorem d_X0_back_51 : decode c_X0_back 51 = .ok (.iload_n 1, 1) := by decide +kernel
theorem d_X0_back_52 : decode c_X0_back 52 = .ok (.invokestatic 60, 3) := by decide +kernel
theorem d_X0_back_55 : decode c_X0_back 55 = .ok (.lload_n 2, 1) := by decide +kernel
theorem d_X0_back_56 : decode c_X0_back 56 = .ok (.lor, 1) := by decide +kernel
theorem d_X0_back_57 : decode c_X0_back 57 = .ok (.lxor, 1) := by decide +kernel
theorem d_X0_back_58 : decode c_X0_back 58 = .ok (.lstore 4, 2) := by decide +kernel
theorem d_X0_back_60 : decode c_X0_back 60 = .ok (.aload_n 0, 1) := by decide +kernel
theorem d_X0_back_61 : decode c_X0_back 61 = .ok (.aload_n 0, 1) := by decide +kernel
theorem d_X0_back_62 : decode c_X0_back 62 = .ok (.getfield 47, 3) := by decide +kernel
theorem d_X0_back_65 : decode c_X0_back 65 = .ok (.lload_n 2, 1) := by decide +kernel
theorem d_X0_back_66 : decode c_X0_back 66 = .ok (.lor, 1) := by decide +kernel
theorem d_X0_back_67 : decode c_X0_back 67 = .ok (.putfield 51, 3) := by decide +kernel
theorem d_X0_back_70 : decode c_X0_back 70 = .ok (.aload_n 0, 1) := by decide +kernel
theorem d_X0_back_71 : decode c_X0_back 71 = .ok (.lload 4, 2) := by decide +kernel
theorem d_X0_back_73 : decode c_X0_back 73 = .ok (.putfield 47, 3) := by decide +kernel
theorem d_X0_back_76 : decode c_X0_back 76 = .ok (.aload_n 0, 1) := by decide +kernel
theorem d_X0_back_77 : decode c_X0_back 77 = .ok (.iconst 1, 1) := by decide +kernel
theorem d_X0_back_78 : decode c_X0_back 78 = .ok (.aload_n 0, 1) := by decide +kernel
theorem d_X0_back_79 : decode c_X0_back 79 = .ok (.getfield 43, 3) := by decide +kernel
theorem d_X0_back_82 : decode c_X0_back 82 = .ok (.isub, 1) := by decide +kernel
theorem d_X0_back_83 : decode c_X0_back 83 = .ok (.putfield 43, 3) := by decide +kernel
theorem d_X0_back_86 : decode c_X0_back 86 = .ok (.iload_n 1, 1) := by decide +kernel
theorem d_X0_back_87 : decode c_X0_back 87 = .ok (.ireturn, 1) := by decide +kernel
theorem d_X0_made_0 : decode c_X0_made 0 = .ok (.aload_n 0, 1) := by decide +kernel
theorem d_X0_made_1 : decode c_X0_made 1 = .ok (.getfield 81, 3) := by decide +kernel
theorem d_X0_made_4 : decode c_X0_made 4 = .ok (.ireturn, 1) := by decide +kernel
theorem d_X0_difference_0 : decode c_X0_difference 0 = .ok (.aload_n 0, 1) := by decide +kernel
theorem d_X0_difference_1 : decode c_X0_difference 1 = .ok (.iconst 0, 1) := by decide +kernel
theorem d_X0_difference_2 : decode c_X0_difference 2 = .ok (.invokevirtual 39, 3) := by decide +kernel
theorem d_X0_difference_5 : decode c_X0_difference 5 = .ok (.aload_n 0, 1) := by decide +kernel
theorem d_X0_difference_6 : decode c_X0_difference 6 = .ok (.iconst 1, 1) := by decide +kernel
theorem d_X0_difference_7 : decode c_X0_difference 7 = .ok (.invokevirtual 39, 3) := by decide +kernel
theorem d_X0_difference_10 : decode c_X0_difference 10 = .ok (.invokestatic 98, 3) := by decide +kernel
theorem d_X0_difference_13 : decode c_X0_difference 13 = .ok (.ireturn, 1) := by decide +kernel
theorem d_X0_count_0 : decode c_X0_count 0 = .ok (.iload_n 1, 1) := by decide +kernel
theorem d_X0_count_1 : decode c_X0_count 1 = .ok (.ifCond .lt 8, 3) := by decide +kernel
theorem d_X0_count_4 : decode c_X0_count 4 = .ok (.iload_n 1, 1) := by decide +kernel
theorem d_X0_count_5 : decode c_X0_count 5 = .ok (.iconst 4, 1) := by decide +kernel
theorem d_X0_count_6 : decode c_X0_count 6 = .ok (.if_icmp .le 13, 3) := by decide +kernel
theorem d_X0_count_9 : decode c_X0_count 9 = .ok (.new 28, 3) := by decide +kernel
theorem d_X0_count_12 : decode c_X0_count 12 = .ok (.dup, 1) := by decide +kernel
theorem d_X0_count_13 : decode c_X0_count 13 = .ok (.ldc 102, 2) := by decide +kernel
theorem d_X0_count_15 : decode c_X0_count 15 = .ok (.invokespecial 32, 3) := by decide +kernel
theorem d_X0_count_18 : decode c_X0_count 18 = .ok (.athrow, 1) := by decide +kernel
theorem d_X0_count_19 : decode c_X0_count 19 = .ok (.aload_n 0, 1) := by decide +kernel
theorem d_X0_count_20 : decode c_X0_count 20 = .ok (.getfield 47, 3) := by decide +kernel
theorem d_X0_count_23 : decode c_X0_count 23 = .ok (.aload_n 0, 1) := by decide +kernel
theorem d_X0_count_24 : decode c_X0_count 24 = .ok (.getfield 51, 3) := by decide +kernel
theorem d_X0_count_27 : decode c_X0_count 27 = .ok (.iload_n 1, 1) := by decide +kernel
theorem d_X0_count_28 : decode c_X0_count 28 = .ok (.invokestatic 104, 3) := by decide +kernel
theorem d_X0_count_31 : decode c_X0_count 31 = .ok (.lreturn, 1) := by decide +kernel
theorem d_X0_outcome_0 : decode c_X0_outcome 0 = .ok (.aload_n 0, 1) := by decide +kernel
theorem d_X0_outcome_1 : decode c_X0_outcome 1 = .ok (.invokevirtual 108, 3) := by decide +kernel
theorem d_X0_outcome_4 : decode c_X0_outcome 4 = .ok (.aload_n 0, 1) := by decide +kernel
theorem d_X0_outcome_5 : decode c_X0_outcome 5 = .ok (.getfield 47, 3) := by decide +kernel
theorem d_X0_outcome_8 : decode c_X0_outcome 8 = .ok (.aload_n 0, 1) := by decide +kernel
theorem d_X0_outcome_9 : decode c_X0_outcome 9 = .ok (.getfield 51, 3) := by decide +kernel
theorem d_X0_outcome_12 : decode c_X0_outcome 12 = .ok (.bipush (-65), 2) := by decide +kernel
theorem d_X0_outcome_14 : decode c_X0_outcome 14 = .ok (.bipush 65, 2) := by decide +kernel
theorem d_X0_outcome_16 : decode c_X0_outcome 16 = .ok (.bipush 14, 2) := by decide +kernel
theorem d_X0_outcome_18 : decode c_X0_outcome 18 = .ok (.invokestatic 111, 3) := by decide +kernel
theorem d_X0_outcome_21 : decode c_X0_outcome 21 = .ok (.ireturn, 1) := by decide +kernel
theorem d_X0_best_0 : decode c_X0_best 0 = .ok (.aload_n 0, 1) := by decide +kernel
theorem d_X0_best_1 : decode c_X0_best 1 = .ok (.invokevirtual 108, 3) := by decide +kernel
theorem d_X0_best_4 : decode c_X0_best 4 = .ok (.aload_n 0, 1) := by decide +kernel
theorem d_X0_best_5 : decode c_X0_best 5 = .ok (.getfield 47, 3) := by decide +kernel
theorem d_X0_best_8 : decode c_X0_best 8 = .ok (.aload_n 0, 1) := by decide +kernel
theorem d_X0_best_9 : decode c_X0_best 9 = .ok (.getfield 51, 3) := by decide +kernel
theorem d_X0_best_12 : decode c_X0_best 12 = .ok (.invokestatic 115, 3) := by decide +kernel
theorem d_X0_best_15 : decode c_X0_best 15 = .ok (.ireturn, 1) := by decide +kernel
theorem d_X0_finish_0 : decode c_X0_finish 0 = .ok (.aload_n 0, 1) := by decide +kernel
theorem d_X0_finish_1 : decode c_X0_finish 1 = .ok (.invokevirtual 108, 3) := by decide +kernel
theorem d_X0_finish_4 : decode c_X0_finish 4 = .ok (.aload_n 0, 1) := by decide +kernel
theorem d_X0_finish_5 : decode c_X0_finish 5 = .ok (.invokevirtual 118, 3) := by decide +kernel
theorem d_X0_finish_8 : decode c_X0_finish 8 = .ok (.istore_n 1, 1) := by decide +kernel
theorem d_X0_finish_9 : decode c_X0_finish 9 = .ok (.aload_n 0, 1) := by decide +kernel
theorem d_X0_finish_10 : decode c_X0_finish 10 = .ok (.getfield 81, 3) := by decide +kernel
theorem d_X0_finish_13 : decode c_X0_finish 13 = .ok (.iload_n 1, 1) := by decide +kernel
theorem d_X0_finish_14 : decode c_X0_finish 14 = .ok (.iadd, 1) := by decide +kernel
theorem d_X0_finish_15 : decode c_X0_finish 15 = .ok (.bipush 64, 2) := by decide +kernel
theorem d_X0_finish_17 : decode c_X0_finish 17 = .ok (.if_icmp .le 13, 3) := by decide +kernel
theorem d_X0_finish_20 : decode c_X0_finish 20 = .ok (.new 84, 3) := by decide +kernel
theorem d_X0_finish_23 : decode c_X0_finish 23 = .ok (.dup, 1) := by decide +kernel
theorem d_X0_finish_24 : decode c_X0_finish 24 = .ok (.ldc 122, 2) := by decide +kernel
theorem d_X0_finish_26 : decode c_X0_finish 26 = .ok (.invokespecial 88, 3) := by decide +kernel
theorem d_X0_finish_29 : decode c_X0_finish 29 = .ok (.athrow, 1) := by decide +kernel
theorem d_X0_finish_30 : decode c_X0_finish 30 = .ok (.iconst 0, 1) := by decide +kernel
theorem d_X0_finish_31 : decode c_X0_finish 31 = .ok (.istore_n 2, 1) := by decide +kernel
theorem d_X0_finish_32 : decode c_X0_finish 32 = .ok (.iload_n 2, 1) := by decide +kernel
theorem d_X0_finish_33 : decode c_X0_finish 33 = .ok (.iload_n 1, 1) := by decide +kernel
theorem d_X0_finish_34 : decode c_X0_finish 34 = .ok (.if_icmp .ge 20, 3) := by decide +kernel
theorem d_X0_finish_37 : decode c_X0_finish 37 = .ok (.aload_n 0, 1) := by decide +kernel
theorem d_X0_finish_38 : decode c_X0_finish 38 = .ok (.aload_n 0, 1) := by decide +kernel
theorem d_X0_finish_39 : decode c_X0_finish 39 = .ok (.getfield 17, 3) := by decide +kernel
theorem d_X0_finish_42 : decode c_X0_finish 42 = .ok (.iload_n 2, 1) := by decide +kernel
theorem d_X0_finish_43 : decode c_X0_finish 43 = .ok (.iaload, 1) := by decide +kernel
theorem d_X0_finish_44 : decode c_X0_finish 44 = .ok (.invokevirtual 89, 3) := by decide +kernel
theorem d_X0_finish_47 : decode c_X0_finish 47 = .ok (.pop, 1) := by decide +kernel
theorem d_X0_finish_48 : decode c_X0_finish 48 = .ok (.iinc 2 1, 3) := by decide +kernel
theorem d_X0_finish_51 : decode c_X0_finish 51 = .ok (.goto (-19), 3) := by decide +kernel
theorem d_X0_finish_54 : decode c_X0_finish 54 = .ok (.iload_n 1, 1) := by decide +kernel
theorem d_X0_finish_55 : decode c_X0_finish 55 = .ok (.ireturn, 1) := by decide +kernel
theorem d_X0_border_0 : decode c_X0_border 0 = .ok (.iload_n 1, 1) := by decide +kernel
theorem d_X0_border_1 : decode c_X0_border 1 = .ok (.invokestatic 35, 3) := by decide +kernel
theorem d_X0_border_4 : decode c_X0_border 4 = .ok (.aload_n 0, 1) := by decide +kernel
theorem d_X0_border_5 : decode c_X0_border 5 = .ok (.iload_n 1, 1) := by decide +kernel
theorem d_X0_border_6 : decode c_X0_border 6 = .ok (.invokevirtual 39, 3) := by decide +kernel
theorem d_X0_border_9 : decode c_X0_border 9 = .ok (.invokestatic 124, 3) := by decide +kernel
theorem d_X0_border_12 : decode c_X0_border 12 = .ok (.aload_n 0, 1) := by decide +kernel
theorem d_X0_border_13 : decode c_X0_border 13 = .ok (.invokevirtual 63, 3) := by decide +kernel
theorem d_X0_border_16 : decode c_X0_border 16 = .ok (.land, 1) := by decide +kernel
theorem d_X0_border_17 : decode c_X0_border 17 = .ok (.invokestatic 128, 3) := by decide +kernel
theorem d_X0_border_20 : decode c_X0_border 20 = .ok (.ireturn, 1) := by decide +kernel
theorem d_X0_safe_0 : decode c_X0_safe 0 = .ok (.iload_n 1, 1) := by decide +kernel
theorem d_X0_safe_1 : decode c_X0_safe 1 = .ok (.invokestatic 35, 3) := by decide +kernel
theorem d_X0_safe_4 : decode c_X0_safe 4 = .ok (.aload_n 0, 1) := by decide +kernel
theorem d_X0_safe_5 : decode c_X0_safe 5 = .ok (.iload_n 1, 1) := by decide +kernel
theorem d_X0_safe_6 : decode c_X0_safe 6 = .ok (.invokevirtual 39, 3) := by decide +kernel
theorem d_X0_safe_9 : decode c_X0_safe 9 = .ok (.lstore_n 2, 1) := by decide +kernel
theorem d_X0_safe_10 : decode c_X0_safe 10 = .ok (.lload_n 2, 1) := by decide +kernel
theorem d_X0_safe_11 : decode c_X0_safe 11 = .ok (.lload_n 2, 1) := by decide +kernel
theorem d_X0_safe_12 : decode c_X0_safe 12 = .ok (.iconst 1, 1) := by decide +kernel
theorem d_X0_safe_13 : decode c_X0_safe 13 = .ok (.ldc2_w 134, 3) := by decide +kernel
theorem d_X0_safe_16 : decode c_X0_safe 16 = .ok (.ldc2_w 136, 3) := by decide +kernel
theorem d_X0_safe_19 : decode c_X0_safe 19 = .ok (.invokestatic 138, 3) := by decide +kernel
theorem d_X0_safe_22 : decode c_X0_safe 22 = .ok (.land, 1) := by decide +kernel
theorem d_X0_safe_23 : decode c_X0_safe 23 = .ok (.lload_n 2, 1) := by decide +kernel
theorem d_X0_safe_24 : decode c_X0_safe 24 = .ok (.bipush 8, 2) := by decide +kernel
theorem d_X0_safe_26 : decode c_X0_safe 26 = .ok (.ldc2_w 142, 3) := by decide +kernel
theorem d_X0_safe_29 : decode c_X0_safe 29 = .ok (.ldc2_w 144, 3) := by decide +kernel
theorem d_X0_safe_32 : decode c_X0_safe 32 = .ok (.invokestatic 138, 3) := by decide +kernel
theorem d_X0_safe_35 : decode c_X0_safe 35 = .ok (.land, 1) := by decide +kernel
theorem d_X0_safe_36 : decode c_X0_safe 36 = .ok (.lload_n 2, 1) := by decide +kernel
theorem d_X0_safe_37 : decode c_X0_safe 37 = .ok (.bipush 9, 2) := by decide +kernel
theorem d_X0_safe_39 : decode c_X0_safe 39 = .ok (.ldc2_w 146, 3) := by decide +kernel
theorem d_X0_safe_42 : decode c_X0_safe 42 = .ok (.ldc2_w 148, 3) := by decide +kernel
theorem d_X0_safe_45 : decode c_X0_safe 45 = .ok (.invokestatic 138, 3) := by decide +kernel
theorem d_X0_safe_48 : decode c_X0_safe 48 = .ok (.land, 1) := by decide +kernel
theorem d_X0_safe_49 : decode c_X0_safe 49 = .ok (.lload_n 2, 1) := by decide +kernel
theorem d_X0_safe_50 : decode c_X0_safe 50 = .ok (.bipush 7, 2) := by decide +kernel
theorem d_X0_safe_52 : decode c_X0_safe 52 = .ok (.ldc2_w 150, 3) := by decide +kernel
theorem d_X0_safe_55 : decode c_X0_safe 55 = .ok (.ldc2_w 152, 3) := by decide +kernel
theorem d_X0_safe_58 : decode c_X0_safe 58 = .ok (.invokestatic 138, 3) := by decide +kernel
theorem d_X0_safe_61 : decode c_X0_safe 61 = .ok (.land, 1) := by decide +kernel
theorem d_X0_safe_62 : decode c_X0_safe 62 = .ok (.lreturn, 1) := by decide +kernel
theorem d_X0_requirePlayer_0 : decode c_X0_requirePlayer 0 = .ok (.iload_n 0, 1) := by decide +kernel
theorem d_X0_requirePlayer_1 : decode c_X0_requirePlayer 1 = .ok (.ifCond .eq 18, 3) := by decide +kernel
theorem d_X0_requirePlayer_4 : decode c_X0_requirePlayer 4 = .ok (.iload_n 0, 1) := by decide +kernel
theorem d_X0_requirePlayer_5 : decode c_X0_requirePlayer 5 = .ok (.iconst 1, 1) := by decide +kernel
theorem d_X0_requirePlayer_6 : decode c_X0_requirePlayer 6 = .ok (.if_icmp .eq 13, 3) := by decide +kernel
theorem d_X0_requirePlayer_9 : decode c_X0_requirePlayer 9 = .ok (.new 28, 3) := by decide +kernel
theorem d_X0_requirePlayer_12 : decode c_X0_requirePlayer 12 = .ok (.dup, 1) := by decide +kernel
theorem d_X0_requirePlayer_13 : decode c_X0_requirePlayer 13 = .ok (.ldc 154, 2) := by decide +kernel
theorem d_X0_requirePlayer_15 : decode c_X0_requirePlayer 15 = .ok (.invokespecial 32, 3) := by decide +kernel
theorem d_X0_requirePlayer_18 : decode c_X0_requirePlayer 18 = .ok (.athrow, 1) := by decide +kernel
theorem d_X0_requirePlayer_19 : decode c_X0_requirePlayer 19 = .ok (.return_, 1) := by decide +kernel
theorem d_X0_requireFewEmpty_0 : decode c_X0_requireFewEmpty 0 = .ok (.aload_n 0, 1) := by decide +kernel
theorem d_X0_requireFewEmpty_1 : decode c_X0_requireFewEmpty 1 = .ok (.invokevirtual 63, 3) := by decide +kernel
theorem d_X0_requireFewEmpty_4 : decode c_X0_requireFewEmpty 4 = .ok (.invokestatic 128, 3) := by decide +kernel
theorem d_X0_requireFewEmpty_7 : decode c_X0_requireFewEmpty 7 = .ok (.bipush 7, 2) := by decide +kernel
theorem d_X0_requireFewEmpty_9 : decode c_X0_requireFewEmpty 9 = .ok (.if_icmp .le 13, 3) := by decide +kernel
theorem d_X0_requireFewEmpty_12 : decode c_X0_requireFewEmpty 12 = .ok (.new 84, 3) := by decide +kernel
theorem d_X0_requireFewEmpty_15 : decode c_X0_requireFewEmpty 15 = .ok (.dup, 1) := by decide +kernel
theorem d_X0_requireFewEmpty_16 : decode c_X0_requireFewEmpty 16 = .ok (.ldc 156, 2) := by decide +kernel
theorem d_X0_requireFewEmpty_18 : decode c_X0_requireFewEmpty 18 = .ok (.invokespecial 88, 3) := by decide +kernel
theorem d_X0_requireFewEmpty_21 : decode c_X0_requireFewEmpty 21 = .ok (.athrow, 1) := by decide +kernel
theorem d_X0_requireFewEmpty_22 : decode c_X0_requireFewEmpty 22 = .ok (.return_, 1) := by decide +kernel
theorem d_X0_setUp_0 : decode c_X0_setUp 0 = .ok (.aload_n 0, 1) := by decide +kernel
theorem d_X0_setUp_1 : decode c_X0_setUp 1 = .ok (.lload_n 1, 1) := by decide +kernel
theorem d_X0_setUp_2 : decode c_X0_setUp 2 = .ok (.putfield 47, 3) := by decide +kernel
theorem d_X0_setUp_5 : decode c_X0_setUp 5 = .ok (.aload_n 0, 1) := by decide +kernel
theorem d_X0_setUp_6 : decode c_X0_setUp 6 = .ok (.lload_n 3, 1) := by decide +kernel
theorem d_X0_setUp_7 : decode c_X0_setUp 7 = .ok (.putfield 51, 3) := by decide +kernel
theorem d_X0_setUp_10 : decode c_X0_setUp 10 = .ok (.aload_n 0, 1) := by decide +kernel
theorem d_X0_setUp_11 : decode c_X0_setUp 11 = .ok (.iload 5, 2) := by decide +kernel
theorem d_X0_setUp_13 : decode c_X0_setUp 13 = .ok (.putfield 43, 3) := by decide +kernel
theorem d_X0_setUp_16 : decode c_X0_setUp 16 = .ok (.aload_n 0, 1) := by decide +kernel
theorem d_X0_setUp_17 : decode c_X0_setUp 17 = .ok (.iconst 0, 1) := by decide +kernel
theorem d_X0_setUp_18 : decode c_X0_setUp 18 = .ok (.putfield 81, 3) := by decide +kernel
theorem d_X0_setUp_21 : decode c_X0_setUp 21 = .ok (.return_, 1) := by decide +kernel
theorem d_X0_discsOf_0 : decode c_X0_discsOf 0 = .ok (.iload_n 1, 1) := by decide +kernel
theorem d_X0_discsOf_1 : decode c_X0_discsOf 1 = .ok (.aload_n 0, 1) := by decide +kernel
theorem d_X0_discsOf_2 : decode c_X0_discsOf 2 = .ok (.getfield 43, 3) := by decide +kernel
theorem d_X0_discsOf_5 : decode c_X0_discsOf 5 = .ok (.if_icmp .ne 10, 3) := by decide +kernel
theorem d_X0_discsOf_8 : decode c_X0_discsOf 8 = .ok (.aload_n 0, 1) := by decide +kernel
theorem d_X0_discsOf_9 : decode c_X0_discsOf 9 = .ok (.getfield 47, 3) := by decide +kernel
theorem d_X0_discsOf_12 : decode c_X0_discsOf 12 = .ok (.goto 7, 3) := by decide +kernel
theorem d_X0_discsOf_15 : decode c_X0_discsOf 15 = .ok (.aload_n 0, 1) := by decide +kernel
theorem d_X0_discsOf_16 : decode c_X0_discsOf 16 = .ok (.getfield 51, 3) := by decide +kernel
theorem d_X0_discsOf_19 : decode c_X0_discsOf 19 = .ok (.lreturn, 1) := by decide +kernel
theorem d_X0_empty_0 : decode c_X0_empty 0 = .ok (.aload_n 0, 1) := by decide +kernel
theorem d_X0_empty_1 : decode c_X0_empty 1 = .ok (.getfield 47, 3) := by decide +kernel
theorem d_X0_empty_4 : decode c_X0_empty 4 = .ok (.aload_n 0, 1) := by decide +kernel
theorem d_X0_empty_5 : decode c_X0_empty 5 = .ok (.getfield 51, 3) := by decide +kernel
theorem d_X0_empty_8 : decode c_X0_empty 8 = .ok (.lor, 1) := by decide +kernel
theorem d_X0_empty_9 : decode c_X0_empty 9 = .ok (.ldc2_w 158, 3) := by decide +kernel
theorem d_X0_empty_12 : decode c_X0_empty 12 = .ok (.lxor, 1) := by decide +kernel
theorem d_X0_empty_13 : decode c_X0_empty 13 = .ok (.lreturn, 1) := by decide +kernel
theorem d_X0_mayPlay_0 : decode c_X0_mayPlay 0 = .ok (.iload_n 1, 1) := by decide +kernel
theorem d_X0_mayPlay_1 : decode c_X0_mayPlay 1 = .ok (.bipush 64, 2) := by decide +kernel
theorem d_X0_mayPlay_3 : decode c_X0_mayPlay 3 = .ok (.if_icmp .ne 41, 3) := by decide +kernel
theorem d_X0_mayPlay_6 : decode c_X0_mayPlay 6 = .ok (.aload_n 0, 1) := by decide +kernel
theorem d_X0_mayPlay_7 : decode c_X0_mayPlay 7 = .ok (.getfield 47, 3) := by decide +kernel
theorem d_X0_mayPlay_10 : decode c_X0_mayPlay 10 = .ok (.aload_n 0, 1) := by decide +kernel
theorem d_X0_mayPlay_11 : decode c_X0_mayPlay 11 = .ok (.getfield 51, 3) := by decide +kernel
theorem d_X0_mayPlay_14 : decode c_X0_mayPlay 14 = .ok (.invokestatic 54, 3) := by decide +kernel
theorem d_X0_mayPlay_17 : decode c_X0_mayPlay 17 = .ok (.lconst 0, 1) := by decide +kernel
theorem d_X0_mayPlay_18 : decode c_X0_mayPlay 18 = .ok (.lcmp, 1) := by decide +kernel
theorem d_X0_mayPlay_19 : decode c_X0_mayPlay 19 = .ok (.ifCond .ne 23, 3) := by decide +kernel
theorem d_X0_mayPlay_22 : decode c_X0_mayPlay 22 = .ok (.aload_n 0, 1) := by decide +kernel
theorem d_X0_mayPlay_23 : decode c_X0_mayPlay 23 = .ok (.getfield 51, 3) := by decide +kernel
theorem d_X0_mayPlay_26 : decode c_X0_mayPlay 26 = .ok (.aload_n 0, 1) := by decide +kernel
theorem d_X0_mayPlay_27 : decode c_X0_mayPlay 27 = .ok (.getfield 47, 3) := by decide +kernel
theorem d_X0_mayPlay_30 : decode c_X0_mayPlay 30 = .ok (.invokestatic 54, 3) := by decide +kernel
theorem d_X0_mayPlay_33 : decode c_X0_mayPlay 33 = .ok (.lconst 0, 1) := by decide +kernel
theorem d_X0_mayPlay_34 : decode c_X0_mayPlay 34 = .ok (.lcmp, 1) := by decide +kernel
theorem d_X0_mayPlay_35 : decode c_X0_mayPlay 35 = .ok (.ifCond .eq 7, 3) := by decide +kernel
theorem d_X0_mayPlay_38 : decode c_X0_mayPlay 38 = .ok (.iconst 1, 1) := by decide +kernel
theorem d_X0_mayPlay_39 : decode c_X0_mayPlay 39 = .ok (.goto 4, 3) := by decide +kernel
theorem d_X0_mayPlay_42 : decode c_X0_mayPlay 42 = .ok (.iconst 0, 1) := by decide +kernel
theorem d_X0_mayPlay_43 : decode c_X0_mayPlay 43 = .ok (.ireturn, 1) := by decide +kernel
theorem d_X0_mayPlay_44 : decode c_X0_mayPlay 44 = .ok (.iload_n 1, 1) := by decide +kernel
theorem d_X0_mayPlay_45 : decode c_X0_mayPlay 45 = .ok (.ifCond .lt 34, 3) := by decide +kernel
theorem d_X0_mayPlay_48 : decode c_X0_mayPlay 48 = .ok (.iload_n 1, 1) := by decide +kernel
theorem d_X0_mayPlay_49 : decode c_X0_mayPlay 49 = .ok (.bipush 64, 2) := by decide +kernel
theorem d_X0_mayPlay_51 : decode c_X0_mayPlay 51 = .ok (.if_icmp .ge 28, 3) := by decide +kernel
theorem d_X0_mayPlay_54 : decode c_X0_mayPlay 54 = .ok (.aload_n 0, 1) := by decide +kernel
theorem d_X0_mayPlay_55 : decode c_X0_mayPlay 55 = .ok (.getfield 47, 3) := by decide +kernel
theorem d_X0_mayPlay_58 : decode c_X0_mayPlay 58 = .ok (.aload_n 0, 1) := by decide +kernel
theorem d_X0_mayPlay_59 : decode c_X0_mayPlay 59 = .ok (.getfield 51, 3) := by decide +kernel
theorem d_X0_mayPlay_62 : decode c_X0_mayPlay 62 = .ok (.invokestatic 54, 3) := by decide +kernel
theorem d_X0_mayPlay_65 : decode c_X0_mayPlay 65 = .ok (.iload_n 1, 1) := by decide +kernel
theorem d_X0_mayPlay_66 : decode c_X0_mayPlay 66 = .ok (.invokestatic 60, 3) := by decide +kernel
theorem d_X0_mayPlay_69 : decode c_X0_mayPlay 69 = .ok (.land, 1) := by decide +kernel
theorem d_X0_mayPlay_70 : decode c_X0_mayPlay 70 = .ok (.lconst 0, 1) := by decide +kernel
theorem d_X0_mayPlay_71 : decode c_X0_mayPlay 71 = .ok (.lcmp, 1) := by decide +kernel
theorem d_X0_mayPlay_72 : decode c_X0_mayPlay 72 = .ok (.ifCond .eq 7, 3) := by decide +kernel
theorem d_X0_mayPlay_75 : decode c_X0_mayPlay 75 = .ok (.iconst 1, 1) := by decide +kernel
theorem d_X0_mayPlay_76 : decode c_X0_mayPlay 76 = .ok (.goto 4, 3) := by decide +kernel
theorem d_X0_mayPlay_79 : decode c_X0_mayPlay 79 = .ok (.iconst 0, 1) := by decide +kernel
theorem d_X0_mayPlay_80 : decode c_X0_mayPlay 80 = .ok (.ireturn, 1) := by decide +kernel
theorem d_X0_make_0 : decode c_X0_make 0 = .ok (.iload_n 1, 1) := by decide +kernel
theorem d_X0_make_1 : decode c_X0_make 1 = .ok (.invokestatic 60, 3) := by decide +kernel
theorem d_X0_make_4 : decode c_X0_make 4 = .ok (.lstore_n 2, 1) := by decide +kernel
theorem d_X0_make_5 : decode c_X0_make 5 = .ok (.aload_n 0, 1) := by decide +kernel
theorem d_X0_make_6 : decode c_X0_make 6 = .ok (.getfield 47, 3) := by decide +kernel
theorem d_X0_make_9 : decode c_X0_make 9 = .ok (.aload_n 0, 1) := by decide +kernel
theorem d_X0_make_10 : decode c_X0_make 10 = .ok (.getfield 51, 3) := by decide +kernel
theorem d_X0_make_13 : decode c_X0_make 13 = .ok (.lload_n 2, 1) := by decide +kernel
theorem d_X0_make_14 : decode c_X0_make 14 = .ok (.invokestatic 67, 3) := by decide +kernel
theorem d_X0_make_17 : decode c_X0_make 17 = .ok (.lstore 4, 2) := by decide +kernel
theorem d_X0_make_19 : decode c_X0_make 19 = .ok (.aload_n 0, 1) := by decide +kernel
theorem d_X0_make_20 : decode c_X0_make 20 = .ok (.getfield 9, 3) := by decide +kernel
theorem d_X0_make_23 : decode c_X0_make 23 = .ok (.aload_n 0, 1) := by decide +kernel
theorem d_X0_make_24 : decode c_X0_make 24 = .ok (.getfield 81, 3) := by decide +kernel
theorem d_X0_make_27 : decode c_X0_make 27 = .ok (.iload_n 1, 1) := by decide +kernel
theorem d_X0_make_28 : decode c_X0_make 28 = .ok (.iastore, 1) := by decide +kernel
theorem d_X0_make_29 : decode c_X0_make 29 = .ok (.aload_n 0, 1) := by decide +kernel
theorem d_X0_make_30 : decode c_X0_make 30 = .ok (.getfield 13, 3) := by decide +kernel
theorem d_X0_make_33 : decode c_X0_make 33 = .ok (.aload_n 0, 1) := by decide +kernel
theorem d_X0_make_34 : decode c_X0_make 34 = .ok (.getfield 81, 3) := by decide +kernel
theorem d_X0_make_37 : decode c_X0_make 37 = .ok (.lload 4, 2) := by decide +kernel
theorem d_X0_make_39 : decode c_X0_make 39 = .ok (.lastore, 1) := by decide +kernel
theorem d_X0_make_40 : decode c_X0_make 40 = .ok (.aload_n 0, 1) := by decide +kernel
theorem d_X0_make_41 : decode c_X0_make 41 = .ok (.dup, 1) := by decide +kernel
theorem d_X0_make_42 : decode c_X0_make 42 = .ok (.getfield 81, 3) := by decide +kernel
theorem d_X0_make_45 : decode c_X0_make 45 = .ok (.iconst 1, 1) := by decide +kernel
theorem d_X0_make_46 : decode c_X0_make 46 = .ok (.iadd, 1) := by decide +kernel
theorem d_X0_make_47 : decode c_X0_make 47 = .ok (.putfield 81, 3) := by decide +kernel
theorem d_X0_make_50 : decode c_X0_make 50 = .ok (.aload_n 0, 1) := by decide +kernel
theorem d_X0_make_51 : decode c_X0_make 51 = .ok (.getfield 51, 3) := by decide +kernel
theorem d_X0_make_54 : decode c_X0_make 54 = .ok (.lload 4, 2) := by decide +kernel
theorem d_X0_make_56 : decode c_X0_make 56 = .ok (.lxor, 1) := by decide +kernel
theorem d_X0_make_57 : decode c_X0_make 57 = .ok (.lstore 6, 2) := by decide +kernel
theorem d_X0_make_59 : decode c_X0_make 59 = .ok (.aload_n 0, 1) := by decide +kernel
theorem d_X0_make_60 : decode c_X0_make 60 = .ok (.aload_n 0, 1) := by decide +kernel
theorem d_X0_make_61 : decode c_X0_make 61 = .ok (.getfield 47, 3) := by decide +kernel
theorem d_X0_make_64 : decode c_X0_make 64 = .ok (.lload_n 2, 1) := by decide +kernel
theorem d_X0_make_65 : decode c_X0_make 65 = .ok (.lor, 1) := by decide +kernel
theorem d_X0_make_66 : decode c_X0_make 66 = .ok (.lload 4, 2) := by decide +kernel
theorem d_X0_make_68 : decode c_X0_make 68 = .ok (.lor, 1) := by decide +kernel
theorem d_X0_make_69 : decode c_X0_make 69 = .ok (.putfield 51, 3) := by decide +kernel
theorem d_X0_make_72 : decode c_X0_make 72 = .ok (.aload_n 0, 1) := by decide +kernel
theorem d_X0_make_73 : decode c_X0_make 73 = .ok (.lload 6, 2) := by decide +kernel
theorem d_X0_make_75 : decode c_X0_make 75 = .ok (.putfield 47, 3) := by decide +kernel
theorem d_X0_make_78 : decode c_X0_make 78 = .ok (.aload_n 0, 1) := by decide +kernel
theorem d_X0_make_79 : decode c_X0_make 79 = .ok (.iconst 1, 1) := by decide +kernel
theorem d_X0_make_80 : decode c_X0_make 80 = .ok (.aload_n 0, 1) := by decide +kernel
theorem d_X0_make_81 : decode c_X0_make 81 = .ok (.getfield 43, 3) := by decide +kernel
theorem d_X0_make_84 : decode c_X0_make 84 = .ok (.isub, 1) := by decide +kernel
theorem d_X0_make_85 : decode c_X0_make 85 = .ok (.putfield 43, 3) := by decide +kernel
theorem d_X0_make_88 : decode c_X0_make 88 = .ok (.lload 4, 2) := by decide +kernel
theorem d_X0_make_90 : decode c_X0_make 90 = .ok (.invokestatic 128, 3) := by decide +kernel
theorem d_X0_make_93 : decode c_X0_make 93 = .ok (.ireturn, 1) := by decide +kernel
theorem d_X0_planFinish_0 : decode c_X0_planFinish 0 = .ok (.aload_n 0, 1) := by decide +kernel
theorem d_X0_planFinish_1 : decode c_X0_planFinish 1 = .ok (.getfield 47, 3) := by decide +kernel
theorem d_X0_planFinish_4 : decode c_X0_planFinish 4 = .ok (.lstore_n 1, 1) := by decide +kernel
theorem d_X0_planFinish_5 : decode c_X0_planFinish 5 = .ok (.aload_n 0, 1) := by decide +kernel
theorem d_X0_planFinish_6 : decode c_X0_planFinish 6 = .ok (.getfield 51, 3) := by decide +kernel
theorem d_X0_planFinish_9 : decode c_X0_planFinish 9 = .ok (.lstore_n 3, 1) := by decide +kernel
theorem d_X0_planFinish_10 : decode c_X0_planFinish 10 = .ok (.iconst 0, 1) := by decide +kernel
theorem d_X0_planFinish_11 : decode c_X0_planFinish 11 = .ok (.istore 5, 2) := by decide +kernel
theorem d_X0_planFinish_13 : decode c_X0_planFinish 13 = .ok (.iload 5, 2) := by decide +kernel
theorem d_X0_planFinish_15 : decode c_X0_planFinish 15 = .ok (.bipush 14, 2) := by decide +kernel
theorem d_X0_planFinish_17 : decode c_X0_planFinish 17 = .ok (.if_icmp .ge 68, 3) := by decide +kernel
theorem d_X0_planFinish_20 : decode c_X0_planFinish 20 = .ok (.lload_n 1, 1) := by decide +kernel
theorem d_X0_planFinish_21 : decode c_X0_planFinish 21 = .ok (.lload_n 3, 1) := by decide +kernel
theorem d_X0_planFinish_22 : decode c_X0_planFinish 22 = .ok (.invokestatic 115, 3) := by decide +kernel
theorem d_X0_planFinish_25 : decode c_X0_planFinish 25 = .ok (.istore 6, 2) := by decide +kernel
theorem d_X0_planFinish_27 : decode c_X0_planFinish 27 = .ok (.iload 6, 2) := by decide +kernel
theorem d_X0_planFinish_29 : decode c_X0_planFinish 29 = .ok (.bipush 65, 2) := by decide +kernel
theorem d_X0_planFinish_31 : decode c_X0_planFinish 31 = .ok (.if_icmp .ne 6, 3) := by decide +kernel
theorem d_X0_planFinish_34 : decode c_X0_planFinish 34 = .ok (.iload 5, 2) := by decide +kernel
theorem d_X0_planFinish_36 : decode c_X0_planFinish 36 = .ok (.ireturn, 1) := by decide +kernel
theorem d_X0_planFinish_37 : decode c_X0_planFinish 37 = .ok (.aload_n 0, 1) := by decide +kernel
theorem d_X0_planFinish_38 : decode c_X0_planFinish 38 = .ok (.getfield 17, 3) := by decide +kernel
theorem d_X0_planFinish_41 : decode c_X0_planFinish 41 = .ok (.iload 5, 2) := by decide +kernel
theorem d_X0_planFinish_43 : decode c_X0_planFinish 43 = .ok (.iload 6, 2) := by decide +kernel
theorem d_X0_planFinish_45 : decode c_X0_planFinish 45 = .ok (.iastore, 1) := by decide +kernel
theorem d_X0_planFinish_46 : decode c_X0_planFinish 46 = .ok (.iload 6, 2) := by decide +kernel
theorem d_X0_planFinish_48 : decode c_X0_planFinish 48 = .ok (.invokestatic 60, 3) := by decide +kernel
theorem d_X0_planFinish_51 : decode c_X0_planFinish 51 = .ok (.lstore 7, 2) := by decide +kernel
theorem d_X0_planFinish_53 : decode c_X0_planFinish 53 = .ok (.lload_n 1, 1) := by decide +kernel
theorem d_X0_planFinish_54 : decode c_X0_planFinish 54 = .ok (.lload_n 3, 1) := by decide +kernel
theorem d_X0_planFinish_55 : decode c_X0_planFinish 55 = .ok (.lload 7, 2) := by decide +kernel
theorem d_X0_planFinish_57 : decode c_X0_planFinish 57 = .ok (.invokestatic 67, 3) := by decide +kernel
theorem d_X0_planFinish_60 : decode c_X0_planFinish 60 = .ok (.lstore 9, 2) := by decide +kernel
theorem d_X0_planFinish_62 : decode c_X0_planFinish 62 = .ok (.lload_n 3, 1) := by decide +kernel
theorem d_X0_planFinish_63 : decode c_X0_planFinish 63 = .ok (.lload 9, 2) := by decide +kernel
theorem d_X0_planFinish_65 : decode c_X0_planFinish 65 = .ok (.lxor, 1) := by decide +kernel
theorem d_X0_planFinish_66 : decode c_X0_planFinish 66 = .ok (.lstore 11, 2) := by decide +kernel
theorem d_X0_planFinish_68 : decode c_X0_planFinish 68 = .ok (.lload_n 1, 1) := by decide +kernel
theorem d_X0_planFinish_69 : decode c_X0_planFinish 69 = .ok (.lload 7, 2) := by decide +kernel
theorem d_X0_planFinish_71 : decode c_X0_planFinish 71 = .ok (.lor, 1) := by decide +kernel
theorem d_X0_planFinish_72 : decode c_X0_planFinish 72 = .ok (.lload 9, 2) := by decide +kernel
theorem d_X0_planFinish_74 : decode c_X0_planFinish 74 = .ok (.lor, 1) := by decide +kernel
theorem d_X0_planFinish_75 : decode c_X0_planFinish 75 = .ok (.lstore_n 3, 1) := by decide +kernel
theorem d_X0_planFinish_76 : decode c_X0_planFinish 76 = .ok (.lload 11, 2) := by decide +kernel
theorem d_X0_planFinish_78 : decode c_X0_planFinish 78 = .ok (.lstore_n 1, 1) := by decide +kernel
theorem d_X0_planFinish_79 : decode c_X0_planFinish 79 = .ok (.iinc 5 1, 3) := by decide +kernel
theorem d_X0_planFinish_82 : decode c_X0_planFinish 82 = .ok (.goto (-69), 3) := by decide +kernel
theorem d_X0_planFinish_85 : decode c_X0_planFinish 85 = .ok (.bipush 14, 2) := by decide +kernel
theorem d_X0_planFinish_87 : decode c_X0_planFinish 87 = .ok (.ireturn, 1) := by decide +kernel
theorem d_X0_discOn_0 : decode c_X0_discOn 0 = .ok (.iload_n 0, 1) := by decide +kernel
theorem d_X0_discOn_1 : decode c_X0_discOn 1 = .ok (.bipush 64, 2) := by decide +kernel
theorem d_X0_discOn_3 : decode c_X0_discOn 3 = .ok (.if_icmp .ge 9, 3) := by decide +kernel
theorem d_X0_discOn_6 : decode c_X0_discOn 6 = .ok (.lconst 1, 1) := by decide +kernel
theorem d_X0_discOn_7 : decode c_X0_discOn 7 = .ok (.iload_n 0, 1) := by decide +kernel
theorem d_X0_discOn_8 : decode c_X0_discOn 8 = .ok (.lshl, 1) := by decide +kernel
theorem d_X0_discOn_9 : decode c_X0_discOn 9 = .ok (.goto 4, 3) := by decide +kernel
theorem d_X0_discOn_12 : decode c_X0_discOn 12 = .ok (.lconst 0, 1) := by decide +kernel
theorem d_X0_discOn_13 : decode c_X0_discOn 13 = .ok (.lreturn, 1) := by decide +kernel
theorem d_X0_lead_0 : decode c_X0_lead 0 = .ok (.lload_n 0, 1) := by decide +kernel
theorem d_X0_lead_1 : decode c_X0_lead 1 = .ok (.invokestatic 128, 3) := by decide +kernel
theorem d_X0_lead_4 : decode c_X0_lead 4 = .ok (.lload_n 2, 1) := by decide +kernel
theorem d_X0_lead_5 : decode c_X0_lead 5 = .ok (.invokestatic 128, 3) := by decide +kernel
theorem d_X0_lead_8 : decode c_X0_lead 8 = .ok (.isub, 1) := by decide +kernel
theorem d_X0_lead_9 : decode c_X0_lead 9 = .ok (.ireturn, 1) := by decide +kernel
theorem d_X0_isOver_0 : decode c_X0_isOver 0 = .ok (.lload_n 0, 1) := by decide +kernel
theorem d_X0_isOver_1 : decode c_X0_isOver 1 = .ok (.lload_n 2, 1) := by decide +kernel
theorem d_X0_isOver_2 : decode c_X0_isOver 2 = .ok (.invokestatic 54, 3) := by decide +kernel
theorem d_X0_isOver_5 : decode c_X0_isOver 5 = .ok (.lconst 0, 1) := by decide +kernel
theorem d_X0_isOver_6 : decode c_X0_isOver 6 = .ok (.lcmp, 1) := by decide +kernel
theorem d_X0_isOver_7 : decode c_X0_isOver 7 = .ok (.ifCond .ne 17, 3) := by decide +kernel
theorem d_X0_isOver_10 : decode c_X0_isOver 10 = .ok (.lload_n 2, 1) := by decide +kernel
theorem d_X0_isOver_11 : decode c_X0_isOver 11 = .ok (.lload_n 0, 1) := by decide +kernel
theorem d_X0_isOver_12 : decode c_X0_isOver 12 = .ok (.invokestatic 54, 3) := by decide +kernel
theorem d_X0_isOver_15 : decode c_X0_isOver 15 = .ok (.lconst 0, 1) := by decide +kernel
theorem d_X0_isOver_16 : decode c_X0_isOver 16 = .ok (.lcmp, 1) := by decide +kernel
theorem d_X0_isOver_17 : decode c_X0_isOver 17 = .ok (.ifCond .ne 7, 3) := by decide +kernel
theorem d_X0_isOver_20 : decode c_X0_isOver 20 = .ok (.iconst 1, 1) := by decide +kernel
theorem d_X0_isOver_21 : decode c_X0_isOver 21 = .ok (.goto 4, 3) := by decide +kernel
theorem d_X0_isOver_24 : decode c_X0_isOver 24 = .ok (.iconst 0, 1) := by decide +kernel
theorem d_X0_isOver_25 : decode c_X0_isOver 25 = .ok (.ireturn, 1) := by decide +kernel
theorem d_X0_movesOf_0 : decode c_X0_movesOf 0 = .ok (.lload_n 2, 1) := by decide +kernel
theorem d_X0_movesOf_1 : decode c_X0_movesOf 1 = .ok (.ldc2_w 160, 3) := by decide +kernel
theorem d_X0_movesOf_4 : decode c_X0_movesOf 4 = .ok (.land, 1) := by decide +kernel
theorem d_X0_movesOf_5 : decode c_X0_movesOf 5 = .ok (.lstore 4, 2) := by decide +kernel
theorem d_X0_movesOf_7 : decode c_X0_movesOf 7 = .ok (.lload_n 0, 1) := by decide +kernel
theorem d_X0_movesOf_8 : decode c_X0_movesOf 8 = .ok (.lload 4, 2) := by decide +kernel
theorem d_X0_movesOf_10 : decode c_X0_movesOf 10 = .ok (.iconst 1, 1) := by decide +kernel
theorem d_X0_movesOf_11 : decode c_X0_movesOf 11 = .ok (.invokestatic 162, 3) := by decide +kernel
theorem d_X0_movesOf_14 : decode c_X0_movesOf 14 = .ok (.lload_n 0, 1) := by decide +kernel
theorem d_X0_movesOf_15 : decode c_X0_movesOf 15 = .ok (.lload_n 2, 1) := by decide +kernel
theorem d_X0_movesOf_16 : decode c_X0_movesOf 16 = .ok (.bipush 8, 2) := by decide +kernel
theorem d_X0_movesOf_18 : decode c_X0_movesOf 18 = .ok (.invokestatic 162, 3) := by decide +kernel
theorem d_X0_movesOf_21 : decode c_X0_movesOf 21 = .ok (.lor, 1) := by decide +kernel
theorem d_X0_movesOf_22 : decode c_X0_movesOf 22 = .ok (.lload_n 0, 1) := by decide +kernel
theorem d_X0_movesOf_23 : decode c_X0_movesOf 23 = .ok (.lload 4, 2) := by decide +kernel
theorem d_X0_movesOf_25 : decode c_X0_movesOf 25 = .ok (.bipush 9, 2) := by decide +kernel
theorem d_X0_movesOf_27 : decode c_X0_movesOf 27 = .ok (.invokestatic 162, 3) := by decide +kernel
theorem d_X0_movesOf_30 : decode c_X0_movesOf 30 = .ok (.lor, 1) := by decide +kernel
theorem d_X0_movesOf_31 : decode c_X0_movesOf 31 = .ok (.lload_n 0, 1) := by decide +kernel
theorem d_X0_movesOf_32 : decode c_X0_movesOf 32 = .ok (.lload 4, 2) := by decide +kernel
theorem d_X0_movesOf_34 : decode c_X0_movesOf 34 = .ok (.bipush 7, 2) := by decide +kernel
theorem d_X0_movesOf_36 : decode c_X0_movesOf 36 = .ok (.invokestatic 162, 3) := by decide +kernel
theorem d_X0_movesOf_39 : decode c_X0_movesOf 39 = .ok (.lor, 1) := by decide +kernel
theorem d_X0_movesOf_40 : decode c_X0_movesOf 40 = .ok (.lstore 6, 2) := by decide +kernel
theorem d_X0_movesOf_42 : decode c_X0_movesOf 42 = .ok (.lload 6, 2) := by decide +kernel
theorem d_X0_movesOf_44 : decode c_X0_movesOf 44 = .ok (.lload_n 0, 1) := by decide +kernel
theorem d_X0_movesOf_45 : decode c_X0_movesOf 45 = .ok (.lload_n 2, 1) := by decide +kernel
theorem d_X0_movesOf_46 : decode c_X0_movesOf 46 = .ok (.lor, 1) := by decide +kernel
theorem d_X0_movesOf_47 : decode c_X0_movesOf 47 = .ok (.ldc2_w 158, 3) := by decide +kernel
theorem d_X0_movesOf_50 : decode c_X0_movesOf 50 = .ok (.lxor, 1) := by decide +kernel
theorem d_X0_movesOf_51 : decode c_X0_movesOf 51 = .ok (.land, 1) := by decide +kernel
theorem d_X0_movesOf_52 : decode c_X0_movesOf 52 = .ok (.lreturn, 1) := by decide +kernel
theorem d_X0_endsAlong_0 : decode c_X0_endsAlong 0 = .ok (.lload_n 0, 1) := by decide +kernel
theorem d_X0_endsAlong_1 : decode c_X0_endsAlong 1 = .ok (.lload_n 2, 1) := by decide +kernel
theorem d_X0_endsAlong_2 : decode c_X0_endsAlong 2 = .ok (.iload 4, 2) := by decide +kernel
theorem d_X0_endsAlong_4 : decode c_X0_endsAlong 4 = .ok (.invokestatic 165, 3) := by decide +kernel
theorem d_X0_endsAlong_7 : decode c_X0_endsAlong 7 = .ok (.iload 4, 2) := by decide +kernel
theorem d_X0_endsAlong_9 : decode c_X0_endsAlong 9 = .ok (.lshl, 1) := by decide +kernel
theorem d_X0_endsAlong_10 : decode c_X0_endsAlong 10 = .ok (.lload_n 0, 1) := by decide +kernel
theorem d_X0_endsAlong_11 : decode c_X0_endsAlong 11 = .ok (.lload_n 2, 1) := by decide +kernel
theorem d_X0_endsAlong_12 : decode c_X0_endsAlong 12 = .ok (.iload 4, 2) := by decide +kernel
theorem d_X0_endsAlong_14 : decode c_X0_endsAlong 14 = .ok (.invokestatic 168, 3) := by decide +kernel
theorem d_X0_endsAlong_17 : decode c_X0_endsAlong 17 = .ok (.iload 4, 2) := by decide +kernel
theorem d_X0_endsAlong_19 : decode c_X0_endsAlong 19 = .ok (.lushr, 1) := by decide +kernel
theorem d_X0_endsAlong_20 : decode c_X0_endsAlong 20 = .ok (.lor, 1) := by decide +kernel
theorem d_X0_endsAlong_21 : decode c_X0_endsAlong 21 = .ok (.lreturn, 1) := by decide +kernel
theorem d_X0_turnedBy_0 : decode c_X0_turnedBy 0 = .ok (.lload_n 2, 1) := by decide +kernel
theorem d_X0_turnedBy_1 : decode c_X0_turnedBy 1 = .ok (.ldc2_w 160, 3) := by decide +kernel
theorem d_X0_turnedBy_4 : decode c_X0_turnedBy 4 = .ok (.land, 1) := by decide +kernel
theorem d_X0_turnedBy_5 : decode c_X0_turnedBy 5 = .ok (.lstore 6, 2) := by decide +kernel
theorem d_X0_turnedBy_7 : decode c_X0_turnedBy 7 = .ok (.lload_n 0, 1) := by decide +kernel
theorem d_X0_turnedBy_8 : decode c_X0_turnedBy 8 = .ok (.lload_n 2, 1) := by decide +kernel
theorem d_X0_turnedBy_9 : decode c_X0_turnedBy 9 = .ok (.lload 4, 2) := by decide +kernel
theorem d_X0_turnedBy_11 : decode c_X0_turnedBy 11 = .ok (.bipush 8, 2) := by decide +kernel
theorem d_X0_turnedBy_13 : decode c_X0_turnedBy 13 = .ok (.invokestatic 171, 3) := by decide +kernel
theorem d_X0_turnedBy_16 : decode c_X0_turnedBy 16 = .ok (.lload_n 0, 1) := by decide +kernel
theorem d_X0_turnedBy_17 : decode c_X0_turnedBy 17 = .ok (.lload 6, 2) := by decide +kernel
theorem d_X0_turnedBy_19 : decode c_X0_turnedBy 19 = .ok (.lload 4, 2) := by decide +kernel
theorem d_X0_turnedBy_21 : decode c_X0_turnedBy 21 = .ok (.iconst 1, 1) := by decide +kernel
theorem d_X0_turnedBy_22 : decode c_X0_turnedBy 22 = .ok (.invokestatic 171, 3) := by decide +kernel
theorem d_X0_turnedBy_25 : decode c_X0_turnedBy 25 = .ok (.lor, 1) := by decide +kernel
theorem d_X0_turnedBy_26 : decode c_X0_turnedBy 26 = .ok (.lload_n 0, 1) := by decide +kernel
theorem d_X0_turnedBy_27 : decode c_X0_turnedBy 27 = .ok (.lload 6, 2) := by decide +kernel
theorem d_X0_turnedBy_29 : decode c_X0_turnedBy 29 = .ok (.lload 4, 2) := by decide +kernel
theorem d_X0_turnedBy_31 : decode c_X0_turnedBy 31 = .ok (.bipush 9, 2) := by decide +kernel
theorem d_X0_turnedBy_33 : decode c_X0_turnedBy 33 = .ok (.invokestatic 171, 3) := by decide +kernel
theorem d_X0_turnedBy_36 : decode c_X0_turnedBy 36 = .ok (.lor, 1) := by decide +kernel
theorem d_X0_turnedBy_37 : decode c_X0_turnedBy 37 = .ok (.lload_n 0, 1) := by decide +kernel
theorem d_X0_turnedBy_38 : decode c_X0_turnedBy 38 = .ok (.lload 6, 2) := by decide +kernel
theorem d_X0_turnedBy_40 : decode c_X0_turnedBy 40 = .ok (.lload 4, 2) := by decide +kernel
theorem d_X0_turnedBy_42 : decode c_X0_turnedBy 42 = .ok (.bipush 7, 2) := by decide +kernel
theorem d_X0_turnedBy_44 : decode c_X0_turnedBy 44 = .ok (.invokestatic 171, 3) := by decide +kernel
theorem d_X0_turnedBy_47 : decode c_X0_turnedBy 47 = .ok (.lor, 1) := by decide +kernel
theorem d_X0_turnedBy_48 : decode c_X0_turnedBy 48 = .ok (.lreturn, 1) := by decide +kernel
theorem d_X0_turnedAlong_0 : decode c_X0_turnedAlong 0 = .ok (.lload 4, 2) := by decide +kernel
theorem d_X0_turnedAlong_2 : decode c_X0_turnedAlong 2 = .ok (.lload_n 2, 1) := by decide +kernel
theorem d_X0_turnedAlong_3 : decode c_X0_turnedAlong 3 = .ok (.iload 6, 2) := by decide +kernel
theorem d_X0_turnedAlong_5 : decode c_X0_turnedAlong 5 = .ok (.invokestatic 165, 3) := by decide +kernel
theorem d_X0_turnedAlong_8 : decode c_X0_turnedAlong 8 = .ok (.lstore 7, 2) := by decide +kernel
theorem d_X0_turnedAlong_10 : decode c_X0_turnedAlong 10 = .ok (.lload 4, 2) := by decide +kernel
theorem d_X0_turnedAlong_12 : decode c_X0_turnedAlong 12 = .ok (.lload_n 2, 1) := by decide +kernel
theorem d_X0_turnedAlong_13 : decode c_X0_turnedAlong 13 = .ok (.iload 6, 2) := by decide +kernel
theorem d_X0_turnedAlong_15 : decode c_X0_turnedAlong 15 = .ok (.invokestatic 168, 3) := by decide +kernel
theorem d_X0_turnedAlong_18 : decode c_X0_turnedAlong 18 = .ok (.lstore 9, 2) := by decide +kernel
theorem d_X0_turnedAlong_20 : decode c_X0_turnedAlong 20 = .ok (.lload 7, 2) := by decide +kernel
theorem d_X0_turnedAlong_22 : decode c_X0_turnedAlong 22 = .ok (.iload 6, 2) := by decide +kernel
theorem d_X0_turnedAlong_24 : decode c_X0_turnedAlong 24 = .ok (.lshl, 1) := by decide +kernel
theorem d_X0_turnedAlong_25 : decode c_X0_turnedAlong 25 = .ok (.lload_n 0, 1) := by decide +kernel
theorem d_X0_turnedAlong_26 : decode c_X0_turnedAlong 26 = .ok (.land, 1) := by decide +kernel
theorem d_X0_turnedAlong_27 : decode c_X0_turnedAlong 27 = .ok (.lconst 0, 1) := by decide +kernel
theorem d_X0_turnedAlong_28 : decode c_X0_turnedAlong 28 = .ok (.lcmp, 1) := by decide +kernel
theorem d_X0_turnedAlong_29 : decode c_X0_turnedAlong 29 = .ok (.ifCond .eq 8, 3) := by decide +kernel
theorem d_X0_turnedAlong_32 : decode c_X0_turnedAlong 32 = .ok (.lload 7, 2) := by decide +kernel
theorem d_X0_turnedAlong_34 : decode c_X0_turnedAlong 34 = .ok (.goto 4, 3) := by decide +kernel
theorem d_X0_turnedAlong_37 : decode c_X0_turnedAlong 37 = .ok (.lconst 0, 1) := by decide +kernel
theorem d_X0_turnedAlong_38 : decode c_X0_turnedAlong 38 = .ok (.lstore 11, 2) := by decide +kernel
theorem d_X0_turnedAlong_40 : decode c_X0_turnedAlong 40 = .ok (.lload 9, 2) := by decide +kernel
theorem d_X0_turnedAlong_42 : decode c_X0_turnedAlong 42 = .ok (.iload 6, 2) := by decide +kernel
theorem d_X0_turnedAlong_44 : decode c_X0_turnedAlong 44 = .ok (.lushr, 1) := by decide +kernel
theorem d_X0_turnedAlong_45 : decode c_X0_turnedAlong 45 = .ok (.lload_n 0, 1) := by decide +kernel
theorem d_X0_turnedAlong_46 : decode c_X0_turnedAlong 46 = .ok (.land, 1) := by decide +kernel
theorem d_X0_turnedAlong_47 : decode c_X0_turnedAlong 47 = .ok (.lconst 0, 1) := by decide +kernel
theorem d_X0_turnedAlong_48 : decode c_X0_turnedAlong 48 = .ok (.lcmp, 1) := by decide +kernel
theorem d_X0_turnedAlong_49 : decode c_X0_turnedAlong 49 = .ok (.ifCond .eq 11, 3) := by decide +kernel
theorem d_X0_turnedAlong_52 : decode c_X0_turnedAlong 52 = .ok (.lload 11, 2) := by decide +kernel
theorem d_X0_turnedAlong_54 : decode c_X0_turnedAlong 54 = .ok (.lload 9, 2) := by decide +kernel
theorem d_X0_turnedAlong_56 : decode c_X0_turnedAlong 56 = .ok (.lor, 1) := by decide +kernel
theorem d_X0_turnedAlong_57 : decode c_X0_turnedAlong 57 = .ok (.goto 5, 3) := by decide +kernel
theorem d_X0_turnedAlong_60 : decode c_X0_turnedAlong 60 = .ok (.lload 11, 2) := by decide +kernel
theorem d_X0_turnedAlong_62 : decode c_X0_turnedAlong 62 = .ok (.lreturn, 1) := by decide +kernel
theorem d_X0_runUp_0 : decode c_X0_runUp 0 = .ok (.lload_n 0, 1) := by decide +kernel
theorem d_X0_runUp_1 : decode c_X0_runUp 1 = .ok (.iload 4, 2) := by decide +kernel
theorem d_X0_runUp_3 : decode c_X0_runUp 3 = .ok (.lshl, 1) := by decide +kernel
theorem d_X0_runUp_4 : decode c_X0_runUp 4 = .ok (.lload_n 2, 1) := by decide +kernel
theorem d_X0_runUp_5 : decode c_X0_runUp 5 = .ok (.land, 1) := by decide +kernel
theorem d_X0_runUp_6 : decode c_X0_runUp 6 = .ok (.lstore 5, 2) := by decide +kernel
theorem d_X0_runUp_8 : decode c_X0_runUp 8 = .ok (.lload 5, 2) := by decide +kernel
theorem d_X0_runUp_10 : decode c_X0_runUp 10 = .ok (.lload 5, 2) := by decide +kernel
theorem d_X0_runUp_12 : decode c_X0_runUp 12 = .ok (.iload 4, 2) := by decide +kernel
theorem d_X0_runUp_14 : decode c_X0_runUp 14 = .ok (.lshl, 1) := by decide +kernel
theorem d_X0_runUp_15 : decode c_X0_runUp 15 = .ok (.lload_n 2, 1) := by decide +kernel
theorem d_X0_runUp_16 : decode c_X0_runUp 16 = .ok (.land, 1) := by decide +kernel
theorem d_X0_runUp_17 : decode c_X0_runUp 17 = .ok (.lor, 1) := by decide +kernel
theorem d_X0_runUp_18 : decode c_X0_runUp 18 = .ok (.lstore 5, 2) := by decide +kernel
theorem d_X0_runUp_20 : decode c_X0_runUp 20 = .ok (.lload 5, 2) := by decide +kernel
theorem d_X0_runUp_22 : decode c_X0_runUp 22 = .ok (.lload 5, 2) := by decide +kernel
theorem d_X0_runUp_24 : decode c_X0_runUp 24 = .ok (.iload 4, 2) := by decide +kernel
theorem d_X0_runUp_26 : decode c_X0_runUp 26 = .ok (.lshl, 1) := by decide +kernel
theorem d_X0_runUp_27 : decode c_X0_runUp 27 = .ok (.lload_n 2, 1) := by decide +kernel
theorem d_X0_runUp_28 : decode c_X0_runUp 28 = .ok (.land, 1) := by decide +kernel
theorem d_X0_runUp_29 : decode c_X0_runUp 29 = .ok (.lor, 1) := by decide +kernel
theorem d_X0_runUp_30 : decode c_X0_runUp 30 = .ok (.lstore 5, 2) := by decide +kernel
theorem d_X0_runUp_32 : decode c_X0_runUp 32 = .ok (.lload 5, 2) := by decide +kernel
theorem d_X0_runUp_34 : decode c_X0_runUp 34 = .ok (.lload 5, 2) := by decide +kernel
theorem d_X0_runUp_36 : decode c_X0_runUp 36 = .ok (.iload 4, 2) := by decide +kernel
theorem d_X0_runUp_38 : decode c_X0_runUp 38 = .ok (.lshl, 1) := by decide +kernel
theorem d_X0_runUp_39 : decode c_X0_runUp 39 = .ok (.lload_n 2, 1) := by decide +kernel
theorem d_X0_runUp_40 : decode c_X0_runUp 40 = .ok (.land, 1) := by decide +kernel
theorem d_X0_runUp_41 : decode c_X0_runUp 41 = .ok (.lor, 1) := by decide +kernel
theorem d_X0_runUp_42 : decode c_X0_runUp 42 = .ok (.lstore 5, 2) := by decide +kernel
theorem d_X0_runUp_44 : decode c_X0_runUp 44 = .ok (.lload 5, 2) := by decide +kernel
theorem d_X0_runUp_46 : decode c_X0_runUp 46 = .ok (.lload 5, 2) := by decide +kernel
theorem d_X0_runUp_48 : decode c_X0_runUp 48 = .ok (.iload 4, 2) := by decide +kernel
theorem d_X0_runUp_50 : decode c_X0_runUp 50 = .ok (.lshl, 1) := by decide +kernel
theorem d_X0_runUp_51 : decode c_X0_runUp 51 = .ok (.lload_n 2, 1) := by decide +kernel
theorem d_X0_runUp_52 : decode c_X0_runUp 52 = .ok (.land, 1) := by decide +kernel
theorem d_X0_runUp_53 : decode c_X0_runUp 53 = .ok (.lor, 1) := by decide +kernel
theorem d_X0_runUp_54 : decode c_X0_runUp 54 = .ok (.lstore 5, 2) := by decide +kernel
theorem d_X0_runUp_56 : decode c_X0_runUp 56 = .ok (.lload 5, 2) := by decide +kernel
theorem d_X0_runUp_58 : decode c_X0_runUp 58 = .ok (.lload 5, 2) := by decide +kernel
theorem d_X0_runUp_60 : decode c_X0_runUp 60 = .ok (.iload 4, 2) := by decide +kernel
theorem d_X0_runUp_62 : decode c_X0_runUp 62 = .ok (.lshl, 1) := by decide +kernel
theorem d_X0_runUp_63 : decode c_X0_runUp 63 = .ok (.lload_n 2, 1) := by decide +kernel
theorem d_X0_runUp_64 : decode c_X0_runUp 64 = .ok (.land, 1) := by decide +kernel
theorem d_X0_runUp_65 : decode c_X0_runUp 65 = .ok (.lor, 1) := by decide +kernel
theorem d_X0_runUp_66 : decode c_X0_runUp 66 = .ok (.lreturn, 1) := by decide +kernel
theorem d_X0_runDown_0 : decode c_X0_runDown 0 = .ok (.lload_n 0, 1) := by decide +kernel
theorem d_X0_runDown_1 : decode c_X0_runDown 1 = .ok (.iload 4, 2) := by decide +kernel
theorem d_X0_runDown_3 : decode c_X0_runDown 3 = .ok (.lushr, 1) := by decide +kernel
theorem d_X0_runDown_4 : decode c_X0_runDown 4 = .ok (.lload_n 2, 1) := by decide +kernel
theorem d_X0_runDown_5 : decode c_X0_runDown 5 = .ok (.land, 1) := by decide +kernel
theorem d_X0_runDown_6 : decode c_X0_runDown 6 = .ok (.lstore 5, 2) := by decide +kernel
theorem d_X0_runDown_8 : decode c_X0_runDown 8 = .ok (.lload 5, 2) := by decide +kernel
theorem d_X0_runDown_10 : decode c_X0_runDown 10 = .ok (.lload 5, 2) := by decide +kernel
theorem d_X0_runDown_12 : decode c_X0_runDown 12 = .ok (.iload 4, 2) := by decide +kernel
theorem d_X0_runDown_14 : decode c_X0_runDown 14 = .ok (.lushr, 1) := by decide +kernel
theorem d_X0_runDown_15 : decode c_X0_runDown 15 = .ok (.lload_n 2, 1) := by decide +kernel
theorem d_X0_runDown_16 : decode c_X0_runDown 16 = .ok (.land, 1) := by decide +kernel
theorem d_X0_runDown_17 : decode c_X0_runDown 17 = .ok (.lor, 1) := by decide +kernel
theorem d_X0_runDown_18 : decode c_X0_runDown 18 = .ok (.lstore 5, 2) := by decide +kernel
theorem d_X0_runDown_20 : decode c_X0_runDown 20 = .ok (.lload 5, 2) := by decide +kernel
theorem d_X0_runDown_22 : decode c_X0_runDown 22 = .ok (.lload 5, 2) := by decide +kernel
theorem d_X0_runDown_24 : decode c_X0_runDown 24 = .ok (.iload 4, 2) := by decide +kernel
theorem d_X0_runDown_26 : decode c_X0_runDown 26 = .ok (.lushr, 1) := by decide +kernel
theorem d_X0_runDown_27 : decode c_X0_runDown 27 = .ok (.lload_n 2, 1) := by decide +kernel
theorem d_X0_runDown_28 : decode c_X0_runDown 28 = .ok (.land, 1) := by decide +kernel
theorem d_X0_runDown_29 : decode c_X0_runDown 29 = .ok (.lor, 1) := by decide +kernel
theorem d_X0_runDown_30 : decode c_X0_runDown 30 = .ok (.lstore 5, 2) := by decide +kernel
theorem d_X0_runDown_32 : decode c_X0_runDown 32 = .ok (.lload 5, 2) := by decide +kernel
theorem d_X0_runDown_34 : decode c_X0_runDown 34 = .ok (.lload 5, 2) := by decide +kernel
theorem d_X0_runDown_36 : decode c_X0_runDown 36 = .ok (.iload 4, 2) := by decide +kernel
theorem d_X0_runDown_38 : decode c_X0_runDown 38 = .ok (.lushr, 1) := by decide +kernel
theorem d_X0_runDown_39 : decode c_X0_runDown 39 = .ok (.lload_n 2, 1) := by decide +kernel
theorem d_X0_runDown_40 : decode c_X0_runDown 40 = .ok (.land, 1) := by decide +kernel
theorem d_X0_runDown_41 : decode c_X0_runDown 41 = .ok (.lor, 1) := by decide +kernel
theorem d_X0_runDown_42 : decode c_X0_runDown 42 = .ok (.lstore 5, 2) := by decide +kernel
theorem d_X0_runDown_44 : decode c_X0_runDown 44 = .ok (.lload 5, 2) := by decide +kernel
theorem d_X0_runDown_46 : decode c_X0_runDown 46 = .ok (.lload 5, 2) := by decide +kernel
theorem d_X0_runDown_48 : decode c_X0_runDown 48 = .ok (.iload 4, 2) := by decide +kernel
theorem d_X0_runDown_50 : decode c_X0_runDown 50 = .ok (.lushr, 1) := by decide +kernel
theorem d_X0_runDown_51 : decode c_X0_runDown 51 = .ok (.lload_n 2, 1) := by decide +kernel
theorem d_X0_runDown_52 : decode c_X0_runDown 52 = .ok (.land, 1) := by decide +kernel
theorem d_X0_runDown_53 : decode c_X0_runDown 53 = .ok (.lor, 1) := by decide +kernel
theorem d_X0_runDown_54 : decode c_X0_runDown 54 = .ok (.lstore 5, 2) := by decide +kernel
theorem d_X0_runDown_56 : decode c_X0_runDown 56 = .ok (.lload 5, 2) := by decide +kernel
theorem d_X0_runDown_58 : decode c_X0_runDown 58 = .ok (.lload 5, 2) := by decide +kernel
theorem d_X0_runDown_60 : decode c_X0_runDown 60 = .ok (.iload 4, 2) := by decide +kernel
theorem d_X0_runDown_62 : decode c_X0_runDown 62 = .ok (.lushr, 1) := by decide +kernel
theorem d_X0_runDown_63 : decode c_X0_runDown 63 = .ok (.lload_n 2, 1) := by decide +kernel
theorem d_X0_runDown_64 : decode c_X0_runDown 64 = .ok (.land, 1) := by decide +kernel
theorem d_X0_runDown_65 : decode c_X0_runDown 65 = .ok (.lor, 1) := by decide +kernel
theorem d_X0_runDown_66 : decode c_X0_runDown 66 = .ok (.lreturn, 1) := by decide +kernel
theorem d_X0_rowsFrom_0 : decode c_X0_rowsFrom 0 = .ok (.iload 4, 2) := by decide +kernel
theorem d_X0_rowsFrom_2 : decode c_X0_rowsFrom 2 = .ok (.ifCond .gt 5, 3) := by decide +kernel
theorem d_X0_rowsFrom_5 : decode c_X0_rowsFrom 5 = .ok (.lconst 1, 1) := by decide +kernel
theorem d_X0_rowsFrom_6 : decode c_X0_rowsFrom 6 = .ok (.lreturn, 1) := by decide +kernel
theorem d_X0_rowsFrom_7 : decode c_X0_rowsFrom 7 = .ok (.lload_n 0, 1) := by decide +kernel
theorem d_X0_rowsFrom_8 : decode c_X0_rowsFrom 8 = .ok (.lload_n 2, 1) := by decide +kernel
theorem d_X0_rowsFrom_9 : decode c_X0_rowsFrom 9 = .ok (.invokestatic 54, 3) := by decide +kernel
theorem d_X0_rowsFrom_12 : decode c_X0_rowsFrom 12 = .ok (.lstore 5, 2) := by decide +kernel
theorem d_X0_rowsFrom_14 : decode c_X0_rowsFrom 14 = .ok (.lload 5, 2) := by decide +kernel
theorem d_X0_rowsFrom_16 : decode c_X0_rowsFrom 16 = .ok (.lconst 0, 1) := by decide +kernel
theorem d_X0_rowsFrom_17 : decode c_X0_rowsFrom 17 = .ok (.lcmp, 1) := by decide +kernel
theorem d_X0_rowsFrom_18 : decode c_X0_rowsFrom 18 = .ok (.ifCond .ne 27, 3) := by decide +kernel
theorem d_X0_rowsFrom_21 : decode c_X0_rowsFrom 21 = .ok (.lload_n 2, 1) := by decide +kernel
theorem d_X0_rowsFrom_22 : decode c_X0_rowsFrom 22 = .ok (.lload_n 0, 1) := by decide +kernel
theorem d_X0_rowsFrom_23 : decode c_X0_rowsFrom 23 = .ok (.invokestatic 54, 3) := by decide +kernel
theorem d_X0_rowsFrom_26 : decode c_X0_rowsFrom 26 = .ok (.lconst 0, 1) := by decide +kernel
theorem d_X0_rowsFrom_27 : decode c_X0_rowsFrom 27 = .ok (.lcmp, 1) := by decide +kernel
theorem d_X0_rowsFrom_28 : decode c_X0_rowsFrom 28 = .ok (.ifCond .ne 7, 3) := by decide +kernel
theorem d_X0_rowsFrom_31 : decode c_X0_rowsFrom 31 = .ok (.lconst 1, 1) := by decide +kernel
theorem d_X0_rowsFrom_32 : decode c_X0_rowsFrom 32 = .ok (.goto 12, 3) := by decide +kernel
theorem d_X0_rowsFrom_35 : decode c_X0_rowsFrom 35 = .ok (.lload_n 2, 1) := by decide +kernel
theorem d_X0_rowsFrom_36 : decode c_X0_rowsFrom 36 = .ok (.lload_n 0, 1) := by decide +kernel
theorem d_X0_rowsFrom_37 : decode c_X0_rowsFrom 37 = .ok (.iload 4, 2) := by decide +kernel
theorem d_X0_rowsFrom_39 : decode c_X0_rowsFrom 39 = .ok (.iconst 1, 1) := by decide +kernel
theorem d_X0_rowsFrom_40 : decode c_X0_rowsFrom 40 = .ok (.isub, 1) := by decide +kernel
theorem d_X0_rowsFrom_41 : decode c_X0_rowsFrom 41 = .ok (.invokestatic 104, 3) := by decide +kernel
theorem d_X0_rowsFrom_44 : decode c_X0_rowsFrom 44 = .ok (.lreturn, 1) := by decide +kernel
theorem d_X0_rowsFrom_45 : decode c_X0_rowsFrom 45 = .ok (.lload 5, 2) := by decide +kernel
theorem d_X0_rowsFrom_47 : decode c_X0_rowsFrom 47 = .ok (.invokestatic 128, 3) := by decide +kernel
theorem d_X0_rowsFrom_50 : decode c_X0_rowsFrom 50 = .ok (.istore 7, 2) := by decide +kernel
theorem d_X0_rowsFrom_52 : decode c_X0_rowsFrom 52 = .ok (.iload 4, 2) := by decide +kernel
theorem d_X0_rowsFrom_54 : decode c_X0_rowsFrom 54 = .ok (.iconst 1, 1) := by decide +kernel
theorem d_X0_rowsFrom_55 : decode c_X0_rowsFrom 55 = .ok (.if_icmp .ne 7, 3) := by decide +kernel
theorem d_X0_rowsFrom_58 : decode c_X0_rowsFrom 58 = .ok (.iload 7, 2) := by decide +kernel
theorem d_X0_rowsFrom_60 : decode c_X0_rowsFrom 60 = .ok (.i2l, 1) := by decide +kernel
theorem d_X0_rowsFrom_61 : decode c_X0_rowsFrom 61 = .ok (.lreturn, 1) := by decide +kernel
theorem d_X0_rowsFrom_62 : decode c_X0_rowsFrom 62 = .ok (.lconst 0, 1) := by decide +kernel
theorem d_X0_rowsFrom_63 : decode c_X0_rowsFrom 63 = .ok (.lstore 8, 2) := by decide +kernel
theorem d_X0_rowsFrom_65 : decode c_X0_rowsFrom 65 = .ok (.iconst 0, 1) := by decide +kernel
theorem d_X0_rowsFrom_66 : decode c_X0_rowsFrom 66 = .ok (.istore 10, 2) := by decide +kernel
theorem d_X0_rowsFrom_68 : decode c_X0_rowsFrom 68 = .ok (.iload 10, 2) := by decide +kernel
theorem d_X0_rowsFrom_70 : decode c_X0_rowsFrom 70 = .ok (.iload 7, 2) := by decide +kernel
theorem d_X0_rowsFrom_72 : decode c_X0_rowsFrom 72 = .ok (.if_icmp .ge 56, 3) := by decide +kernel
theorem d_X0_rowsFrom_75 : decode c_X0_rowsFrom 75 = .ok (.lload 5, 2) := by decide +kernel
theorem d_X0_rowsFrom_77 : decode c_X0_rowsFrom 77 = .ok (.lload 5, 2) := by decide +kernel
theorem d_X0_rowsFrom_79 : decode c_X0_rowsFrom 79 = .ok (.lneg, 1) := by decide +kernel
theorem d_X0_rowsFrom_80 : decode c_X0_rowsFrom 80 = .ok (.land, 1) := by decide +kernel
theorem d_X0_rowsFrom_81 : decode c_X0_rowsFrom 81 = .ok (.lstore 11, 2) := by decide +kernel
theorem d_X0_rowsFrom_83 : decode c_X0_rowsFrom 83 = .ok (.lload 5, 2) := by decide +kernel
theorem d_X0_rowsFrom_85 : decode c_X0_rowsFrom 85 = .ok (.lload 11, 2) := by decide +kernel
theorem d_X0_rowsFrom_87 : decode c_X0_rowsFrom 87 = .ok (.lxor, 1) := by decide +kernel
theorem d_X0_rowsFrom_88 : decode c_X0_rowsFrom 88 = .ok (.lstore 5, 2) := by decide +kernel
theorem d_X0_rowsFrom_90 : decode c_X0_rowsFrom 90 = .ok (.lload_n 0, 1) := by decide +kernel
theorem d_X0_rowsFrom_91 : decode c_X0_rowsFrom 91 = .ok (.lload_n 2, 1) := by decide +kernel
theorem d_X0_rowsFrom_92 : decode c_X0_rowsFrom 92 = .ok (.lload 11, 2) := by decide +kernel
theorem d_X0_rowsFrom_94 : decode c_X0_rowsFrom 94 = .ok (.invokestatic 67, 3) := by decide +kernel
theorem d_X0_rowsFrom_97 : decode c_X0_rowsFrom 97 = .ok (.lstore 13, 2) := by decide +kernel
theorem d_X0_rowsFrom_99 : decode c_X0_rowsFrom 99 = .ok (.lload 8, 2) := by decide +kernel
theorem d_X0_rowsFrom_101 : decode c_X0_rowsFrom 101 = .ok (.lload_n 2, 1) := by decide +kernel
theorem d_X0_rowsFrom_102 : decode c_X0_rowsFrom 102 = .ok (.lload 13, 2) := by decide +kernel
theorem d_X0_rowsFrom_104 : decode c_X0_rowsFrom 104 = .ok (.lxor, 1) := by decide +kernel
theorem d_X0_rowsFrom_105 : decode c_X0_rowsFrom 105 = .ok (.lload_n 0, 1) := by decide +kernel
theorem d_X0_rowsFrom_106 : decode c_X0_rowsFrom 106 = .ok (.lload 11, 2) := by decide +kernel
theorem d_X0_rowsFrom_108 : decode c_X0_rowsFrom 108 = .ok (.lor, 1) := by decide +kernel
theorem d_X0_rowsFrom_109 : decode c_X0_rowsFrom 109 = .ok (.lload 13, 2) := by decide +kernel
theorem d_X0_rowsFrom_111 : decode c_X0_rowsFrom 111 = .ok (.lor, 1) := by decide +kernel
theorem d_X0_rowsFrom_112 : decode c_X0_rowsFrom 112 = .ok (.iload 4, 2) := by decide +kernel
theorem d_X0_rowsFrom_114 : decode c_X0_rowsFrom 114 = .ok (.iconst 1, 1) := by decide +kernel
theorem d_X0_rowsFrom_115 : decode c_X0_rowsFrom 115 = .ok (.isub, 1) := by decide +kernel
theorem d_X0_rowsFrom_116 : decode c_X0_rowsFrom 116 = .ok (.invokestatic 104, 3) := by decide +kernel
theorem d_X0_rowsFrom_119 : decode c_X0_rowsFrom 119 = .ok (.ladd, 1) := by decide +kernel
theorem d_X0_rowsFrom_120 : decode c_X0_rowsFrom 120 = .ok (.lstore 8, 2) := by decide +kernel
theorem d_X0_rowsFrom_122 : decode c_X0_rowsFrom 122 = .ok (.iinc 10 1, 3) := by decide +kernel
theorem d_X0_rowsFrom_125 : decode c_X0_rowsFrom 125 = .ok (.goto (-57), 3) := by decide +kernel
theorem d_X0_rowsFrom_128 : decode c_X0_rowsFrom 128 = .ok (.lload 8, 2) := by decide +kernel
theorem d_X0_rowsFrom_130 : decode c_X0_rowsFrom 130 = .ok (.lreturn, 1) := by decide +kernel
theorem d_X0_worth_0 : decode c_X0_worth 0 = .ok (.lload_n 0, 1) := by decide +kernel
theorem d_X0_worth_1 : decode c_X0_worth 1 = .ok (.lload_n 2, 1) := by decide +kernel
theorem d_X0_worth_2 : decode c_X0_worth 2 = .ok (.invokestatic 54, 3) := by decide +kernel
theorem d_X0_worth_5 : decode c_X0_worth 5 = .ok (.lstore 7, 2) := by decide +kernel
theorem d_X0_worth_7 : decode c_X0_worth 7 = .ok (.iload 6, 2) := by decide +kernel
theorem d_X0_worth_9 : decode c_X0_worth 9 = .ok (.ifCond .le 20, 3) := by decide +kernel
theorem d_X0_worth_12 : decode c_X0_worth 12 = .ok (.lload 7, 2) := by decide +kernel
theorem d_X0_worth_14 : decode c_X0_worth 14 = .ok (.lconst 0, 1) := by decide +kernel
theorem d_X0_worth_15 : decode c_X0_worth 15 = .ok (.lcmp, 1) := by decide +kernel
theorem d_X0_worth_16 : decode c_X0_worth 16 = .ok (.ifCond .ne 19, 3) := by decide +kernel
theorem d_X0_worth_19 : decode c_X0_worth 19 = .ok (.lload_n 2, 1) := by decide +kernel
theorem d_X0_worth_20 : decode c_X0_worth 20 = .ok (.lload_n 0, 1) := by decide +kernel
theorem d_X0_worth_21 : decode c_X0_worth 21 = .ok (.invokestatic 54, 3) := by decide +kernel
theorem d_X0_worth_24 : decode c_X0_worth 24 = .ok (.lconst 0, 1) := by decide +kernel
theorem d_X0_worth_25 : decode c_X0_worth 25 = .ok (.lcmp, 1) := by decide +kernel
theorem d_X0_worth_26 : decode c_X0_worth 26 = .ok (.ifCond .ne 9, 3) := by decide +kernel
theorem d_X0_worth_29 : decode c_X0_worth 29 = .ok (.lload_n 0, 1) := by decide +kernel
theorem d_X0_worth_30 : decode c_X0_worth 30 = .ok (.lload_n 2, 1) := by decide +kernel
theorem d_X0_worth_31 : decode c_X0_worth 31 = .ok (.invokestatic 98, 3) := by decide +kernel
theorem d_X0_worth_34 : decode c_X0_worth 34 = .ok (.ireturn, 1) := by decide +kernel
theorem d_X0_worth_35 : decode c_X0_worth 35 = .ok (.lload 7, 2) := by decide +kernel
theorem d_X0_worth_37 : decode c_X0_worth 37 = .ok (.lconst 0, 1) := by decide +kernel
theorem d_X0_worth_38 : decode c_X0_worth 38 = .ok (.lcmp, 1) := by decide +kernel
theorem d_X0_worth_39 : decode c_X0_worth 39 = .ok (.ifCond .ne 20, 3) := by decide +kernel
theorem d_X0_worth_42 : decode c_X0_worth 42 = .ok (.lload_n 2, 1) := by decide +kernel
theorem d_X0_worth_43 : decode c_X0_worth 43 = .ok (.lload_n 0, 1) := by decide +kernel
theorem d_X0_worth_44 : decode c_X0_worth 44 = .ok (.iload 5, 2) := by decide +kernel
theorem d_X0_worth_46 : decode c_X0_worth 46 = .ok (.ineg, 1) := by decide +kernel
theorem d_X0_worth_47 : decode c_X0_worth 47 = .ok (.iload 4, 2) := by decide +kernel
theorem d_X0_worth_49 : decode c_X0_worth 49 = .ok (.ineg, 1) := by decide +kernel
theorem d_X0_worth_50 : decode c_X0_worth 50 = .ok (.iload 6, 2) := by decide +kernel
theorem d_X0_worth_52 : decode c_X0_worth 52 = .ok (.iconst 1, 1) := by decide +kernel
theorem d_X0_worth_53 : decode c_X0_worth 53 = .ok (.isub, 1) := by decide +kernel
theorem d_X0_worth_54 : decode c_X0_worth 54 = .ok (.invokestatic 111, 3) := by decide +kernel
theorem d_X0_worth_57 : decode c_X0_worth 57 = .ok (.ineg, 1) := by decide +kernel
theorem d_X0_worth_58 : decode c_X0_worth 58 = .ok (.ireturn, 1) := by decide +kernel
theorem d_X0_worth_59 : decode c_X0_worth 59 = .ok (.bipush (-65), 2) := by decide +kernel
theorem d_X0_worth_61 : decode c_X0_worth 61 = .ok (.istore 9, 2) := by decide +kernel
theorem d_X0_worth_63 : decode c_X0_worth 63 = .ok (.lload 7, 2) := by decide +kernel
theorem d_X0_worth_65 : decode c_X0_worth 65 = .ok (.invokestatic 128, 3) := by decide +kernel
theorem d_X0_worth_68 : decode c_X0_worth 68 = .ok (.istore 10, 2) := by decide +kernel
theorem d_X0_worth_70 : decode c_X0_worth 70 = .ok (.iconst 0, 1) := by decide +kernel
theorem d_X0_worth_71 : decode c_X0_worth 71 = .ok (.istore 11, 2) := by decide +kernel
theorem d_X0_worth_73 : decode c_X0_worth 73 = .ok (.iload 11, 2) := by decide +kernel
theorem d_X0_worth_75 : decode c_X0_worth 75 = .ok (.iload 10, 2) := by decide +kernel
theorem d_X0_worth_77 : decode c_X0_worth 77 = .ok (.if_icmp .ge 56, 3) := by decide +kernel
theorem d_X0_worth_80 : decode c_X0_worth 80 = .ok (.iload 9, 2) := by decide +kernel
theorem d_X0_worth_82 : decode c_X0_worth 82 = .ok (.iload 5, 2) := by decide +kernel
theorem d_X0_worth_84 : decode c_X0_worth 84 = .ok (.if_icmp .ge 49, 3) := by decide +kernel
theorem d_X0_worth_87 : decode c_X0_worth 87 = .ok (.lload 7, 2) := by decide +kernel
theorem d_X0_worth_89 : decode c_X0_worth 89 = .ok (.lload 7, 2) := by decide +kernel
theorem d_X0_worth_91 : decode c_X0_worth 91 = .ok (.lneg, 1) := by decide +kernel
theorem d_X0_worth_92 : decode c_X0_worth 92 = .ok (.land, 1) := by decide +kernel
theorem d_X0_worth_93 : decode c_X0_worth 93 = .ok (.lstore 12, 2) := by decide +kernel
theorem d_X0_worth_95 : decode c_X0_worth 95 = .ok (.lload 7, 2) := by decide +kernel
theorem d_X0_worth_97 : decode c_X0_worth 97 = .ok (.lload 12, 2) := by decide +kernel
theorem d_X0_worth_99 : decode c_X0_worth 99 = .ok (.lxor, 1) := by decide +kernel
theorem d_X0_worth_100 : decode c_X0_worth 100 = .ok (.lstore 7, 2) := by decide +kernel
theorem d_X0_worth_102 : decode c_X0_worth 102 = .ok (.iload 9, 2) := by decide +kernel
theorem d_X0_worth_104 : decode c_X0_worth 104 = .ok (.lload_n 0, 1) := by decide +kernel
theorem d_X0_worth_105 : decode c_X0_worth 105 = .ok (.lload_n 2, 1) := by decide +kernel
theorem d_X0_worth_106 : decode c_X0_worth 106 = .ok (.lload 12, 2) := by decide +kernel
theorem d_X0_worth_108 : decode c_X0_worth 108 = .ok (.iload 4, 2) := by decide +kernel
theorem d_X0_worth_110 : decode c_X0_worth 110 = .ok (.iload 9, 2) := by decide +kernel
theorem d_X0_worth_112 : decode c_X0_worth 112 = .ok (.invokestatic 175, 3) := by decide +kernel
theorem d_X0_worth_115 : decode c_X0_worth 115 = .ok (.iload 5, 2) := by decide +kernel
theorem d_X0_worth_117 : decode c_X0_worth 117 = .ok (.iload 6, 2) := by decide +kernel
theorem d_X0_worth_119 : decode c_X0_worth 119 = .ok (.invokestatic 181, 3) := by decide +kernel
theorem d_X0_worth_122 : decode c_X0_worth 122 = .ok (.invokestatic 175, 3) := by decide +kernel
theorem d_X0_worth_125 : decode c_X0_worth 125 = .ok (.istore 9, 2) := by decide +kernel
theorem d_X0_worth_127 : decode c_X0_worth 127 = .ok (.iinc 11 1, 3) := by decide +kernel
theorem d_X0_worth_130 : decode c_X0_worth 130 = .ok (.goto (-57), 3) := by decide +kernel
theorem d_X0_worth_133 : decode c_X0_worth 133 = .ok (.iload 9, 2) := by decide +kernel
theorem d_X0_worth_135 : decode c_X0_worth 135 = .ok (.ireturn, 1) := by decide +kernel
theorem d_X0_worthOf_0 : decode c_X0_worthOf 0 = .ok (.lload_n 0, 1) := by decide +kernel
theorem d_X0_worthOf_1 : decode c_X0_worthOf 1 = .ok (.lload_n 2, 1) := by decide +kernel
theorem d_X0_worthOf_2 : decode c_X0_worthOf 2 = .ok (.lload 4, 2) := by decide +kernel
theorem d_X0_worthOf_4 : decode c_X0_worthOf 4 = .ok (.invokestatic 67, 3) := by decide +kernel
theorem d_X0_worthOf_7 : decode c_X0_worthOf 7 = .ok (.lstore 9, 2) := by decide +kernel
theorem d_X0_worthOf_9 : decode c_X0_worthOf 9 = .ok (.lload_n 2, 1) := by decide +kernel
theorem d_X0_worthOf_10 : decode c_X0_worthOf 10 = .ok (.lload 9, 2) := by decide +kernel
theorem d_X0_worthOf_12 : decode c_X0_worthOf 12 = .ok (.lxor, 1) := by decide +kernel
theorem d_X0_worthOf_13 : decode c_X0_worthOf 13 = .ok (.lload_n 0, 1) := by decide +kernel
theorem d_X0_worthOf_14 : decode c_X0_worthOf 14 = .ok (.lload 4, 2) := by decide +kernel
theorem d_X0_worthOf_16 : decode c_X0_worthOf 16 = .ok (.lor, 1) := by decide +kernel
theorem d_X0_worthOf_17 : decode c_X0_worthOf 17 = .ok (.lload 9, 2) := by decide +kernel
theorem d_X0_worthOf_19 : decode c_X0_worthOf 19 = .ok (.lor, 1) := by decide +kernel
theorem d_X0_worthOf_20 : decode c_X0_worthOf 20 = .ok (.iload 7, 2) := by decide +kernel
theorem d_X0_worthOf_22 : decode c_X0_worthOf 22 = .ok (.ineg, 1) := by decide +kernel
theorem d_X0_worthOf_23 : decode c_X0_worthOf 23 = .ok (.iload 6, 2) := by decide +kernel
theorem d_X0_worthOf_25 : decode c_X0_worthOf 25 = .ok (.ineg, 1) := by decide +kernel
theorem d_X0_worthOf_26 : decode c_X0_worthOf 26 = .ok (.iload 8, 2) := by decide +kernel
theorem d_X0_worthOf_28 : decode c_X0_worthOf 28 = .ok (.iconst 1, 1) := by decide +kernel
theorem d_X0_worthOf_29 : decode c_X0_worthOf 29 = .ok (.isub, 1) := by decide +kernel
theorem d_X0_worthOf_30 : decode c_X0_worthOf 30 = .ok (.invokestatic 111, 3) := by decide +kernel
theorem d_X0_worthOf_33 : decode c_X0_worthOf 33 = .ok (.ineg, 1) := by decide +kernel
theorem d_X0_worthOf_34 : decode c_X0_worthOf 34 = .ok (.ireturn, 1) := by decide +kernel
theorem d_X0_bestSquare_0 : decode c_X0_bestSquare 0 = .ok (.lload_n 0, 1) := by decide +kernel
theorem d_X0_bestSquare_1 : decode c_X0_bestSquare 1 = .ok (.lload_n 2, 1) := by decide +kernel
theorem d_X0_bestSquare_2 : decode c_X0_bestSquare 2 = .ok (.invokestatic 54, 3) := by decide +kernel
theorem d_X0_bestSquare_5 : decode c_X0_bestSquare 5 = .ok (.lstore 4, 2) := by decide +kernel
theorem d_X0_bestSquare_7 : decode c_X0_bestSquare 7 = .ok (.lload 4, 2) := by decide +kernel
theorem d_X0_bestSquare_9 : decode c_X0_bestSquare 9 = .ok (.lconst 0, 1) := by decide +kernel
theorem d_X0_bestSquare_10 : decode c_X0_bestSquare 10 = .ok (.lcmp, 1) := by decide +kernel
theorem d_X0_bestSquare_11 : decode c_X0_bestSquare 11 = .ok (.ifCond .ne 21, 3) := by decide +kernel
theorem d_X0_bestSquare_14 : decode c_X0_bestSquare 14 = .ok (.lload_n 2, 1) := by decide +kernel
theorem d_X0_bestSquare_15 : decode c_X0_bestSquare 15 = .ok (.lload_n 0, 1) := by decide +kernel
theorem d_X0_bestSquare_16 : decode c_X0_bestSquare 16 = .ok (.invokestatic 54, 3) := by decide +kernel
theorem d_X0_bestSquare_19 : decode c_X0_bestSquare 19 = .ok (.lconst 0, 1) := by decide +kernel
theorem d_X0_bestSquare_20 : decode c_X0_bestSquare 20 = .ok (.lcmp, 1) := by decide +kernel
theorem d_X0_bestSquare_21 : decode c_X0_bestSquare 21 = .ok (.ifCond .ne 8, 3) := by decide +kernel
theorem d_X0_bestSquare_24 : decode c_X0_bestSquare 24 = .ok (.bipush 65, 2) := by decide +kernel
theorem d_X0_bestSquare_26 : decode c_X0_bestSquare 26 = .ok (.goto 5, 3) := by decide +kernel
theorem d_X0_bestSquare_29 : decode c_X0_bestSquare 29 = .ok (.bipush 64, 2) := by decide +kernel
theorem d_X0_bestSquare_31 : decode c_X0_bestSquare 31 = .ok (.ireturn, 1) := by decide +kernel
theorem d_X0_bestSquare_32 : decode c_X0_bestSquare 32 = .ok (.lconst 0, 1) := by decide +kernel
theorem d_X0_bestSquare_33 : decode c_X0_bestSquare 33 = .ok (.lstore 6, 2) := by decide +kernel
theorem d_X0_bestSquare_35 : decode c_X0_bestSquare 35 = .ok (.bipush (-65), 2) := by decide +kernel
theorem d_X0_bestSquare_37 : decode c_X0_bestSquare 37 = .ok (.istore 8, 2) := by decide +kernel
theorem d_X0_bestSquare_39 : decode c_X0_bestSquare 39 = .ok (.lload 4, 2) := by decide +kernel
theorem d_X0_bestSquare_41 : decode c_X0_bestSquare 41 = .ok (.invokestatic 128, 3) := by decide +kernel
theorem d_X0_bestSquare_44 : decode c_X0_bestSquare 44 = .ok (.istore 9, 2) := by decide +kernel
theorem d_X0_bestSquare_46 : decode c_X0_bestSquare 46 = .ok (.iconst 0, 1) := by decide +kernel
theorem d_X0_bestSquare_47 : decode c_X0_bestSquare 47 = .ok (.istore 10, 2) := by decide +kernel
theorem d_X0_bestSquare_49 : decode c_X0_bestSquare 49 = .ok (.iload 10, 2) := by decide +kernel
theorem d_X0_bestSquare_51 : decode c_X0_bestSquare 51 = .ok (.iload 9, 2) := by decide +kernel
theorem d_X0_bestSquare_53 : decode c_X0_bestSquare 53 = .ok (.if_icmp .ge 54, 3) := by decide +kernel
theorem d_X0_bestSquare_56 : decode c_X0_bestSquare 56 = .ok (.lload 4, 2) := by decide +kernel
theorem d_X0_bestSquare_58 : decode c_X0_bestSquare 58 = .ok (.lload 4, 2) := by decide +kernel
theorem d_X0_bestSquare_60 : decode c_X0_bestSquare 60 = .ok (.lneg, 1) := by decide +kernel
theorem d_X0_bestSquare_61 : decode c_X0_bestSquare 61 = .ok (.land, 1) := by decide +kernel
theorem d_X0_bestSquare_62 : decode c_X0_bestSquare 62 = .ok (.lstore 11, 2) := by decide +kernel
theorem d_X0_bestSquare_64 : decode c_X0_bestSquare 64 = .ok (.lload 4, 2) := by decide +kernel
theorem d_X0_bestSquare_66 : decode c_X0_bestSquare 66 = .ok (.lload 11, 2) := by decide +kernel
theorem d_X0_bestSquare_68 : decode c_X0_bestSquare 68 = .ok (.lxor, 1) := by decide +kernel
theorem d_X0_bestSquare_69 : decode c_X0_bestSquare 69 = .ok (.lstore 4, 2) := by decide +kernel
theorem d_X0_bestSquare_71 : decode c_X0_bestSquare 71 = .ok (.lload_n 0, 1) := by decide +kernel
theorem d_X0_bestSquare_72 : decode c_X0_bestSquare 72 = .ok (.lload_n 2, 1) := by decide +kernel
theorem d_X0_bestSquare_73 : decode c_X0_bestSquare 73 = .ok (.lload 11, 2) := by decide +kernel
theorem d_X0_bestSquare_75 : decode c_X0_bestSquare 75 = .ok (.iload 8, 2) := by decide +kernel
theorem d_X0_bestSquare_77 : decode c_X0_bestSquare 77 = .ok (.bipush 65, 2) := by decide +kernel
theorem d_X0_bestSquare_79 : decode c_X0_bestSquare 79 = .ok (.bipush 14, 2) := by decide +kernel
theorem d_X0_bestSquare_81 : decode c_X0_bestSquare 81 = .ok (.invokestatic 181, 3) := by decide +kernel
theorem d_X0_bestSquare_84 : decode c_X0_bestSquare 84 = .ok (.istore 13, 2) := by decide +kernel
theorem d_X0_bestSquare_86 : decode c_X0_bestSquare 86 = .ok (.iload 13, 2) := by decide +kernel
theorem d_X0_bestSquare_88 : decode c_X0_bestSquare 88 = .ok (.iload 8, 2) := by decide +kernel
theorem d_X0_bestSquare_90 : decode c_X0_bestSquare 90 = .ok (.if_icmp .le 11, 3) := by decide +kernel
theorem d_X0_bestSquare_93 : decode c_X0_bestSquare 93 = .ok (.iload 13, 2) := by decide +kernel
theorem d_X0_bestSquare_95 : decode c_X0_bestSquare 95 = .ok (.istore 8, 2) := by decide +kernel
theorem d_X0_bestSquare_97 : decode c_X0_bestSquare 97 = .ok (.lload 11, 2) := by decide +kernel
theorem d_X0_bestSquare_99 : decode c_X0_bestSquare 99 = .ok (.lstore 6, 2) := by decide +kernel
theorem d_X0_bestSquare_101 : decode c_X0_bestSquare 101 = .ok (.iinc 10 1, 3) := by decide +kernel
theorem d_X0_bestSquare_104 : decode c_X0_bestSquare 104 = .ok (.goto (-55), 3) := by decide +kernel
theorem d_X0_bestSquare_107 : decode c_X0_bestSquare 107 = .ok (.lload 6, 2) := by decide +kernel
theorem d_X0_bestSquare_109 : decode c_X0_bestSquare 109 = .ok (.invokestatic 185, 3) := by decide +kernel
theorem d_X0_bestSquare_112 : decode c_X0_bestSquare 112 = .ok (.ireturn, 1) := by decide +kernel
theorem d_X0_squareOf_0 : decode c_X0_squareOf 0 = .ok (.lload_n 0, 1) := by decide +kernel
theorem d_X0_squareOf_1 : decode c_X0_squareOf 1 = .ok (.lconst 1, 1) := by decide +kernel
theorem d_X0_squareOf_2 : decode c_X0_squareOf 2 = .ok (.lsub, 1) := by decide +kernel
theorem d_X0_squareOf_3 : decode c_X0_squareOf 3 = .ok (.invokestatic 128, 3) := by decide +kernel
theorem d_X0_squareOf_6 : decode c_X0_squareOf 6 = .ok (.ireturn, 1) := by decide +kernel
theorem d_X0_withNeighbours_0 : decode c_X0_withNeighbours 0 = .ok (.lload_n 0, 1) := by decide +kernel
theorem d_X0_withNeighbours_1 : decode c_X0_withNeighbours 1 = .ok (.lload_n 0, 1) := by decide +kernel
theorem d_X0_withNeighbours_2 : decode c_X0_withNeighbours 2 = .ok (.iconst 1, 1) := by decide +kernel
theorem d_X0_withNeighbours_3 : decode c_X0_withNeighbours 3 = .ok (.lshl, 1) := by decide +kernel
theorem d_X0_withNeighbours_4 : decode c_X0_withNeighbours 4 = .ok (.ldc2_w 188, 3) := by decide +kernel
theorem d_X0_withNeighbours_7 : decode c_X0_withNeighbours 7 = .ok (.land, 1) := by decide +kernel
theorem d_X0_withNeighbours_8 : decode c_X0_withNeighbours 8 = .ok (.lor, 1) := by decide +kernel
theorem d_X0_withNeighbours_9 : decode c_X0_withNeighbours 9 = .ok (.lload_n 0, 1) := by decide +kernel
theorem d_X0_withNeighbours_10 : decode c_X0_withNeighbours 10 = .ok (.iconst 1, 1) := by decide +kernel
theorem d_X0_withNeighbours_11 : decode c_X0_withNeighbours 11 = .ok (.lushr, 1) := by decide +kernel
theorem d_X0_withNeighbours_12 : decode c_X0_withNeighbours 12 = .ok (.ldc2_w 190, 3) := by decide +kernel
theorem d_X0_withNeighbours_15 : decode c_X0_withNeighbours 15 = .ok (.land, 1) := by decide +kernel
theorem d_X0_withNeighbours_16 : decode c_X0_withNeighbours 16 = .ok (.lor, 1) := by decide +kernel
theorem d_X0_withNeighbours_17 : decode c_X0_withNeighbours 17 = .ok (.lstore_n 2, 1) := by decide +kernel
theorem d_X0_withNeighbours_18 : decode c_X0_withNeighbours 18 = .ok (.lload_n 2, 1) := by decide +kernel
theorem d_X0_withNeighbours_19 : decode c_X0_withNeighbours 19 = .ok (.lload_n 2, 1) := by decide +kernel
theorem d_X0_withNeighbours_20 : decode c_X0_withNeighbours 20 = .ok (.bipush 8, 2) := by decide +kernel
theorem d_X0_withNeighbours_22 : decode c_X0_withNeighbours 22 = .ok (.lshl, 1) := by decide +kernel
theorem d_X0_withNeighbours_23 : decode c_X0_withNeighbours 23 = .ok (.lor, 1) := by decide +kernel
theorem d_X0_withNeighbours_24 : decode c_X0_withNeighbours 24 = .ok (.lload_n 2, 1) := by decide +kernel
theorem d_X0_withNeighbours_25 : decode c_X0_withNeighbours 25 = .ok (.bipush 8, 2) := by decide +kernel
theorem d_X0_withNeighbours_27 : decode c_X0_withNeighbours 27 = .ok (.lushr, 1) := by decide +kernel
theorem d_X0_withNeighbours_28 : decode c_X0_withNeighbours 28 = .ok (.lor, 1) := by decide +kernel
theorem d_X0_withNeighbours_29 : decode c_X0_withNeighbours 29 = .ok (.lreturn, 1) := by decide +kernel
theorem d_X0_heldAlong_0 : decode c_X0_heldAlong 0 = .ok (.lload_n 3, 1) := by decide +kernel
theorem d_X0_heldAlong_1 : decode c_X0_heldAlong 1 = .ok (.lstore 7, 2) := by decide +kernel
theorem d_X0_heldAlong_3 : decode c_X0_heldAlong 3 = .ok (.lload 5, 2) := by decide +kernel
theorem d_X0_heldAlong_5 : decode c_X0_heldAlong 5 = .ok (.lstore 9, 2) := by decide +kernel
theorem d_X0_heldAlong_7 : decode c_X0_heldAlong 7 = .ok (.iconst 0, 1) := by decide +kernel
theorem d_X0_heldAlong_8 : decode c_X0_heldAlong 8 = .ok (.istore 11, 2) := by decide +kernel
theorem d_X0_heldAlong_10 : decode c_X0_heldAlong 10 = .ok (.iload 11, 2) := by decide +kernel
theorem d_X0_heldAlong_12 : decode c_X0_heldAlong 12 = .ok (.bipush 7, 2) := by decide +kernel
theorem d_X0_heldAlong_14 : decode c_X0_heldAlong 14 = .ok (.if_icmp .ge 31, 3) := by decide +kernel
theorem d_X0_heldAlong_17 : decode c_X0_heldAlong 17 = .ok (.lload 7, 2) := by decide +kernel
theorem d_X0_heldAlong_19 : decode c_X0_heldAlong 19 = .ok (.lload 7, 2) := by decide +kernel
theorem d_X0_heldAlong_21 : decode c_X0_heldAlong 21 = .ok (.lload_n 0, 1) := by decide +kernel
theorem d_X0_heldAlong_22 : decode c_X0_heldAlong 22 = .ok (.land, 1) := by decide +kernel
theorem d_X0_heldAlong_23 : decode c_X0_heldAlong 23 = .ok (.iload_n 2, 1) := by decide +kernel
theorem d_X0_heldAlong_24 : decode c_X0_heldAlong 24 = .ok (.lushr, 1) := by decide +kernel
theorem d_X0_heldAlong_25 : decode c_X0_heldAlong 25 = .ok (.lor, 1) := by decide +kernel
theorem d_X0_heldAlong_26 : decode c_X0_heldAlong 26 = .ok (.lstore 7, 2) := by decide +kernel
theorem d_X0_heldAlong_28 : decode c_X0_heldAlong 28 = .ok (.lload 9, 2) := by decide +kernel
theorem d_X0_heldAlong_30 : decode c_X0_heldAlong 30 = .ok (.lload 9, 2) := by decide +kernel
theorem d_X0_heldAlong_32 : decode c_X0_heldAlong 32 = .ok (.lload_n 0, 1) := by decide +kernel
theorem d_X0_heldAlong_33 : decode c_X0_heldAlong 33 = .ok (.land, 1) := by decide +kernel
theorem d_X0_heldAlong_34 : decode c_X0_heldAlong 34 = .ok (.iload_n 2, 1) := by decide +kernel
theorem d_X0_heldAlong_35 : decode c_X0_heldAlong 35 = .ok (.lshl, 1) := by decide +kernel
theorem d_X0_heldAlong_36 : decode c_X0_heldAlong 36 = .ok (.lor, 1) := by decide +kernel
theorem d_X0_heldAlong_37 : decode c_X0_heldAlong 37 = .ok (.lstore 9, 2) := by decide +kernel
theorem d_X0_heldAlong_39 : decode c_X0_heldAlong 39 = .ok (.iinc 11 1, 3) := by decide +kernel
theorem d_X0_heldAlong_42 : decode c_X0_heldAlong 42 = .ok (.goto (-32), 3) := by decide +kernel
theorem d_X0_heldAlong_45 : decode c_X0_heldAlong 45 = .ok (.lload 7, 2) := by decide +kernel
theorem d_X0_heldAlong_47 : decode c_X0_heldAlong 47 = .ok (.lload 9, 2) := by decide +kernel
theorem d_X0_heldAlong_49 : decode c_X0_heldAlong 49 = .ok (.lor, 1) := by decide +kernel
theorem d_X0_heldAlong_50 : decode c_X0_heldAlong 50 = .ok (.lreturn, 1) := by decide +kernel
theorem d_JL_bitCount_0 : decode c_JL_bitCount 0 = .ok (.lload_n 0, 1) := by decide +kernel
theorem d_JL_bitCount_1 : decode c_JL_bitCount 1 = .ok (.lload_n 0, 1) := by decide +kernel
theorem d_JL_bitCount_2 : decode c_JL_bitCount 2 = .ok (.iconst 1, 1) := by decide +kernel
theorem d_JL_bitCount_3 : decode c_JL_bitCount 3 = .ok (.lushr, 1) := by decide +kernel
theorem d_JL_bitCount_4 : decode c_JL_bitCount 4 = .ok (.ldc2_w 314, 3) := by decide +kernel
theorem d_JL_bitCount_7 : decode c_JL_bitCount 7 = .ok (.land, 1) := by decide +kernel
theorem d_JL_bitCount_8 : decode c_JL_bitCount 8 = .ok (.lsub, 1) := by decide +kernel
theorem d_JL_bitCount_9 : decode c_JL_bitCount 9 = .ok (.lstore_n 0, 1) := by decide +kernel
theorem d_JL_bitCount_10 : decode c_JL_bitCount 10 = .ok (.lload_n 0, 1) := by decide +kernel
theorem d_JL_bitCount_11 : decode c_JL_bitCount 11 = .ok (.ldc2_w 316, 3) := by decide +kernel
theorem d_JL_bitCount_14 : decode c_JL_bitCount 14 = .ok (.land, 1) := by decide +kernel
theorem d_JL_bitCount_15 : decode c_JL_bitCount 15 = .ok (.lload_n 0, 1) := by decide +kernel
theorem d_JL_bitCount_16 : decode c_JL_bitCount 16 = .ok (.iconst 2, 1) := by decide +kernel
theorem d_JL_bitCount_17 : decode c_JL_bitCount 17 = .ok (.lushr, 1) := by decide +kernel
theorem d_JL_bitCount_18 : decode c_JL_bitCount 18 = .ok (.ldc2_w 316, 3) := by decide +kernel
theorem d_JL_bitCount_21 : decode c_JL_bitCount 21 = .ok (.land, 1) := by decide +kernel
theorem d_JL_bitCount_22 : decode c_JL_bitCount 22 = .ok (.ladd, 1) := by decide +kernel
theorem d_JL_bitCount_23 : decode c_JL_bitCount 23 = .ok (.lstore_n 0, 1) := by decide +kernel
theorem d_JL_bitCount_24 : decode c_JL_bitCount 24 = .ok (.lload_n 0, 1) := by decide +kernel
theorem d_JL_bitCount_25 : decode c_JL_bitCount 25 = .ok (.lload_n 0, 1) := by decide +kernel
theorem d_JL_bitCount_26 : decode c_JL_bitCount 26 = .ok (.iconst 4, 1) := by decide +kernel
theorem d_JL_bitCount_27 : decode c_JL_bitCount 27 = .ok (.lushr, 1) := by decide +kernel
theorem d_JL_bitCount_28 : decode c_JL_bitCount 28 = .ok (.ladd, 1) := by decide +kernel
theorem d_JL_bitCount_29 : decode c_JL_bitCount 29 = .ok (.ldc2_w 318, 3) := by decide +kernel
theorem d_JL_bitCount_32 : decode c_JL_bitCount 32 = .ok (.land, 1) := by decide +kernel
theorem d_JL_bitCount_33 : decode c_JL_bitCount 33 = .ok (.lstore_n 0, 1) := by decide +kernel
theorem d_JL_bitCount_34 : decode c_JL_bitCount 34 = .ok (.lload_n 0, 1) := by decide +kernel
theorem d_JL_bitCount_35 : decode c_JL_bitCount 35 = .ok (.lload_n 0, 1) := by decide +kernel
theorem d_JL_bitCount_36 : decode c_JL_bitCount 36 = .ok (.bipush 8, 2) := by decide +kernel
theorem d_JL_bitCount_38 : decode c_JL_bitCount 38 = .ok (.lushr, 1) := by decide +kernel
theorem d_JL_bitCount_39 : decode c_JL_bitCount 39 = .ok (.ladd, 1) := by decide +kernel
theorem d_JL_bitCount_40 : decode c_JL_bitCount 40 = .ok (.lstore_n 0, 1) := by decide +kernel
theorem d_JL_bitCount_41 : decode c_JL_bitCount 41 = .ok (.lload_n 0, 1) := by decide +kernel
theorem d_JL_bitCount_42 : decode c_JL_bitCount 42 = .ok (.lload_n 0, 1) := by decide +kernel
theorem d_JL_bitCount_43 : decode c_JL_bitCount 43 = .ok (.bipush 16, 2) := by decide +kernel
theorem d_JL_bitCount_45 : decode c_JL_bitCount 45 = .ok (.lushr, 1) := by decide +kernel
theorem d_JL_bitCount_46 : decode c_JL_bitCount 46 = .ok (.ladd, 1) := by decide +kernel
theorem d_JL_bitCount_47 : decode c_JL_bitCount 47 = .ok (.lstore_n 0, 1) := by decide +kernel
theorem d_JL_bitCount_48 : decode c_JL_bitCount 48 = .ok (.lload_n 0, 1) := by decide +kernel
theorem d_JL_bitCount_49 : decode c_JL_bitCount 49 = .ok (.lload_n 0, 1) := by decide +kernel
theorem d_JL_bitCount_50 : decode c_JL_bitCount 50 = .ok (.bipush 32, 2) := by decide +kernel
theorem d_JL_bitCount_52 : decode c_JL_bitCount 52 = .ok (.lushr, 1) := by decide +kernel
theorem d_JL_bitCount_53 : decode c_JL_bitCount 53 = .ok (.ladd, 1) := by decide +kernel
theorem d_JL_bitCount_54 : decode c_JL_bitCount 54 = .ok (.lstore_n 0, 1) := by decide +kernel
theorem d_JL_bitCount_55 : decode c_JL_bitCount 55 = .ok (.lload_n 0, 1) := by decide +kernel
theorem d_JL_bitCount_56 : decode c_JL_bitCount 56 = .ok (.l2i, 1) := by decide +kernel
theorem d_JL_bitCount_57 : decode c_JL_bitCount 57 = .ok (.bipush 127, 2) := by decide +kernel
theorem d_JL_bitCount_59 : decode c_JL_bitCount 59 = .ok (.iand, 1) := by decide +kernel
theorem d_JL_bitCount_60 : decode c_JL_bitCount 60 = .ok (.ireturn, 1) := by decide +kernel
theorem d_JM_max_0 : decode c_JM_max 0 = .ok (.iload_n 0, 1) := by decide +kernel
theorem d_JM_max_1 : decode c_JM_max 1 = .ok (.iload_n 1, 1) := by decide +kernel
theorem d_JM_max_2 : decode c_JM_max 2 = .ok (.if_icmp .lt 7, 3) := by decide +kernel
theorem d_JM_max_5 : decode c_JM_max 5 = .ok (.iload_n 0, 1) := by decide +kernel
theorem d_JM_max_6 : decode c_JM_max 6 = .ok (.goto 4, 3) := by decide +kernel
theorem d_JM_max_9 : decode c_JM_max 9 = .ok (.iload_n 1, 1) := by decide +kernel
theorem d_JM_max_10 : decode c_JM_max 10 = .ok (.ireturn, 1) := by decide +kernel
