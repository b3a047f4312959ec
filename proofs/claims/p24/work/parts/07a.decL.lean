theorem dL_at_0 : decode cL_at 0 = .ok (.iload_n 1, 1) := by decide +kernel
theorem dL_at_1 : decode cL_at 1 = .ok (.aload_n 0, 1) := by decide +kernel
theorem dL_at_2 : decode cL_at 2 = .ok (.arraylength, 1) := by decide +kernel
theorem dL_at_3 : decode cL_at 3 = .ok (.if_icmp .ge 9, 3) := by decide +kernel
theorem dL_at_6 : decode cL_at 6 = .ok (.aload_n 0, 1) := by decide +kernel
theorem dL_at_7 : decode cL_at 7 = .ok (.iload_n 1, 1) := by decide +kernel
theorem dL_at_8 : decode cL_at 8 = .ok (.iaload, 1) := by decide +kernel
theorem dL_at_9 : decode cL_at 9 = .ok (.goto 12, 3) := by decide +kernel
theorem dL_at_12 : decode cL_at 12 = .ok (.ldc 7, 2) := by decide +kernel
theorem dL_at_14 : decode cL_at 14 = .ok (.iload_n 1, 1) := by decide +kernel
theorem dL_at_15 : decode cL_at 15 = .ok (.iconst 1, 1) := by decide +kernel
theorem dL_at_16 : decode cL_at 16 = .ok (.iadd, 1) := by decide +kernel
theorem dL_at_17 : decode cL_at 17 = .ok (.imul, 1) := by decide +kernel
theorem dL_at_18 : decode cL_at 18 = .ok (.ldc 8, 2) := by decide +kernel
theorem dL_at_20 : decode cL_at 20 = .ok (.iadd, 1) := by decide +kernel
theorem dL_at_21 : decode cL_at 21 = .ok (.ireturn, 1) := by decide +kernel
theorem dL_low_0 : decode cL_low 0 = .ok (.iload_n 0, 1) := by decide +kernel
theorem dL_low_1 : decode cL_low 1 = .ok (.ldc 9, 2) := by decide +kernel
theorem dL_low_3 : decode cL_low 3 = .ok (.iand, 1) := by decide +kernel
theorem dL_low_4 : decode cL_low 4 = .ok (.iload_n 1, 1) := by decide +kernel
theorem dL_low_5 : decode cL_low 5 = .ok (.irem, 1) := by decide +kernel
theorem dL_low_6 : decode cL_low 6 = .ok (.ireturn, 1) := by decide +kernel
theorem dL_setDue_0 : decode cL_setDue 0 = .ok (.aload_n 0, 1) := by decide +kernel
theorem dL_setDue_1 : decode cL_setDue 1 = .ok (.iload_n 1, 1) := by decide +kernel
theorem dL_setDue_2 : decode cL_setDue 2 = .ok (.iload_n 2, 1) := by decide +kernel
theorem dL_setDue_3 : decode cL_setDue 3 = .ok (.iload_n 3, 1) := by decide +kernel
theorem dL_setDue_4 : decode cL_setDue 4 = .ok (.iload 4, 2) := by decide +kernel
theorem dL_setDue_6 : decode cL_setDue 6 = .ok (.iload 5, 2) := by decide +kernel
theorem dL_setDue_8 : decode cL_setDue 8 = .ok (.invokevirtual 10, 3) := by decide +kernel
theorem dL_setDue_11 : decode cL_setDue 11 = .ok (.iconst 0, 1) := by decide +kernel
theorem dL_setDue_12 : decode cL_setDue 12 = .ok (.ireturn, 1) := by decide +kernel
theorem dL_setDue_13 : decode cL_setDue 13 = .ok (.astore 6, 2) := by decide +kernel
theorem dL_setDue_15 : decode cL_setDue 15 = .ok (.ldc 18, 2) := by decide +kernel
theorem dL_setDue_17 : decode cL_setDue 17 = .ok (.ireturn, 1) := by decide +kernel
theorem dL_setDue_18 : decode cL_setDue 18 = .ok (.astore 6, 2) := by decide +kernel
theorem dL_setDue_20 : decode cL_setDue 20 = .ok (.ldc 21, 2) := by decide +kernel
theorem dL_setDue_22 : decode cL_setDue 22 = .ok (.ireturn, 1) := by decide +kernel
theorem dL_setOld_0 : decode cL_setOld 0 = .ok (.aload_n 0, 1) := by decide +kernel
theorem dL_setOld_1 : decode cL_setOld 1 = .ok (.iload_n 1, 1) := by decide +kernel
theorem dL_setOld_2 : decode cL_setOld 2 = .ok (.iload_n 2, 1) := by decide +kernel
theorem dL_setOld_3 : decode cL_setOld 3 = .ok (.iload_n 3, 1) := by decide +kernel
theorem dL_setOld_4 : decode cL_setOld 4 = .ok (.iload 4, 2) := by decide +kernel
theorem dL_setOld_6 : decode cL_setOld 6 = .ok (.iload 5, 2) := by decide +kernel
theorem dL_setOld_8 : decode cL_setOld 8 = .ok (.iload 6, 2) := by decide +kernel
theorem dL_setOld_10 : decode cL_setOld 10 = .ok (.invokevirtual 22, 3) := by decide +kernel
theorem dL_setOld_13 : decode cL_setOld 13 = .ok (.iconst 0, 1) := by decide +kernel
theorem dL_setOld_14 : decode cL_setOld 14 = .ok (.ireturn, 1) := by decide +kernel
theorem dL_setOld_15 : decode cL_setOld 15 = .ok (.astore 7, 2) := by decide +kernel
theorem dL_setOld_17 : decode cL_setOld 17 = .ok (.ldc 18, 2) := by decide +kernel
theorem dL_setOld_19 : decode cL_setOld 19 = .ok (.ireturn, 1) := by decide +kernel
theorem dL_setOld_20 : decode cL_setOld 20 = .ok (.astore 7, 2) := by decide +kernel
theorem dL_setOld_22 : decode cL_setOld 22 = .ok (.ldc 21, 2) := by decide +kernel
theorem dL_setOld_24 : decode cL_setOld 24 = .ok (.ireturn, 1) := by decide +kernel
theorem dL_give_0 : decode cL_give 0 = .ok (.aload_n 0, 1) := by decide +kernel
theorem dL_give_1 : decode cL_give 1 = .ok (.iload_n 1, 1) := by decide +kernel
theorem dL_give_2 : decode cL_give 2 = .ok (.iload_n 2, 1) := by decide +kernel
theorem dL_give_3 : decode cL_give 3 = .ok (.invokevirtual 26, 3) := by decide +kernel
theorem dL_give_6 : decode cL_give 6 = .ok (.ireturn, 1) := by decide +kernel
theorem dL_give_7 : decode cL_give 7 = .ok (.astore_n 3, 1) := by decide +kernel
theorem dL_give_8 : decode cL_give 8 = .ok (.ldc 18, 2) := by decide +kernel
theorem dL_give_10 : decode cL_give 10 = .ok (.ireturn, 1) := by decide +kernel
theorem dL_open_0 : decode cL_open 0 = .ok (.aload_n 0, 1) := by decide +kernel
theorem dL_open_1 : decode cL_open 1 = .ok (.iload_n 1, 1) := by decide +kernel
theorem dL_open_2 : decode cL_open 2 = .ok (.iload_n 2, 1) := by decide +kernel
theorem dL_open_3 : decode cL_open 3 = .ok (.invokevirtual 30, 3) := by decide +kernel
theorem dL_open_6 : decode cL_open 6 = .ok (.iconst 0, 1) := by decide +kernel
theorem dL_open_7 : decode cL_open 7 = .ok (.ireturn, 1) := by decide +kernel
theorem dL_open_8 : decode cL_open 8 = .ok (.astore_n 3, 1) := by decide +kernel
theorem dL_open_9 : decode cL_open 9 = .ok (.ldc 18, 2) := by decide +kernel
theorem dL_open_11 : decode cL_open 11 = .ok (.ireturn, 1) := by decide +kernel
theorem dL_shut_0 : decode cL_shut 0 = .ok (.aload_n 0, 1) := by decide +kernel
theorem dL_shut_1 : decode cL_shut 1 = .ok (.iload_n 1, 1) := by decide +kernel
theorem dL_shut_2 : decode cL_shut 2 = .ok (.invokevirtual 34, 3) := by decide +kernel
theorem dL_shut_5 : decode cL_shut 5 = .ok (.ifCond .eq 7, 3) := by decide +kernel
theorem dL_shut_8 : decode cL_shut 8 = .ok (.iconst 1, 1) := by decide +kernel
theorem dL_shut_9 : decode cL_shut 9 = .ok (.goto 4, 3) := by decide +kernel
theorem dL_shut_12 : decode cL_shut 12 = .ok (.iconst 0, 1) := by decide +kernel
theorem dL_shut_13 : decode cL_shut 13 = .ok (.ireturn, 1) := by decide +kernel
theorem dL_shut_14 : decode cL_shut 14 = .ok (.astore_n 2, 1) := by decide +kernel
theorem dL_shut_15 : decode cL_shut 15 = .ok (.ldc 18, 2) := by decide +kernel
theorem dL_shut_17 : decode cL_shut 17 = .ok (.ireturn, 1) := by decide +kernel
theorem dL_tell_0 : decode cL_tell 0 = .ok (.aload_n 0, 1) := by decide +kernel
theorem dL_tell_1 : decode cL_tell 1 = .ok (.iload_n 1, 1) := by decide +kernel
theorem dL_tell_2 : decode cL_tell 2 = .ok (.invokevirtual 38, 3) := by decide +kernel
theorem dL_tell_5 : decode cL_tell 5 = .ok (.ifCond .eq 7, 3) := by decide +kernel
theorem dL_tell_8 : decode cL_tell 8 = .ok (.iconst 1, 1) := by decide +kernel
theorem dL_tell_9 : decode cL_tell 9 = .ok (.goto 4, 3) := by decide +kernel
theorem dL_tell_12 : decode cL_tell 12 = .ok (.iconst 0, 1) := by decide +kernel
theorem dL_tell_13 : decode cL_tell 13 = .ok (.ireturn, 1) := by decide +kernel
theorem dL_tell_14 : decode cL_tell 14 = .ok (.astore_n 2, 1) := by decide +kernel
theorem dL_tell_15 : decode cL_tell 15 = .ok (.ldc 18, 2) := by decide +kernel
theorem dL_tell_17 : decode cL_tell 17 = .ok (.ireturn, 1) := by decide +kernel
theorem dL_tell_18 : decode cL_tell 18 = .ok (.astore_n 2, 1) := by decide +kernel
theorem dL_tell_19 : decode cL_tell 19 = .ok (.ldc 43, 2) := by decide +kernel
theorem dL_tell_21 : decode cL_tell 21 = .ok (.ireturn, 1) := by decide +kernel
theorem dL_write_0 : decode cL_write 0 = .ok (.aload_n 0, 1) := by decide +kernel
theorem dL_write_1 : decode cL_write 1 = .ok (.iload_n 1, 1) := by decide +kernel
theorem dL_write_2 : decode cL_write 2 = .ok (.iload_n 2, 1) := by decide +kernel
theorem dL_write_3 : decode cL_write 3 = .ok (.invokevirtual 44, 3) := by decide +kernel
theorem dL_write_6 : decode cL_write 6 = .ok (.ireturn, 1) := by decide +kernel
theorem dL_write_7 : decode cL_write 7 = .ok (.astore_n 3, 1) := by decide +kernel
theorem dL_write_8 : decode cL_write 8 = .ok (.ldc 18, 2) := by decide +kernel
theorem dL_write_10 : decode cL_write 10 = .ok (.ireturn, 1) := by decide +kernel
theorem dL_write_11 : decode cL_write 11 = .ok (.astore_n 3, 1) := by decide +kernel
theorem dL_write_12 : decode cL_write 12 = .ok (.ldc 21, 2) := by decide +kernel
theorem dL_write_14 : decode cL_write 14 = .ok (.ireturn, 1) := by decide +kernel
theorem dL_write_15 : decode cL_write 15 = .ok (.astore_n 3, 1) := by decide +kernel
theorem dL_write_16 : decode cL_write 16 = .ok (.ldc 43, 2) := by decide +kernel
theorem dL_write_18 : decode cL_write 18 = .ok (.ireturn, 1) := by decide +kernel
theorem dL_advance_0 : decode cL_advance 0 = .ok (.aload_n 0, 1) := by decide +kernel
theorem dL_advance_1 : decode cL_advance 1 = .ok (.iload_n 1, 1) := by decide +kernel
theorem dL_advance_2 : decode cL_advance 2 = .ok (.invokevirtual 47, 3) := by decide +kernel
theorem dL_advance_5 : decode cL_advance 5 = .ok (.ireturn, 1) := by decide +kernel
theorem dL_advance_6 : decode cL_advance 6 = .ok (.astore_n 2, 1) := by decide +kernel
theorem dL_advance_7 : decode cL_advance 7 = .ok (.ldc 21, 2) := by decide +kernel
theorem dL_advance_9 : decode cL_advance 9 = .ok (.ireturn, 1) := by decide +kernel
theorem dL_advance_10 : decode cL_advance 10 = .ok (.astore_n 2, 1) := by decide +kernel
theorem dL_advance_11 : decode cL_advance 11 = .ok (.ldc 43, 2) := by decide +kernel
theorem dL_advance_13 : decode cL_advance 13 = .ok (.ireturn, 1) := by decide +kernel
theorem dL_turn_0 : decode cL_turn 0 = .ok (.aload_n 0, 1) := by decide +kernel
theorem dL_turn_1 : decode cL_turn 1 = .ok (.iload_n 1, 1) := by decide +kernel
theorem dL_turn_2 : decode cL_turn 2 = .ok (.invokevirtual 51, 3) := by decide +kernel
theorem dL_turn_5 : decode cL_turn 5 = .ok (.ireturn, 1) := by decide +kernel
theorem dL_turn_6 : decode cL_turn 6 = .ok (.astore_n 2, 1) := by decide +kernel
theorem dL_turn_7 : decode cL_turn 7 = .ok (.ldc 18, 2) := by decide +kernel
theorem dL_turn_9 : decode cL_turn 9 = .ok (.ireturn, 1) := by decide +kernel
theorem dL_lose_0 : decode cL_lose 0 = .ok (.aload_n 0, 1) := by decide +kernel
theorem dL_lose_1 : decode cL_lose 1 = .ok (.iload_n 1, 1) := by decide +kernel
theorem dL_lose_2 : decode cL_lose 2 = .ok (.invokevirtual 54, 3) := by decide +kernel
theorem dL_lose_5 : decode cL_lose 5 = .ok (.ireturn, 1) := by decide +kernel
theorem dL_lose_6 : decode cL_lose 6 = .ok (.astore_n 2, 1) := by decide +kernel
theorem dL_lose_7 : decode cL_lose 7 = .ok (.ldc 18, 2) := by decide +kernel
theorem dL_lose_9 : decode cL_lose 9 = .ok (.ireturn, 1) := by decide +kernel
theorem dL_isDue_0 : decode cL_isDue 0 = .ok (.aload_n 0, 1) := by decide +kernel
theorem dL_isDue_1 : decode cL_isDue 1 = .ok (.iload_n 1, 1) := by decide +kernel
theorem dL_isDue_2 : decode cL_isDue 2 = .ok (.invokevirtual 57, 3) := by decide +kernel
theorem dL_isDue_5 : decode cL_isDue 5 = .ok (.ifCond .eq 7, 3) := by decide +kernel
theorem dL_isDue_8 : decode cL_isDue 8 = .ok (.iconst 1, 1) := by decide +kernel
theorem dL_isDue_9 : decode cL_isDue 9 = .ok (.goto 4, 3) := by decide +kernel
theorem dL_isDue_12 : decode cL_isDue 12 = .ok (.iconst 0, 1) := by decide +kernel
theorem dL_isDue_13 : decode cL_isDue 13 = .ok (.ireturn, 1) := by decide +kernel
theorem dL_isDue_14 : decode cL_isDue 14 = .ok (.astore_n 2, 1) := by decide +kernel
theorem dL_isDue_15 : decode cL_isDue 15 = .ok (.ldc 18, 2) := by decide +kernel
theorem dL_isDue_17 : decode cL_isDue 17 = .ok (.ireturn, 1) := by decide +kernel
theorem dL_nextDue_0 : decode cL_nextDue 0 = .ok (.aload_n 0, 1) := by decide +kernel
theorem dL_nextDue_1 : decode cL_nextDue 1 = .ok (.iload_n 1, 1) := by decide +kernel
theorem dL_nextDue_2 : decode cL_nextDue 2 = .ok (.invokevirtual 60, 3) := by decide +kernel
theorem dL_nextDue_5 : decode cL_nextDue 5 = .ok (.ireturn, 1) := by decide +kernel
theorem dL_nextDue_6 : decode cL_nextDue 6 = .ok (.astore_n 2, 1) := by decide +kernel
theorem dL_nextDue_7 : decode cL_nextDue 7 = .ok (.ldc 18, 2) := by decide +kernel
theorem dL_nextDue_9 : decode cL_nextDue 9 = .ok (.ireturn, 1) := by decide +kernel
theorem dL_live_0 : decode cL_live 0 = .ok (.aload_n 0, 1) := by decide +kernel
theorem dL_live_1 : decode cL_live 1 = .ok (.iload_n 1, 1) := by decide +kernel
theorem dL_live_2 : decode cL_live 2 = .ok (.invokevirtual 63, 3) := by decide +kernel
theorem dL_live_5 : decode cL_live 5 = .ok (.ireturn, 1) := by decide +kernel
theorem dL_live_6 : decode cL_live 6 = .ok (.astore_n 2, 1) := by decide +kernel
theorem dL_live_7 : decode cL_live 7 = .ok (.ldc 18, 2) := by decide +kernel
theorem dL_live_9 : decode cL_live 9 = .ok (.ireturn, 1) := by decide +kernel
theorem dL_olds_0 : decode cL_olds 0 = .ok (.aload_n 0, 1) := by decide +kernel
theorem dL_olds_1 : decode cL_olds 1 = .ok (.iload_n 1, 1) := by decide +kernel
theorem dL_olds_2 : decode cL_olds 2 = .ok (.invokevirtual 66, 3) := by decide +kernel
theorem dL_olds_5 : decode cL_olds 5 = .ok (.ireturn, 1) := by decide +kernel
theorem dL_olds_6 : decode cL_olds 6 = .ok (.astore_n 2, 1) := by decide +kernel
theorem dL_olds_7 : decode cL_olds 7 = .ok (.ldc 18, 2) := by decide +kernel
theorem dL_olds_9 : decode cL_olds 9 = .ok (.ireturn, 1) := by decide +kernel
theorem dL_lines_0 : decode cL_lines 0 = .ok (.aload_n 0, 1) := by decide +kernel
theorem dL_lines_1 : decode cL_lines 1 = .ok (.iload_n 1, 1) := by decide +kernel
theorem dL_lines_2 : decode cL_lines 2 = .ok (.iload_n 2, 1) := by decide +kernel
theorem dL_lines_3 : decode cL_lines 3 = .ok (.invokevirtual 69, 3) := by decide +kernel
theorem dL_lines_6 : decode cL_lines 6 = .ok (.ireturn, 1) := by decide +kernel
theorem dL_lines_7 : decode cL_lines 7 = .ok (.astore_n 3, 1) := by decide +kernel
theorem dL_lines_8 : decode cL_lines 8 = .ok (.ldc 18, 2) := by decide +kernel
theorem dL_lines_10 : decode cL_lines 10 = .ok (.ireturn, 1) := by decide +kernel
theorem dL_name_0 : decode cL_name 0 = .ok (.aload_n 0, 1) := by decide +kernel
theorem dL_name_1 : decode cL_name 1 = .ok (.iload_n 1, 1) := by decide +kernel
theorem dL_name_2 : decode cL_name 2 = .ok (.iload_n 2, 1) := by decide +kernel
theorem dL_name_3 : decode cL_name 3 = .ok (.invokevirtual 72, 3) := by decide +kernel
theorem dL_name_6 : decode cL_name 6 = .ok (.ireturn, 1) := by decide +kernel
theorem dL_name_7 : decode cL_name 7 = .ok (.astore_n 3, 1) := by decide +kernel
theorem dL_name_8 : decode cL_name 8 = .ok (.ldc 18, 2) := by decide +kernel
theorem dL_name_10 : decode cL_name 10 = .ok (.ireturn, 1) := by decide +kernel
theorem dL_isSqueezed_0 : decode cL_isSqueezed 0 = .ok (.aload_n 0, 1) := by decide +kernel
theorem dL_isSqueezed_1 : decode cL_isSqueezed 1 = .ok (.iload_n 1, 1) := by decide +kernel
theorem dL_isSqueezed_2 : decode cL_isSqueezed 2 = .ok (.iload_n 2, 1) := by decide +kernel
theorem dL_isSqueezed_3 : decode cL_isSqueezed 3 = .ok (.invokevirtual 75, 3) := by decide +kernel
theorem dL_isSqueezed_6 : decode cL_isSqueezed 6 = .ok (.ifCond .eq 7, 3) := by decide +kernel
theorem dL_isSqueezed_9 : decode cL_isSqueezed 9 = .ok (.iconst 1, 1) := by decide +kernel
theorem dL_isSqueezed_10 : decode cL_isSqueezed 10 = .ok (.goto 4, 3) := by decide +kernel
theorem dL_isSqueezed_13 : decode cL_isSqueezed 13 = .ok (.iconst 0, 1) := by decide +kernel
theorem dL_isSqueezed_14 : decode cL_isSqueezed 14 = .ok (.ireturn, 1) := by decide +kernel
theorem dL_isSqueezed_15 : decode cL_isSqueezed 15 = .ok (.astore_n 3, 1) := by decide +kernel
theorem dL_isSqueezed_16 : decode cL_isSqueezed 16 = .ok (.ldc 18, 2) := by decide +kernel
theorem dL_isSqueezed_18 : decode cL_isSqueezed 18 = .ok (.ireturn, 1) := by decide +kernel
theorem dL_thrown_0 : decode cL_thrown 0 = .ok (.aload_n 0, 1) := by decide +kernel
theorem dL_thrown_1 : decode cL_thrown 1 = .ok (.iload_n 1, 1) := by decide +kernel
theorem dL_thrown_2 : decode cL_thrown 2 = .ok (.invokevirtual 79, 3) := by decide +kernel
theorem dL_thrown_5 : decode cL_thrown 5 = .ok (.ireturn, 1) := by decide +kernel
theorem dL_thrown_6 : decode cL_thrown 6 = .ok (.astore_n 2, 1) := by decide +kernel
theorem dL_thrown_7 : decode cL_thrown 7 = .ok (.ldc 18, 2) := by decide +kernel
theorem dL_thrown_9 : decode cL_thrown 9 = .ok (.ireturn, 1) := by decide +kernel
theorem dL_holds_0 : decode cL_holds 0 = .ok (.aload_n 0, 1) := by decide +kernel
theorem dL_holds_1 : decode cL_holds 1 = .ok (.iload_n 1, 1) := by decide +kernel
theorem dL_holds_2 : decode cL_holds 2 = .ok (.invokevirtual 82, 3) := by decide +kernel
theorem dL_holds_5 : decode cL_holds 5 = .ok (.ireturn, 1) := by decide +kernel
theorem dL_holds_6 : decode cL_holds 6 = .ok (.astore_n 2, 1) := by decide +kernel
theorem dL_holds_7 : decode cL_holds 7 = .ok (.ldc 18, 2) := by decide +kernel
theorem dL_holds_9 : decode cL_holds 9 = .ok (.ireturn, 1) := by decide +kernel
theorem dL_isHeld_0 : decode cL_isHeld 0 = .ok (.iconst 0, 1) := by decide +kernel
theorem dL_isHeld_1 : decode cL_isHeld 1 = .ok (.istore_n 3, 1) := by decide +kernel
theorem dL_isHeld_2 : decode cL_isHeld 2 = .ok (.iconst 0, 1) := by decide +kernel
theorem dL_isHeld_3 : decode cL_isHeld 3 = .ok (.istore 4, 2) := by decide +kernel
theorem dL_isHeld_5 : decode cL_isHeld 5 = .ok (.iload 4, 2) := by decide +kernel
theorem dL_isHeld_7 : decode cL_isHeld 7 = .ok (.iconst 4, 1) := by decide +kernel
theorem dL_isHeld_8 : decode cL_isHeld 8 = .ok (.if_icmp .ge 36, 3) := by decide +kernel
theorem dL_isHeld_11 : decode cL_isHeld 11 = .ok (.iload_n 3, 1) := by decide +kernel
theorem dL_isHeld_12 : decode cL_isHeld 12 = .ok (.ifCond .ne 20, 3) := by decide +kernel
theorem dL_isHeld_15 : decode cL_isHeld 15 = .ok (.aload_n 0, 1) := by decide +kernel
theorem dL_isHeld_16 : decode cL_isHeld 16 = .ok (.iload 4, 2) := by decide +kernel
theorem dL_isHeld_18 : decode cL_isHeld 18 = .ok (.invokestatic 85, 3) := by decide +kernel
theorem dL_isHeld_21 : decode cL_isHeld 21 = .ok (.bipush 100, 2) := by decide +kernel
theorem dL_isHeld_23 : decode cL_isHeld 23 = .ok (.iload_n 1, 1) := by decide +kernel
theorem dL_isHeld_24 : decode cL_isHeld 24 = .ok (.imul, 1) := by decide +kernel
theorem dL_isHeld_25 : decode cL_isHeld 25 = .ok (.iconst 1, 1) := by decide +kernel
theorem dL_isHeld_26 : decode cL_isHeld 26 = .ok (.iadd, 1) := by decide +kernel
theorem dL_isHeld_27 : decode cL_isHeld 27 = .ok (.iload_n 2, 1) := by decide +kernel
theorem dL_isHeld_28 : decode cL_isHeld 28 = .ok (.iadd, 1) := by decide +kernel
theorem dL_isHeld_29 : decode cL_isHeld 29 = .ok (.if_icmp .ne 7, 3) := by decide +kernel
theorem dL_isHeld_32 : decode cL_isHeld 32 = .ok (.iconst 1, 1) := by decide +kernel
theorem dL_isHeld_33 : decode cL_isHeld 33 = .ok (.goto 4, 3) := by decide +kernel
theorem dL_isHeld_36 : decode cL_isHeld 36 = .ok (.iconst 0, 1) := by decide +kernel
theorem dL_isHeld_37 : decode cL_isHeld 37 = .ok (.istore_n 3, 1) := by decide +kernel
theorem dL_isHeld_38 : decode cL_isHeld 38 = .ok (.iinc 4 1, 3) := by decide +kernel
theorem dL_isHeld_41 : decode cL_isHeld 41 = .ok (.goto (-36), 3) := by decide +kernel
theorem dL_isHeld_44 : decode cL_isHeld 44 = .ok (.iload_n 3, 1) := by decide +kernel
theorem dL_isHeld_45 : decode cL_isHeld 45 = .ok (.ireturn, 1) := by decide +kernel
theorem dL_due_0 : decode cL_due 0 = .ok (.bipush 9, 2) := by decide +kernel
theorem dL_due_2 : decode cL_due 2 = .ok (.aload_n 2, 1) := by decide +kernel
theorem dL_due_3 : decode cL_due 3 = .ok (.iconst 4, 1) := by decide +kernel
theorem dL_due_4 : decode cL_due 4 = .ok (.iload_n 3, 1) := by decide +kernel
theorem dL_due_5 : decode cL_due 5 = .ok (.imul, 1) := by decide +kernel
theorem dL_due_6 : decode cL_due 6 = .ok (.iaload, 1) := by decide +kernel
theorem dL_due_7 : decode cL_due 7 = .ok (.imul, 1) := by decide +kernel
theorem dL_due_8 : decode cL_due 8 = .ok (.istore 5, 2) := by decide +kernel
theorem dL_due_10 : decode cL_due 10 = .ok (.aload_n 1, 1) := by decide +kernel
theorem dL_due_11 : decode cL_due 11 = .ok (.iload 5, 2) := by decide +kernel
theorem dL_due_13 : decode cL_due 13 = .ok (.iaload, 1) := by decide +kernel
theorem dL_due_14 : decode cL_due 14 = .ok (.ifCond .le 19, 3) := by decide +kernel
theorem dL_due_17 : decode cL_due 17 = .ok (.aload_n 0, 1) := by decide +kernel
theorem dL_due_18 : decode cL_due 18 = .ok (.iload_n 3, 1) := by decide +kernel
theorem dL_due_19 : decode cL_due 19 = .ok (.invokestatic 90, 3) := by decide +kernel
theorem dL_due_22 : decode cL_due 22 = .ok (.aload_n 1, 1) := by decide +kernel
theorem dL_due_23 : decode cL_due 23 = .ok (.iload 5, 2) := by decide +kernel
theorem dL_due_25 : decode cL_due 25 = .ok (.iaload, 1) := by decide +kernel
theorem dL_due_26 : decode cL_due 26 = .ok (.if_icmp .lt 7, 3) := by decide +kernel
theorem dL_due_29 : decode cL_due 29 = .ok (.iconst 1, 1) := by decide +kernel
theorem dL_due_30 : decode cL_due 30 = .ok (.goto 4, 3) := by decide +kernel
theorem dL_due_33 : decode cL_due 33 = .ok (.iconst 0, 1) := by decide +kernel
theorem dL_due_34 : decode cL_due 34 = .ok (.istore 6, 2) := by decide +kernel
theorem dL_due_36 : decode cL_due 36 = .ok (.aload_n 2, 1) := by decide +kernel
theorem dL_due_37 : decode cL_due 37 = .ok (.iconst 4, 1) := by decide +kernel
theorem dL_due_38 : decode cL_due 38 = .ok (.iload_n 3, 1) := by decide +kernel
theorem dL_due_39 : decode cL_due 39 = .ok (.imul, 1) := by decide +kernel
theorem dL_due_40 : decode cL_due 40 = .ok (.iconst 1, 1) := by decide +kernel
theorem dL_due_41 : decode cL_due 41 = .ok (.iadd, 1) := by decide +kernel
theorem dL_due_42 : decode cL_due 42 = .ok (.iaload, 1) := by decide +kernel
theorem dL_due_43 : decode cL_due 43 = .ok (.iconst 1, 1) := by decide +kernel
theorem dL_due_44 : decode cL_due 44 = .ok (.iadd, 1) := by decide +kernel
theorem dL_due_45 : decode cL_due 45 = .ok (.istore 7, 2) := by decide +kernel
theorem dL_due_47 : decode cL_due 47 = .ok (.iload 7, 2) := by decide +kernel
theorem dL_due_49 : decode cL_due 49 = .ok (.iload 4, 2) := by decide +kernel
theorem dL_due_51 : decode cL_due 51 = .ok (.if_icmp .gt 64, 3) := by decide +kernel
theorem dL_due_54 : decode cL_due 54 = .ok (.iload 7, 2) := by decide +kernel
theorem dL_due_56 : decode cL_due 56 = .ok (.aload_n 2, 1) := by decide +kernel
theorem dL_due_57 : decode cL_due 57 = .ok (.iconst 4, 1) := by decide +kernel
theorem dL_due_58 : decode cL_due 58 = .ok (.iload_n 3, 1) := by decide +kernel
theorem dL_due_59 : decode cL_due 59 = .ok (.imul, 1) := by decide +kernel
theorem dL_due_60 : decode cL_due 60 = .ok (.iconst 1, 1) := by decide +kernel
theorem dL_due_61 : decode cL_due 61 = .ok (.iadd, 1) := by decide +kernel
theorem dL_due_62 : decode cL_due 62 = .ok (.iaload, 1) := by decide +kernel
theorem dL_due_63 : decode cL_due 63 = .ok (.bipush 31, 2) := by decide +kernel
theorem dL_due_65 : decode cL_due 65 = .ok (.iadd, 1) := by decide +kernel
theorem dL_due_66 : decode cL_due 66 = .ok (.if_icmp .ge 49, 3) := by decide +kernel
theorem dL_due_69 : decode cL_due 69 = .ok (.iload 6, 2) := by decide +kernel
theorem dL_due_71 : decode cL_due 71 = .ok (.ifCond .ne 31, 3) := by decide +kernel
theorem dL_due_74 : decode cL_due 74 = .ok (.iload 7, 2) := by decide +kernel
theorem dL_due_76 : decode cL_due 76 = .ok (.bipush 7, 2) := by decide +kernel
theorem dL_due_78 : decode cL_due 78 = .ok (.irem, 1) := by decide +kernel
theorem dL_due_79 : decode cL_due 79 = .ok (.aload_n 1, 1) := by decide +kernel
theorem dL_due_80 : decode cL_due 80 = .ok (.iload 5, 2) := by decide +kernel
theorem dL_due_82 : decode cL_due 82 = .ok (.iconst 1, 1) := by decide +kernel
theorem dL_due_83 : decode cL_due 83 = .ok (.iadd, 1) := by decide +kernel
theorem dL_due_84 : decode cL_due 84 = .ok (.iaload, 1) := by decide +kernel
theorem dL_due_85 : decode cL_due 85 = .ok (.if_icmp .eq 17, 3) := by decide +kernel
theorem dL_due_88 : decode cL_due 88 = .ok (.iload 7, 2) := by decide +kernel
theorem dL_due_90 : decode cL_due 90 = .ok (.bipush 30, 2) := by decide +kernel
theorem dL_due_92 : decode cL_due 92 = .ok (.irem, 1) := by decide +kernel
theorem dL_due_93 : decode cL_due 93 = .ok (.aload_n 1, 1) := by decide +kernel
theorem dL_due_94 : decode cL_due 94 = .ok (.iload 5, 2) := by decide +kernel
theorem dL_due_96 : decode cL_due 96 = .ok (.iconst 2, 1) := by decide +kernel
theorem dL_due_97 : decode cL_due 97 = .ok (.iadd, 1) := by decide +kernel
theorem dL_due_98 : decode cL_due 98 = .ok (.iaload, 1) := by decide +kernel
theorem dL_due_99 : decode cL_due 99 = .ok (.if_icmp .ne 7, 3) := by decide +kernel
theorem dL_due_102 : decode cL_due 102 = .ok (.iconst 1, 1) := by decide +kernel
theorem dL_due_103 : decode cL_due 103 = .ok (.goto 4, 3) := by decide +kernel
theorem dL_due_106 : decode cL_due 106 = .ok (.iconst 0, 1) := by decide +kernel
theorem dL_due_107 : decode cL_due 107 = .ok (.istore 6, 2) := by decide +kernel
theorem dL_due_109 : decode cL_due 109 = .ok (.iinc 7 1, 3) := by decide +kernel
theorem dL_due_112 : decode cL_due 112 = .ok (.goto (-65), 3) := by decide +kernel
theorem dL_due_115 : decode cL_due 115 = .ok (.aload_n 0, 1) := by decide +kernel
theorem dL_due_116 : decode cL_due 116 = .ok (.iload_n 3, 1) := by decide +kernel
theorem dL_due_117 : decode cL_due 117 = .ok (.invokestatic 90, 3) := by decide +kernel
theorem dL_due_120 : decode cL_due 120 = .ok (.ifCond .le 41, 3) := by decide +kernel
theorem dL_due_123 : decode cL_due 123 = .ok (.aload_n 2, 1) := by decide +kernel
theorem dL_due_124 : decode cL_due 124 = .ok (.iconst 4, 1) := by decide +kernel
theorem dL_due_125 : decode cL_due 125 = .ok (.iload_n 3, 1) := by decide +kernel
theorem dL_due_126 : decode cL_due 126 = .ok (.imul, 1) := by decide +kernel
theorem dL_due_127 : decode cL_due 127 = .ok (.iconst 2, 1) := by decide +kernel
theorem dL_due_128 : decode cL_due 128 = .ok (.iadd, 1) := by decide +kernel
theorem dL_due_129 : decode cL_due 129 = .ok (.iaload, 1) := by decide +kernel
theorem dL_due_130 : decode cL_due 130 = .ok (.ifCond .eq 22, 3) := by decide +kernel
theorem dL_due_133 : decode cL_due 133 = .ok (.iload 4, 2) := by decide +kernel
theorem dL_due_135 : decode cL_due 135 = .ok (.aload_n 2, 1) := by decide +kernel
theorem dL_due_136 : decode cL_due 136 = .ok (.iconst 4, 1) := by decide +kernel
theorem dL_due_137 : decode cL_due 137 = .ok (.iload_n 3, 1) := by decide +kernel
theorem dL_due_138 : decode cL_due 138 = .ok (.imul, 1) := by decide +kernel
theorem dL_due_139 : decode cL_due 139 = .ok (.iconst 1, 1) := by decide +kernel
theorem dL_due_140 : decode cL_due 140 = .ok (.iadd, 1) := by decide +kernel
theorem dL_due_141 : decode cL_due 141 = .ok (.iaload, 1) := by decide +kernel
theorem dL_due_142 : decode cL_due 142 = .ok (.isub, 1) := by decide +kernel
theorem dL_due_143 : decode cL_due 143 = .ok (.aload_n 1, 1) := by decide +kernel
theorem dL_due_144 : decode cL_due 144 = .ok (.iload 5, 2) := by decide +kernel
theorem dL_due_146 : decode cL_due 146 = .ok (.iconst 3, 1) := by decide +kernel
theorem dL_due_147 : decode cL_due 147 = .ok (.iadd, 1) := by decide +kernel
theorem dL_due_148 : decode cL_due 148 = .ok (.iaload, 1) := by decide +kernel
theorem dL_due_149 : decode cL_due 149 = .ok (.if_icmp .lt 12, 3) := by decide +kernel
theorem dL_due_152 : decode cL_due 152 = .ok (.iload 6, 2) := by decide +kernel
theorem dL_due_154 : decode cL_due 154 = .ok (.ifCond .eq 7, 3) := by decide +kernel
theorem dL_due_157 : decode cL_due 157 = .ok (.iconst 1, 1) := by decide +kernel
theorem dL_due_158 : decode cL_due 158 = .ok (.goto 4, 3) := by decide +kernel
theorem dL_due_161 : decode cL_due 161 = .ok (.iconst 0, 1) := by decide +kernel
theorem dL_due_162 : decode cL_due 162 = .ok (.ireturn, 1) := by decide +kernel
theorem dL_file_0 : decode cL_file 0 = .ok (.bipush 9, 2) := by decide +kernel
theorem dL_file_2 : decode cL_file 2 = .ok (.aload_n 2, 1) := by decide +kernel
theorem dL_file_3 : decode cL_file 3 = .ok (.iconst 4, 1) := by decide +kernel
theorem dL_file_4 : decode cL_file 4 = .ok (.iload 4, 2) := by decide +kernel
theorem dL_file_6 : decode cL_file 6 = .ok (.imul, 1) := by decide +kernel
theorem dL_file_7 : decode cL_file 7 = .ok (.iaload, 1) := by decide +kernel
theorem dL_file_8 : decode cL_file 8 = .ok (.imul, 1) := by decide +kernel
theorem dL_file_9 : decode cL_file 9 = .ok (.istore 5, 2) := by decide +kernel
theorem dL_file_11 : decode cL_file 11 = .ok (.aload_n 0, 1) := by decide +kernel
theorem dL_file_12 : decode cL_file 12 = .ok (.iload 4, 2) := by decide +kernel
theorem dL_file_14 : decode cL_file 14 = .ok (.invokestatic 92, 3) := by decide +kernel
theorem dL_file_17 : decode cL_file 17 = .ok (.istore 6, 2) := by decide +kernel
theorem dL_file_19 : decode cL_file 19 = .ok (.aload_n 0, 1) := by decide +kernel
theorem dL_file_20 : decode cL_file 20 = .ok (.iload 4, 2) := by decide +kernel
theorem dL_file_22 : decode cL_file 22 = .ok (.invokestatic 90, 3) := by decide +kernel
theorem dL_file_25 : decode cL_file 25 = .ok (.aload_n 0, 1) := by decide +kernel
theorem dL_file_26 : decode cL_file 26 = .ok (.iload 4, 2) := by decide +kernel
theorem dL_file_28 : decode cL_file 28 = .ok (.invokestatic 94, 3) := by decide +kernel
theorem dL_file_31 : decode cL_file 31 = .ok (.iadd, 1) := by decide +kernel
theorem dL_file_32 : decode cL_file 32 = .ok (.istore 7, 2) := by decide +kernel
theorem dL_file_34 : decode cL_file 34 = .ok (.iconst (-1), 1) := by decide +kernel
theorem dL_file_35 : decode cL_file 35 = .ok (.istore 8, 2) := by decide +kernel
theorem dL_file_37 : decode cL_file 37 = .ok (.iconst 0, 1) := by decide +kernel
theorem dL_file_38 : decode cL_file 38 = .ok (.istore 9, 2) := by decide +kernel
theorem dL_file_40 : decode cL_file 40 = .ok (.iload 9, 2) := by decide +kernel
theorem dL_file_42 : decode cL_file 42 = .ok (.iload 6, 2) := by decide +kernel
theorem dL_file_44 : decode cL_file 44 = .ok (.if_icmp .ge 133, 3) := by decide +kernel
theorem dL_file_47 : decode cL_file 47 = .ok (.aload_n 0, 1) := by decide +kernel
theorem dL_file_48 : decode cL_file 48 = .ok (.iload 4, 2) := by decide +kernel
theorem dL_file_50 : decode cL_file 50 = .ok (.iload 9, 2) := by decide +kernel
theorem dL_file_52 : decode cL_file 52 = .ok (.invokestatic 96, 3) := by decide +kernel
theorem dL_file_55 : decode cL_file 55 = .ok (.istore 10, 2) := by decide +kernel
theorem dL_file_57 : decode cL_file 57 = .ok (.iload 7, 2) := by decide +kernel
theorem dL_file_59 : decode cL_file 59 = .ok (.aload_n 0, 1) := by decide +kernel
theorem dL_file_60 : decode cL_file 60 = .ok (.iload 4, 2) := by decide +kernel
theorem dL_file_62 : decode cL_file 62 = .ok (.iload 9, 2) := by decide +kernel
theorem dL_file_64 : decode cL_file 64 = .ok (.invokestatic 99, 3) := by decide +kernel
theorem dL_file_67 : decode cL_file 67 = .ok (.iadd, 1) := by decide +kernel
theorem dL_file_68 : decode cL_file 68 = .ok (.istore 7, 2) := by decide +kernel
theorem dL_file_70 : decode cL_file 70 = .ok (.aload_n 0, 1) := by decide +kernel
theorem dL_file_71 : decode cL_file 71 = .ok (.iload 4, 2) := by decide +kernel
theorem dL_file_73 : decode cL_file 73 = .ok (.iload 9, 2) := by decide +kernel
theorem dL_file_75 : decode cL_file 75 = .ok (.invokestatic 99, 3) := by decide +kernel
theorem dL_file_78 : decode cL_file 78 = .ok (.ifCond .lt 56, 3) := by decide +kernel
theorem dL_file_81 : decode cL_file 81 = .ok (.aload_n 1, 1) := by decide +kernel
theorem dL_file_82 : decode cL_file 82 = .ok (.iload 5, 2) := by decide +kernel
theorem dL_file_84 : decode cL_file 84 = .ok (.bipush 7, 2) := by decide +kernel
theorem dL_file_86 : decode cL_file 86 = .ok (.iadd, 1) := by decide +kernel
theorem dL_file_87 : decode cL_file 87 = .ok (.iaload, 1) := by decide +kernel
theorem dL_file_88 : decode cL_file 88 = .ok (.ifCond .ne 16, 3) := by decide +kernel
theorem dL_file_91 : decode cL_file 91 = .ok (.iload 10, 2) := by decide +kernel
theorem dL_file_93 : decode cL_file 93 = .ok (.iload 6, 2) := by decide +kernel
theorem dL_file_95 : decode cL_file 95 = .ok (.iload 9, 2) := by decide +kernel
theorem dL_file_97 : decode cL_file 97 = .ok (.isub, 1) := by decide +kernel
theorem dL_file_98 : decode cL_file 98 = .ok (.if_icmp .eq 25, 3) := by decide +kernel
theorem dL_file_101 : decode cL_file 101 = .ok (.goto 33, 3) := by decide +kernel
theorem dL_file_104 : decode cL_file 104 = .ok (.iload 10, 2) := by decide +kernel
theorem dL_file_106 : decode cL_file 106 = .ok (.iload 8, 2) := by decide +kernel
theorem dL_file_108 : decode cL_file 108 = .ok (.if_icmp .le 26, 3) := by decide +kernel
theorem dL_file_111 : decode cL_file 111 = .ok (.iload 10, 2) := by decide +kernel
theorem dL_file_113 : decode cL_file 113 = .ok (.sipush 1000, 3) := by decide +kernel
theorem dL_file_116 : decode cL_file 116 = .ok (.idiv, 1) := by decide +kernel
theorem dL_file_117 : decode cL_file 117 = .ok (.aload_n 3, 1) := by decide +kernel
theorem dL_file_118 : decode cL_file 118 = .ok (.iconst 0, 1) := by decide +kernel
theorem dL_file_119 : decode cL_file 119 = .ok (.iaload, 1) := by decide +kernel
theorem dL_file_120 : decode cL_file 120 = .ok (.if_icmp .gt 14, 3) := by decide +kernel
theorem dL_file_123 : decode cL_file 123 = .ok (.aload_n 0, 1) := by decide +kernel
theorem dL_file_124 : decode cL_file 124 = .ok (.iload 4, 2) := by decide +kernel
theorem dL_file_126 : decode cL_file 126 = .ok (.iload 9, 2) := by decide +kernel
theorem dL_file_128 : decode cL_file 128 = .ok (.invokestatic 101, 3) := by decide +kernel
theorem dL_file_131 : decode cL_file 131 = .ok (.ifCond .ge 5, 3) := by decide +kernel
theorem dL_file_134 : decode cL_file 134 = .ok (.iconst 0, 1) := by decide +kernel
theorem dL_file_135 : decode cL_file 135 = .ok (.ireturn, 1) := by decide +kernel
theorem dL_file_136 : decode cL_file 136 = .ok (.aload_n 1, 1) := by decide +kernel
theorem dL_file_137 : decode cL_file 137 = .ok (.iload 5, 2) := by decide +kernel
theorem dL_file_139 : decode cL_file 139 = .ok (.bipush 7, 2) := by decide +kernel
theorem dL_file_141 : decode cL_file 141 = .ok (.iadd, 1) := by decide +kernel
theorem dL_file_142 : decode cL_file 142 = .ok (.iaload, 1) := by decide +kernel
theorem dL_file_143 : decode cL_file 143 = .ok (.iconst 1, 1) := by decide +kernel
theorem dL_file_144 : decode cL_file 144 = .ok (.if_icmp .ne 23, 3) := by decide +kernel
theorem dL_file_147 : decode cL_file 147 = .ok (.iload 10, 2) := by decide +kernel
theorem dL_file_149 : decode cL_file 149 = .ok (.sipush 1000, 3) := by decide +kernel
theorem dL_file_152 : decode cL_file 152 = .ok (.irem, 1) := by decide +kernel
theorem dL_file_153 : decode cL_file 153 = .ok (.ifCond .le 14, 3) := by decide +kernel
theorem dL_file_156 : decode cL_file 156 = .ok (.iload 10, 2) := by decide +kernel
theorem dL_file_158 : decode cL_file 158 = .ok (.iload 8, 2) := by decide +kernel
theorem dL_file_160 : decode cL_file 160 = .ok (.iconst 1, 1) := by decide +kernel
theorem dL_file_161 : decode cL_file 161 = .ok (.iadd, 1) := by decide +kernel
theorem dL_file_162 : decode cL_file 162 = .ok (.if_icmp .eq 5, 3) := by decide +kernel
theorem dL_file_165 : decode cL_file 165 = .ok (.iconst 0, 1) := by decide +kernel
theorem dL_file_166 : decode cL_file 166 = .ok (.ireturn, 1) := by decide +kernel
theorem dL_file_167 : decode cL_file 167 = .ok (.iload 10, 2) := by decide +kernel
theorem dL_file_169 : decode cL_file 169 = .ok (.istore 8, 2) := by decide +kernel
theorem dL_file_171 : decode cL_file 171 = .ok (.iinc 9 1, 3) := by decide +kernel
theorem dL_file_174 : decode cL_file 174 = .ok (.goto (-134), 3) := by decide +kernel
theorem dL_file_177 : decode cL_file 177 = .ok (.iconst (-1), 1) := by decide +kernel
theorem dL_file_178 : decode cL_file 178 = .ok (.istore 9, 2) := by decide +kernel
theorem dL_file_180 : decode cL_file 180 = .ok (.aload_n 3, 1) := by decide +kernel
theorem dL_file_181 : decode cL_file 181 = .ok (.iconst 0, 1) := by decide +kernel
theorem dL_file_182 : decode cL_file 182 = .ok (.iaload, 1) := by decide +kernel
theorem dL_file_183 : decode cL_file 183 = .ok (.sipush 200, 3) := by decide +kernel
theorem dL_file_186 : decode cL_file 186 = .ok (.iadd, 1) := by decide +kernel
theorem dL_file_187 : decode cL_file 187 = .ok (.istore 10, 2) := by decide +kernel
theorem dL_file_189 : decode cL_file 189 = .ok (.iload 10, 2) := by decide +kernel
theorem dL_file_191 : decode cL_file 191 = .ok (.aload_n 3, 1) := by decide +kernel
theorem dL_file_192 : decode cL_file 192 = .ok (.iconst 0, 1) := by decide +kernel
theorem dL_file_193 : decode cL_file 193 = .ok (.iaload, 1) := by decide +kernel
theorem dL_file_194 : decode cL_file 194 = .ok (.if_icmp .lt 31, 3) := by decide +kernel
theorem dL_file_197 : decode cL_file 197 = .ok (.aload_n 0, 1) := by decide +kernel
theorem dL_file_198 : decode cL_file 198 = .ok (.aload_n 1, 1) := by decide +kernel
theorem dL_file_199 : decode cL_file 199 = .ok (.aload_n 2, 1) := by decide +kernel
theorem dL_file_200 : decode cL_file 200 = .ok (.iload 4, 2) := by decide +kernel
theorem dL_file_202 : decode cL_file 202 = .ok (.iload 10, 2) := by decide +kernel
theorem dL_file_204 : decode cL_file 204 = .ok (.invokestatic 103, 3) := by decide +kernel
theorem dL_file_207 : decode cL_file 207 = .ok (.ifCond .eq 8, 3) := by decide +kernel
theorem dL_file_210 : decode cL_file 210 = .ok (.iload 10, 2) := by decide +kernel
theorem dL_file_212 : decode cL_file 212 = .ok (.goto 5, 3) := by decide +kernel
theorem dL_file_215 : decode cL_file 215 = .ok (.iload 9, 2) := by decide +kernel
theorem dL_file_217 : decode cL_file 217 = .ok (.istore 9, 2) := by decide +kernel
theorem dL_file_219 : decode cL_file 219 = .ok (.iinc 10 (-1), 3) := by decide +kernel
theorem dL_file_222 : decode cL_file 222 = .ok (.goto (-33), 3) := by decide +kernel
theorem dL_file_225 : decode cL_file 225 = .ok (.iload 7, 2) := by decide +kernel
theorem dL_file_227 : decode cL_file 227 = .ok (.aload_n 2, 1) := by decide +kernel
theorem dL_file_228 : decode cL_file 228 = .ok (.iconst 4, 1) := by decide +kernel
theorem dL_file_229 : decode cL_file 229 = .ok (.iload 4, 2) := by decide +kernel
theorem dL_file_231 : decode cL_file 231 = .ok (.imul, 1) := by decide +kernel
theorem dL_file_232 : decode cL_file 232 = .ok (.iconst 3, 1) := by decide +kernel
theorem dL_file_233 : decode cL_file 233 = .ok (.iadd, 1) := by decide +kernel
theorem dL_file_234 : decode cL_file 234 = .ok (.iaload, 1) := by decide +kernel
theorem dL_file_235 : decode cL_file 235 = .ok (.if_icmp .ne 93, 3) := by decide +kernel
theorem dL_file_238 : decode cL_file 238 = .ok (.aload_n 0, 1) := by decide +kernel
theorem dL_file_239 : decode cL_file 239 = .ok (.iload 4, 2) := by decide +kernel
theorem dL_file_241 : decode cL_file 241 = .ok (.invokestatic 90, 3) := by decide +kernel
theorem dL_file_244 : decode cL_file 244 = .ok (.ifCond .lt 84, 3) := by decide +kernel
theorem dL_file_247 : decode cL_file 247 = .ok (.aload_n 0, 1) := by decide +kernel
theorem dL_file_248 : decode cL_file 248 = .ok (.iload 4, 2) := by decide +kernel
theorem dL_file_250 : decode cL_file 250 = .ok (.invokestatic 107, 3) := by decide +kernel
theorem dL_file_253 : decode cL_file 253 = .ok (.aload_n 0, 1) := by decide +kernel
theorem dL_file_254 : decode cL_file 254 = .ok (.aload_n 1, 1) := by decide +kernel
theorem dL_file_255 : decode cL_file 255 = .ok (.aload_n 2, 1) := by decide +kernel
theorem dL_file_256 : decode cL_file 256 = .ok (.iload 4, 2) := by decide +kernel
theorem dL_file_258 : decode cL_file 258 = .ok (.aload_n 3, 1) := by decide +kernel
theorem dL_file_259 : decode cL_file 259 = .ok (.iconst 0, 1) := by decide +kernel
theorem dL_file_260 : decode cL_file 260 = .ok (.iaload, 1) := by decide +kernel
theorem dL_file_261 : decode cL_file 261 = .ok (.invokestatic 103, 3) := by decide +kernel
theorem dL_file_264 : decode cL_file 264 = .ok (.ifCond .eq 7, 3) := by decide +kernel
theorem dL_file_267 : decode cL_file 267 = .ok (.iconst 1, 1) := by decide +kernel
theorem dL_file_268 : decode cL_file 268 = .ok (.goto 4, 3) := by decide +kernel
theorem dL_file_271 : decode cL_file 271 = .ok (.iconst 0, 1) := by decide +kernel
theorem dL_file_272 : decode cL_file 272 = .ok (.if_icmp .ne 56, 3) := by decide +kernel
theorem dL_file_275 : decode cL_file 275 = .ok (.aload_n 0, 1) := by decide +kernel
theorem dL_file_276 : decode cL_file 276 = .ok (.iload 4, 2) := by decide +kernel
theorem dL_file_278 : decode cL_file 278 = .ok (.invokestatic 109, 3) := by decide +kernel
theorem dL_file_281 : decode cL_file 281 = .ok (.iload 9, 2) := by decide +kernel
theorem dL_file_283 : decode cL_file 283 = .ok (.if_icmp .ne 45, 3) := by decide +kernel
theorem dL_file_286 : decode cL_file 286 = .ok (.aload_n 0, 1) := by decide +kernel
theorem dL_file_287 : decode cL_file 287 = .ok (.iload 4, 2) := by decide +kernel
theorem dL_file_289 : decode cL_file 289 = .ok (.iload 6, 2) := by decide +kernel
theorem dL_file_291 : decode cL_file 291 = .ok (.invokestatic 99, 3) := by decide +kernel
theorem dL_file_294 : decode cL_file 294 = .ok (.ldc 18, 2) := by decide +kernel
theorem dL_file_296 : decode cL_file 296 = .ok (.if_icmp .ne 32, 3) := by decide +kernel
theorem dL_file_299 : decode cL_file 299 = .ok (.aload_n 0, 1) := by decide +kernel
theorem dL_file_300 : decode cL_file 300 = .ok (.iload 4, 2) := by decide +kernel
theorem dL_file_302 : decode cL_file 302 = .ok (.iconst (-1), 1) := by decide +kernel
theorem dL_file_303 : decode cL_file 303 = .ok (.invokestatic 96, 3) := by decide +kernel
theorem dL_file_306 : decode cL_file 306 = .ok (.ldc 18, 2) := by decide +kernel
theorem dL_file_308 : decode cL_file 308 = .ok (.if_icmp .ne 20, 3) := by decide +kernel
theorem dL_file_311 : decode cL_file 311 = .ok (.aload_n 0, 1) := by decide +kernel
theorem dL_file_312 : decode cL_file 312 = .ok (.iload 4, 2) := by decide +kernel
theorem dL_file_314 : decode cL_file 314 = .ok (.iload 6, 2) := by decide +kernel
theorem dL_file_316 : decode cL_file 316 = .ok (.invokestatic 101, 3) := by decide +kernel
theorem dL_file_319 : decode cL_file 319 = .ok (.ldc 18, 2) := by decide +kernel
theorem dL_file_321 : decode cL_file 321 = .ok (.if_icmp .ne 7, 3) := by decide +kernel
theorem dL_file_324 : decode cL_file 324 = .ok (.iconst 1, 1) := by decide +kernel
theorem dL_file_325 : decode cL_file 325 = .ok (.goto 4, 3) := by decide +kernel
theorem dL_file_328 : decode cL_file 328 = .ok (.iconst 0, 1) := by decide +kernel
theorem dL_file_329 : decode cL_file 329 = .ok (.ireturn, 1) := by decide +kernel
theorem dL_isSo_0 : decode cL_isSo 0 = .ok (.iconst 0, 1) := by decide +kernel
theorem dL_isSo_1 : decode cL_isSo 1 = .ok (.istore 4, 2) := by decide +kernel
theorem dL_isSo_3 : decode cL_isSo 3 = .ok (.iload 4, 2) := by decide +kernel
theorem dL_isSo_5 : decode cL_isSo 5 = .ok (.iconst 5, 1) := by decide +kernel
theorem dL_isSo_6 : decode cL_isSo 6 = .ok (.if_icmp .ge 23, 3) := by decide +kernel
theorem dL_isSo_9 : decode cL_isSo 9 = .ok (.aload_n 0, 1) := by decide +kernel
theorem dL_isSo_10 : decode cL_isSo 10 = .ok (.aload_n 1, 1) := by decide +kernel
theorem dL_isSo_11 : decode cL_isSo 11 = .ok (.aload_n 2, 1) := by decide +kernel
theorem dL_isSo_12 : decode cL_isSo 12 = .ok (.aload_n 3, 1) := by decide +kernel
theorem dL_isSo_13 : decode cL_isSo 13 = .ok (.iload 4, 2) := by decide +kernel
theorem dL_isSo_15 : decode cL_isSo 15 = .ok (.invokestatic 111, 3) := by decide +kernel
theorem dL_isSo_18 : decode cL_isSo 18 = .ok (.ifCond .ne 5, 3) := by decide +kernel
theorem dL_isSo_21 : decode cL_isSo 21 = .ok (.iconst 0, 1) := by decide +kernel
theorem dL_isSo_22 : decode cL_isSo 22 = .ok (.ireturn, 1) := by decide +kernel
theorem dL_isSo_23 : decode cL_isSo 23 = .ok (.iinc 4 1, 3) := by decide +kernel
theorem dL_isSo_26 : decode cL_isSo 26 = .ok (.goto (-23), 3) := by decide +kernel
theorem dL_isSo_29 : decode cL_isSo 29 = .ok (.iconst 0, 1) := by decide +kernel
theorem dL_isSo_30 : decode cL_isSo 30 = .ok (.istore 4, 2) := by decide +kernel
theorem dL_isSo_32 : decode cL_isSo 32 = .ok (.iload 4, 2) := by decide +kernel
theorem dL_isSo_34 : decode cL_isSo 34 = .ok (.iconst 4, 1) := by decide +kernel
theorem dL_isSo_35 : decode cL_isSo 35 = .ok (.if_icmp .ge 56, 3) := by decide +kernel
theorem dL_isSo_38 : decode cL_isSo 38 = .ok (.aload_n 0, 1) := by decide +kernel
theorem dL_isSo_39 : decode cL_isSo 39 = .ok (.iload 4, 2) := by decide +kernel
theorem dL_isSo_41 : decode cL_isSo 41 = .ok (.invokestatic 85, 3) := by decide +kernel
theorem dL_isSo_44 : decode cL_isSo 44 = .ok (.istore 5, 2) := by decide +kernel
theorem dL_isSo_46 : decode cL_isSo 46 = .ok (.iload 5, 2) := by decide +kernel
theorem dL_isSo_48 : decode cL_isSo 48 = .ok (.iconst (-1), 1) := by decide +kernel
theorem dL_isSo_49 : decode cL_isSo 49 = .ok (.if_icmp .eq 36, 3) := by decide +kernel
theorem dL_isSo_52 : decode cL_isSo 52 = .ok (.iload 5, 2) := by decide +kernel
theorem dL_isSo_54 : decode cL_isSo 54 = .ok (.ifCond .lt 29, 3) := by decide +kernel
theorem dL_isSo_57 : decode cL_isSo 57 = .ok (.iload 5, 2) := by decide +kernel
theorem dL_isSo_59 : decode cL_isSo 59 = .ok (.bipush 100, 2) := by decide +kernel
theorem dL_isSo_61 : decode cL_isSo 61 = .ok (.idiv, 1) := by decide +kernel
theorem dL_isSo_62 : decode cL_isSo 62 = .ok (.iconst 4, 1) := by decide +kernel
theorem dL_isSo_63 : decode cL_isSo 63 = .ok (.if_icmp .gt 20, 3) := by decide +kernel
theorem dL_isSo_66 : decode cL_isSo 66 = .ok (.iload 5, 2) := by decide +kernel
theorem dL_isSo_68 : decode cL_isSo 68 = .ok (.bipush 100, 2) := by decide +kernel
theorem dL_isSo_70 : decode cL_isSo 70 = .ok (.irem, 1) := by decide +kernel
theorem dL_isSo_71 : decode cL_isSo 71 = .ok (.aload_n 0, 1) := by decide +kernel
theorem dL_isSo_72 : decode cL_isSo 72 = .ok (.iload 5, 2) := by decide +kernel
theorem dL_isSo_74 : decode cL_isSo 74 = .ok (.bipush 100, 2) := by decide +kernel
theorem dL_isSo_76 : decode cL_isSo 76 = .ok (.idiv, 1) := by decide +kernel
theorem dL_isSo_77 : decode cL_isSo 77 = .ok (.invokestatic 92, 3) := by decide +kernel
theorem dL_isSo_80 : decode cL_isSo 80 = .ok (.if_icmp .le 5, 3) := by decide +kernel
theorem dL_isSo_83 : decode cL_isSo 83 = .ok (.iconst 0, 1) := by decide +kernel
theorem dL_isSo_84 : decode cL_isSo 84 = .ok (.ireturn, 1) := by decide +kernel
theorem dL_isSo_85 : decode cL_isSo 85 = .ok (.iinc 4 1, 3) := by decide +kernel
theorem dL_isSo_88 : decode cL_isSo 88 = .ok (.goto (-56), 3) := by decide +kernel
theorem dL_isSo_91 : decode cL_isSo 91 = .ok (.aload_n 0, 1) := by decide +kernel
theorem dL_isSo_92 : decode cL_isSo 92 = .ok (.invokevirtual 115, 3) := by decide +kernel
theorem dL_isSo_95 : decode cL_isSo 95 = .ok (.aload_n 3, 1) := by decide +kernel
theorem dL_isSo_96 : decode cL_isSo 96 = .ok (.iconst 0, 1) := by decide +kernel
theorem dL_isSo_97 : decode cL_isSo 97 = .ok (.iaload, 1) := by decide +kernel
theorem dL_isSo_98 : decode cL_isSo 98 = .ok (.if_icmp .ne 67, 3) := by decide +kernel
theorem dL_isSo_101 : decode cL_isSo 101 = .ok (.aload_n 0, 1) := by decide +kernel
theorem dL_isSo_102 : decode cL_isSo 102 = .ok (.iconst 5, 1) := by decide +kernel
theorem dL_isSo_103 : decode cL_isSo 103 = .ok (.invokestatic 107, 3) := by decide +kernel
theorem dL_isSo_106 : decode cL_isSo 106 = .ok (.ldc 18, 2) := by decide +kernel
theorem dL_isSo_108 : decode cL_isSo 108 = .ok (.if_icmp .ne 57, 3) := by decide +kernel
theorem dL_isSo_111 : decode cL_isSo 111 = .ok (.aload_n 0, 1) := by decide +kernel
theorem dL_isSo_112 : decode cL_isSo 112 = .ok (.iconst (-1), 1) := by decide +kernel
theorem dL_isSo_113 : decode cL_isSo 113 = .ok (.invokestatic 109, 3) := by decide +kernel
theorem dL_isSo_116 : decode cL_isSo 116 = .ok (.ldc 18, 2) := by decide +kernel
theorem dL_isSo_118 : decode cL_isSo 118 = .ok (.if_icmp .ne 47, 3) := by decide +kernel
theorem dL_isSo_121 : decode cL_isSo 121 = .ok (.aload_n 0, 1) := by decide +kernel
theorem dL_isSo_122 : decode cL_isSo 122 = .ok (.iconst 5, 1) := by decide +kernel
theorem dL_isSo_123 : decode cL_isSo 123 = .ok (.invokestatic 90, 3) := by decide +kernel
theorem dL_isSo_126 : decode cL_isSo 126 = .ok (.ldc 18, 2) := by decide +kernel
theorem dL_isSo_128 : decode cL_isSo 128 = .ok (.if_icmp .ne 37, 3) := by decide +kernel
theorem dL_isSo_131 : decode cL_isSo 131 = .ok (.aload_n 0, 1) := by decide +kernel
theorem dL_isSo_132 : decode cL_isSo 132 = .ok (.iconst (-1), 1) := by decide +kernel
theorem dL_isSo_133 : decode cL_isSo 133 = .ok (.invokestatic 92, 3) := by decide +kernel
theorem dL_isSo_136 : decode cL_isSo 136 = .ok (.ldc 18, 2) := by decide +kernel
theorem dL_isSo_138 : decode cL_isSo 138 = .ok (.if_icmp .ne 27, 3) := by decide +kernel
theorem dL_isSo_141 : decode cL_isSo 141 = .ok (.aload_n 0, 1) := by decide +kernel
theorem dL_isSo_142 : decode cL_isSo 142 = .ok (.iconst 5, 1) := by decide +kernel
theorem dL_isSo_143 : decode cL_isSo 143 = .ok (.invokestatic 94, 3) := by decide +kernel
theorem dL_isSo_146 : decode cL_isSo 146 = .ok (.ldc 18, 2) := by decide +kernel
theorem dL_isSo_148 : decode cL_isSo 148 = .ok (.if_icmp .ne 17, 3) := by decide +kernel
theorem dL_isSo_151 : decode cL_isSo 151 = .ok (.aload_n 0, 1) := by decide +kernel
theorem dL_isSo_152 : decode cL_isSo 152 = .ok (.iconst 4, 1) := by decide +kernel
theorem dL_isSo_153 : decode cL_isSo 153 = .ok (.invokestatic 85, 3) := by decide +kernel
theorem dL_isSo_156 : decode cL_isSo 156 = .ok (.ldc 18, 2) := by decide +kernel
theorem dL_isSo_158 : decode cL_isSo 158 = .ok (.if_icmp .ne 7, 3) := by decide +kernel
theorem dL_isSo_161 : decode cL_isSo 161 = .ok (.iconst 1, 1) := by decide +kernel
theorem dL_isSo_162 : decode cL_isSo 162 = .ok (.goto 4, 3) := by decide +kernel
theorem dL_isSo_165 : decode cL_isSo 165 = .ok (.iconst 0, 1) := by decide +kernel
theorem dL_isSo_166 : decode cL_isSo 166 = .ok (.ireturn, 1) := by decide +kernel
theorem dL_isTurned_0 : decode cL_isTurned 0 = .ok (.bipush 9, 2) := by decide +kernel
theorem dL_isTurned_2 : decode cL_isTurned 2 = .ok (.aload_n 2, 1) := by decide +kernel
theorem dL_isTurned_3 : decode cL_isTurned 3 = .ok (.iconst 4, 1) := by decide +kernel
theorem dL_isTurned_4 : decode cL_isTurned 4 = .ok (.iload_n 3, 1) := by decide +kernel
theorem dL_isTurned_5 : decode cL_isTurned 5 = .ok (.imul, 1) := by decide +kernel
theorem dL_isTurned_6 : decode cL_isTurned 6 = .ok (.iaload, 1) := by decide +kernel
theorem dL_isTurned_7 : decode cL_isTurned 7 = .ok (.imul, 1) := by decide +kernel
theorem dL_isTurned_8 : decode cL_isTurned 8 = .ok (.istore 5, 2) := by decide +kernel
theorem dL_isTurned_10 : decode cL_isTurned 10 = .ok (.aload_n 0, 1) := by decide +kernel
theorem dL_isTurned_11 : decode cL_isTurned 11 = .ok (.iload_n 3, 1) := by decide +kernel
theorem dL_isTurned_12 : decode cL_isTurned 12 = .ok (.invokestatic 92, 3) := by decide +kernel
theorem dL_isTurned_15 : decode cL_isTurned 15 = .ok (.istore 6, 2) := by decide +kernel
theorem dL_isTurned_17 : decode cL_isTurned 17 = .ok (.iconst 0, 1) := by decide +kernel
theorem dL_isTurned_18 : decode cL_isTurned 18 = .ok (.istore 7, 2) := by decide +kernel
theorem dL_isTurned_20 : decode cL_isTurned 20 = .ok (.iload 7, 2) := by decide +kernel
theorem dL_isTurned_22 : decode cL_isTurned 22 = .ok (.iload 6, 2) := by decide +kernel
theorem dL_isTurned_24 : decode cL_isTurned 24 = .ok (.if_icmp .ge 186, 3) := by decide +kernel
theorem dL_isTurned_27 : decode cL_isTurned 27 = .ok (.iload 7, 2) := by decide +kernel
theorem dL_isTurned_29 : decode cL_isTurned 29 = .ok (.iload 6, 2) := by decide +kernel
theorem dL_isTurned_31 : decode cL_isTurned 31 = .ok (.iconst 1, 1) := by decide +kernel
theorem dL_isTurned_32 : decode cL_isTurned 32 = .ok (.isub, 1) := by decide +kernel
theorem dL_isTurned_33 : decode cL_isTurned 33 = .ok (.if_icmp .ne 7, 3) := by decide +kernel
theorem dL_isTurned_36 : decode cL_isTurned 36 = .ok (.iconst 1, 1) := by decide +kernel
theorem dL_isTurned_37 : decode cL_isTurned 37 = .ok (.goto 4, 3) := by decide +kernel
theorem dL_isTurned_40 : decode cL_isTurned 40 = .ok (.iconst 0, 1) := by decide +kernel
theorem dL_isTurned_41 : decode cL_isTurned 41 = .ok (.istore 8, 2) := by decide +kernel
theorem dL_isTurned_43 : decode cL_isTurned 43 = .ok (.aload 4, 2) := by decide +kernel
theorem dL_isTurned_45 : decode cL_isTurned 45 = .ok (.iconst 0, 1) := by decide +kernel
theorem dL_isTurned_46 : decode cL_isTurned 46 = .ok (.iaload, 1) := by decide +kernel
theorem dL_isTurned_47 : decode cL_isTurned 47 = .ok (.iconst 1, 1) := by decide +kernel
theorem dL_isTurned_48 : decode cL_isTurned 48 = .ok (.if_icmp .ne 7, 3) := by decide +kernel
theorem dL_isTurned_51 : decode cL_isTurned 51 = .ok (.iconst 1, 1) := by decide +kernel
theorem dL_isTurned_52 : decode cL_isTurned 52 = .ok (.goto 4, 3) := by decide +kernel
theorem dL_isTurned_55 : decode cL_isTurned 55 = .ok (.iconst 0, 1) := by decide +kernel
theorem dL_isTurned_56 : decode cL_isTurned 56 = .ok (.istore 9, 2) := by decide +kernel
theorem dL_isTurned_58 : decode cL_isTurned 58 = .ok (.aload_n 1, 1) := by decide +kernel
theorem dL_isTurned_59 : decode cL_isTurned 59 = .ok (.iload 5, 2) := by decide +kernel
theorem dL_isTurned_61 : decode cL_isTurned 61 = .ok (.bipush 6, 2) := by decide +kernel
theorem dL_isTurned_63 : decode cL_isTurned 63 = .ok (.iadd, 1) := by decide +kernel
theorem dL_isTurned_64 : decode cL_isTurned 64 = .ok (.iaload, 1) := by decide +kernel
theorem dL_isTurned_65 : decode cL_isTurned 65 = .ok (.iconst 1, 1) := by decide +kernel
theorem dL_isTurned_66 : decode cL_isTurned 66 = .ok (.if_icmp .ne 35, 3) := by decide +kernel
theorem dL_isTurned_69 : decode cL_isTurned 69 = .ok (.iload 8, 2) := by decide +kernel
theorem dL_isTurned_71 : decode cL_isTurned 71 = .ok (.ifCond .ne 30, 3) := by decide +kernel
theorem dL_isTurned_74 : decode cL_isTurned 74 = .ok (.aload_n 0, 1) := by decide +kernel
theorem dL_isTurned_75 : decode cL_isTurned 75 = .ok (.iload_n 3, 1) := by decide +kernel
theorem dL_isTurned_76 : decode cL_isTurned 76 = .ok (.iload 7, 2) := by decide +kernel
theorem dL_isTurned_78 : decode cL_isTurned 78 = .ok (.invokestatic 101, 3) := by decide +kernel
theorem dL_isTurned_81 : decode cL_isTurned 81 = .ok (.ifCond .ne 20, 3) := by decide +kernel
theorem dL_isTurned_84 : decode cL_isTurned 84 = .ok (.aload_n 0, 1) := by decide +kernel
theorem dL_isTurned_85 : decode cL_isTurned 85 = .ok (.iload_n 3, 1) := by decide +kernel
theorem dL_isTurned_86 : decode cL_isTurned 86 = .ok (.iload 7, 2) := by decide +kernel
theorem dL_isTurned_88 : decode cL_isTurned 88 = .ok (.invokestatic 119, 3) := by decide +kernel
theorem dL_isTurned_91 : decode cL_isTurned 91 = .ok (.ifCond .ne 10, 3) := by decide +kernel
theorem dL_isTurned_94 : decode cL_isTurned 94 = .ok (.iload 9, 2) := by decide +kernel
theorem dL_isTurned_96 : decode cL_isTurned 96 = .ok (.ifCond .ne 5, 3) := by decide +kernel
theorem dL_isTurned_99 : decode cL_isTurned 99 = .ok (.iconst 0, 1) := by decide +kernel
theorem dL_isTurned_100 : decode cL_isTurned 100 = .ok (.ireturn, 1) := by decide +kernel
theorem dL_isTurned_101 : decode cL_isTurned 101 = .ok (.aload_n 1, 1) := by decide +kernel
theorem dL_isTurned_102 : decode cL_isTurned 102 = .ok (.iload 5, 2) := by decide +kernel
theorem dL_isTurned_104 : decode cL_isTurned 104 = .ok (.bipush 7, 2) := by decide +kernel
theorem dL_isTurned_106 : decode cL_isTurned 106 = .ok (.iadd, 1) := by decide +kernel
theorem dL_isTurned_107 : decode cL_isTurned 107 = .ok (.iaload, 1) := by decide +kernel
theorem dL_isTurned_108 : decode cL_isTurned 108 = .ok (.iconst 1, 1) := by decide +kernel
theorem dL_isTurned_109 : decode cL_isTurned 109 = .ok (.if_icmp .ne 22, 3) := by decide +kernel
theorem dL_isTurned_112 : decode cL_isTurned 112 = .ok (.aload_n 0, 1) := by decide +kernel
theorem dL_isTurned_113 : decode cL_isTurned 113 = .ok (.invokevirtual 115, 3) := by decide +kernel
theorem dL_isTurned_116 : decode cL_isTurned 116 = .ok (.aload_n 0, 1) := by decide +kernel
theorem dL_isTurned_117 : decode cL_isTurned 117 = .ok (.iload_n 3, 1) := by decide +kernel
theorem dL_isTurned_118 : decode cL_isTurned 118 = .ok (.iload 7, 2) := by decide +kernel
theorem dL_isTurned_120 : decode cL_isTurned 120 = .ok (.invokestatic 96, 3) := by decide +kernel
theorem dL_isTurned_123 : decode cL_isTurned 123 = .ok (.sipush 1000, 3) := by decide +kernel
theorem dL_isTurned_126 : decode cL_isTurned 126 = .ok (.idiv, 1) := by decide +kernel
theorem dL_isTurned_127 : decode cL_isTurned 127 = .ok (.isub, 1) := by decide +kernel
theorem dL_isTurned_128 : decode cL_isTurned 128 = .ok (.goto 4, 3) := by decide +kernel
theorem dL_isTurned_131 : decode cL_isTurned 131 = .ok (.iconst (-1), 1) := by decide +kernel
theorem dL_isTurned_132 : decode cL_isTurned 132 = .ok (.istore 10, 2) := by decide +kernel
theorem dL_isTurned_134 : decode cL_isTurned 134 = .ok (.aload_n 1, 1) := by decide +kernel
theorem dL_isTurned_135 : decode cL_isTurned 135 = .ok (.iload 5, 2) := by decide +kernel
theorem dL_isTurned_137 : decode cL_isTurned 137 = .ok (.bipush 7, 2) := by decide +kernel
theorem dL_isTurned_139 : decode cL_isTurned 139 = .ok (.iadd, 1) := by decide +kernel
theorem dL_isTurned_140 : decode cL_isTurned 140 = .ok (.iaload, 1) := by decide +kernel
theorem dL_isTurned_141 : decode cL_isTurned 141 = .ok (.iconst 1, 1) := by decide +kernel
theorem dL_isTurned_142 : decode cL_isTurned 142 = .ok (.if_icmp .ne 62, 3) := by decide +kernel
theorem dL_isTurned_145 : decode cL_isTurned 145 = .ok (.aload_n 0, 1) := by decide +kernel
theorem dL_isTurned_146 : decode cL_isTurned 146 = .ok (.iload_n 3, 1) := by decide +kernel
theorem dL_isTurned_147 : decode cL_isTurned 147 = .ok (.iload 7, 2) := by decide +kernel
theorem dL_isTurned_149 : decode cL_isTurned 149 = .ok (.invokestatic 119, 3) := by decide +kernel
theorem dL_isTurned_152 : decode cL_isTurned 152 = .ok (.ifCond .ne 52, 3) := by decide +kernel
theorem dL_isTurned_155 : decode cL_isTurned 155 = .ok (.iload 9, 2) := by decide +kernel
theorem dL_isTurned_157 : decode cL_isTurned 157 = .ok (.ifCond .ne 47, 3) := by decide +kernel
theorem dL_isTurned_160 : decode cL_isTurned 160 = .ok (.iload 10, 2) := by decide +kernel
theorem dL_isTurned_162 : decode cL_isTurned 162 = .ok (.aload_n 1, 1) := by decide +kernel
theorem dL_isTurned_163 : decode cL_isTurned 163 = .ok (.iload 5, 2) := by decide +kernel
theorem dL_isTurned_165 : decode cL_isTurned 165 = .ok (.iconst 3, 1) := by decide +kernel
theorem dL_isTurned_166 : decode cL_isTurned 166 = .ok (.iadd, 1) := by decide +kernel
theorem dL_isTurned_167 : decode cL_isTurned 167 = .ok (.iaload, 1) := by decide +kernel
theorem dL_isTurned_168 : decode cL_isTurned 168 = .ok (.if_icmp .lt 36, 3) := by decide +kernel
theorem dL_isTurned_171 : decode cL_isTurned 171 = .ok (.iload 6, 2) := by decide +kernel
theorem dL_isTurned_173 : decode cL_isTurned 173 = .ok (.aload_n 1, 1) := by decide +kernel
theorem dL_isTurned_174 : decode cL_isTurned 174 = .ok (.iload 5, 2) := by decide +kernel
theorem dL_isTurned_176 : decode cL_isTurned 176 = .ok (.iconst 4, 1) := by decide +kernel
theorem dL_isTurned_177 : decode cL_isTurned 177 = .ok (.iadd, 1) := by decide +kernel
theorem dL_isTurned_178 : decode cL_isTurned 178 = .ok (.iaload, 1) := by decide +kernel
theorem dL_isTurned_179 : decode cL_isTurned 179 = .ok (.if_icmp .gt 23, 3) := by decide +kernel
theorem dL_isTurned_182 : decode cL_isTurned 182 = .ok (.aload_n 1, 1) := by decide +kernel
theorem dL_isTurned_183 : decode cL_isTurned 183 = .ok (.iload 5, 2) := by decide +kernel
theorem dL_isTurned_185 : decode cL_isTurned 185 = .ok (.iconst 5, 1) := by decide +kernel
theorem dL_isTurned_186 : decode cL_isTurned 186 = .ok (.iadd, 1) := by decide +kernel
theorem dL_isTurned_187 : decode cL_isTurned 187 = .ok (.iaload, 1) := by decide +kernel
theorem dL_isTurned_188 : decode cL_isTurned 188 = .ok (.ifCond .le 16, 3) := by decide +kernel
theorem dL_isTurned_191 : decode cL_isTurned 191 = .ok (.iload 10, 2) := by decide +kernel
theorem dL_isTurned_193 : decode cL_isTurned 193 = .ok (.aload_n 1, 1) := by decide +kernel
theorem dL_isTurned_194 : decode cL_isTurned 194 = .ok (.iload 5, 2) := by decide +kernel
theorem dL_isTurned_196 : decode cL_isTurned 196 = .ok (.iconst 5, 1) := by decide +kernel
theorem dL_isTurned_197 : decode cL_isTurned 197 = .ok (.iadd, 1) := by decide +kernel
theorem dL_isTurned_198 : decode cL_isTurned 198 = .ok (.iaload, 1) := by decide +kernel
theorem dL_isTurned_199 : decode cL_isTurned 199 = .ok (.if_icmp .le 5, 3) := by decide +kernel
theorem dL_isTurned_202 : decode cL_isTurned 202 = .ok (.iconst 0, 1) := by decide +kernel
theorem dL_isTurned_203 : decode cL_isTurned 203 = .ok (.ireturn, 1) := by decide +kernel
theorem dL_isTurned_204 : decode cL_isTurned 204 = .ok (.iinc 7 1, 3) := by decide +kernel
theorem dL_isTurned_207 : decode cL_isTurned 207 = .ok (.goto (-187), 3) := by decide +kernel
theorem dL_isTurned_210 : decode cL_isTurned 210 = .ok (.aload_n 0, 1) := by decide +kernel
theorem dL_isTurned_211 : decode cL_isTurned 211 = .ok (.iload_n 3, 1) := by decide +kernel
theorem dL_isTurned_212 : decode cL_isTurned 212 = .ok (.invokestatic 90, 3) := by decide +kernel
theorem dL_isTurned_215 : decode cL_isTurned 215 = .ok (.ifCond .ne 24, 3) := by decide +kernel
theorem dL_isTurned_218 : decode cL_isTurned 218 = .ok (.iload 6, 2) := by decide +kernel
theorem dL_isTurned_220 : decode cL_isTurned 220 = .ok (.ifCond .eq 15, 3) := by decide +kernel
theorem dL_isTurned_223 : decode cL_isTurned 223 = .ok (.aload_n 0, 1) := by decide +kernel
theorem dL_isTurned_224 : decode cL_isTurned 224 = .ok (.iload_n 3, 1) := by decide +kernel
theorem dL_isTurned_225 : decode cL_isTurned 225 = .ok (.iload 6, 2) := by decide +kernel
theorem dL_isTurned_227 : decode cL_isTurned 227 = .ok (.iconst 1, 1) := by decide +kernel
theorem dL_isTurned_228 : decode cL_isTurned 228 = .ok (.isub, 1) := by decide +kernel
theorem dL_isTurned_229 : decode cL_isTurned 229 = .ok (.invokestatic 99, 3) := by decide +kernel
theorem dL_isTurned_232 : decode cL_isTurned 232 = .ok (.ifCond .lt 7, 3) := by decide +kernel
theorem dL_isTurned_235 : decode cL_isTurned 235 = .ok (.iconst 1, 1) := by decide +kernel
theorem dL_isTurned_236 : decode cL_isTurned 236 = .ok (.goto 4, 3) := by decide +kernel
theorem dL_isTurned_239 : decode cL_isTurned 239 = .ok (.iconst 0, 1) := by decide +kernel
theorem dL_isTurned_240 : decode cL_isTurned 240 = .ok (.ireturn, 1) := by decide +kernel
theorem dL_law_0 : decode cL_law 0 = .ok (.new 11, 3) := by decide +kernel
theorem dL_law_3 : decode cL_law 3 = .ok (.dup, 1) := by decide +kernel
theorem dL_law_4 : decode cL_law 4 = .ok (.invokespecial 163, 3) := by decide +kernel
theorem dL_law_7 : decode cL_law 7 = .ok (.astore_n 1, 1) := by decide +kernel
theorem dL_law_8 : decode cL_law 8 = .ok (.new 11, 3) := by decide +kernel
theorem dL_law_11 : decode cL_law 11 = .ok (.dup, 1) := by decide +kernel
theorem dL_law_12 : decode cL_law 12 = .ok (.invokespecial 163, 3) := by decide +kernel
theorem dL_law_15 : decode cL_law 15 = .ok (.astore_n 2, 1) := by decide +kernel
theorem dL_law_16 : decode cL_law 16 = .ok (.bipush 27, 2) := by decide +kernel
theorem dL_law_18 : decode cL_law 18 = .ok (.newarray .int, 2) := by decide +kernel
theorem dL_law_20 : decode cL_law 20 = .ok (.astore_n 3, 1) := by decide +kernel
theorem dL_law_21 : decode cL_law 21 = .ok (.bipush 20, 2) := by decide +kernel
theorem dL_law_23 : decode cL_law 23 = .ok (.newarray .int, 2) := by decide +kernel
theorem dL_law_25 : decode cL_law 25 = .ok (.astore 4, 2) := by decide +kernel
theorem dL_law_27 : decode cL_law 27 = .ok (.iconst 1, 1) := by decide +kernel
theorem dL_law_28 : decode cL_law 28 = .ok (.newarray .int, 2) := by decide +kernel
theorem dL_law_30 : decode cL_law 30 = .ok (.astore 5, 2) := by decide +kernel
theorem dL_law_32 : decode cL_law 32 = .ok (.iconst 0, 1) := by decide +kernel
theorem dL_law_33 : decode cL_law 33 = .ok (.istore 6, 2) := by decide +kernel
theorem dL_law_35 : decode cL_law 35 = .ok (.iload 6, 2) := by decide +kernel
theorem dL_law_37 : decode cL_law 37 = .ok (.iconst 3, 1) := by decide +kernel
theorem dL_law_38 : decode cL_law 38 = .ok (.if_icmp .ge 39, 3) := by decide +kernel
theorem dL_law_41 : decode cL_law 41 = .ok (.aload_n 3, 1) := by decide +kernel
theorem dL_law_42 : decode cL_law 42 = .ok (.bipush 9, 2) := by decide +kernel
theorem dL_law_44 : decode cL_law 44 = .ok (.iload 6, 2) := by decide +kernel
theorem dL_law_46 : decode cL_law 46 = .ok (.imul, 1) := by decide +kernel
theorem dL_law_47 : decode cL_law 47 = .ok (.iconst 1, 1) := by decide +kernel
theorem dL_law_48 : decode cL_law 48 = .ok (.iadd, 1) := by decide +kernel
theorem dL_law_49 : decode cL_law 49 = .ok (.iconst (-1), 1) := by decide +kernel
theorem dL_law_50 : decode cL_law 50 = .ok (.iastore, 1) := by decide +kernel
theorem dL_law_51 : decode cL_law 51 = .ok (.aload_n 3, 1) := by decide +kernel
theorem dL_law_52 : decode cL_law 52 = .ok (.bipush 9, 2) := by decide +kernel
theorem dL_law_54 : decode cL_law 54 = .ok (.iload 6, 2) := by decide +kernel
theorem dL_law_56 : decode cL_law 56 = .ok (.imul, 1) := by decide +kernel
theorem dL_law_57 : decode cL_law 57 = .ok (.iconst 2, 1) := by decide +kernel
theorem dL_law_58 : decode cL_law 58 = .ok (.iadd, 1) := by decide +kernel
theorem dL_law_59 : decode cL_law 59 = .ok (.iconst (-1), 1) := by decide +kernel
theorem dL_law_60 : decode cL_law 60 = .ok (.iastore, 1) := by decide +kernel
theorem dL_law_61 : decode cL_law 61 = .ok (.aload_n 3, 1) := by decide +kernel
theorem dL_law_62 : decode cL_law 62 = .ok (.bipush 9, 2) := by decide +kernel
theorem dL_law_64 : decode cL_law 64 = .ok (.iload 6, 2) := by decide +kernel
theorem dL_law_66 : decode cL_law 66 = .ok (.imul, 1) := by decide +kernel
theorem dL_law_67 : decode cL_law 67 = .ok (.iconst 4, 1) := by decide +kernel
theorem dL_law_68 : decode cL_law 68 = .ok (.iadd, 1) := by decide +kernel
theorem dL_law_69 : decode cL_law 69 = .ok (.iconst 3, 1) := by decide +kernel
theorem dL_law_70 : decode cL_law 70 = .ok (.iastore, 1) := by decide +kernel
theorem dL_law_71 : decode cL_law 71 = .ok (.iinc 6 1, 3) := by decide +kernel
theorem dL_law_74 : decode cL_law 74 = .ok (.goto (-39), 3) := by decide +kernel
theorem dL_law_77 : decode cL_law 77 = .ok (.aload_n 1, 1) := by decide +kernel
theorem dL_law_78 : decode cL_law 78 = .ok (.invokevirtual 115, 3) := by decide +kernel
theorem dL_law_81 : decode cL_law 81 = .ok (.ifCond .ne 34, 3) := by decide +kernel
theorem dL_law_84 : decode cL_law 84 = .ok (.aload_n 1, 1) := by decide +kernel
theorem dL_law_85 : decode cL_law 85 = .ok (.invokevirtual 129, 3) := by decide +kernel
theorem dL_law_88 : decode cL_law 88 = .ok (.ifCond .ne 27, 3) := by decide +kernel
theorem dL_law_91 : decode cL_law 91 = .ok (.aload_n 1, 1) := by decide +kernel
theorem dL_law_92 : decode cL_law 92 = .ok (.iconst 3, 1) := by decide +kernel
theorem dL_law_93 : decode cL_law 93 = .ok (.invokestatic 85, 3) := by decide +kernel
theorem dL_law_96 : decode cL_law 96 = .ok (.iconst (-1), 1) := by decide +kernel
theorem dL_law_97 : decode cL_law 97 = .ok (.if_icmp .ne 18, 3) := by decide +kernel
theorem dL_law_100 : decode cL_law 100 = .ok (.aload_n 1, 1) := by decide +kernel
theorem dL_law_101 : decode cL_law 101 = .ok (.iconst 0, 1) := by decide +kernel
theorem dL_law_102 : decode cL_law 102 = .ok (.iconst 0, 1) := by decide +kernel
theorem dL_law_103 : decode cL_law 103 = .ok (.invokestatic 96, 3) := by decide +kernel
theorem dL_law_106 : decode cL_law 106 = .ok (.ldc 18, 2) := by decide +kernel
theorem dL_law_108 : decode cL_law 108 = .ok (.if_icmp .ne 7, 3) := by decide +kernel
theorem dL_law_111 : decode cL_law 111 = .ok (.iconst 1, 1) := by decide +kernel
theorem dL_law_112 : decode cL_law 112 = .ok (.goto 4, 3) := by decide +kernel
theorem dL_law_115 : decode cL_law 115 = .ok (.iconst 0, 1) := by decide +kernel
theorem dL_law_116 : decode cL_law 116 = .ok (.istore 6, 2) := by decide +kernel
theorem dL_law_118 : decode cL_law 118 = .ok (.iconst 0, 1) := by decide +kernel
theorem dL_law_119 : decode cL_law 119 = .ok (.istore 7, 2) := by decide +kernel
theorem dL_law_121 : decode cL_law 121 = .ok (.iload 7, 2) := by decide +kernel
theorem dL_law_123 : decode cL_law 123 = .ok (.bipush 110, 2) := by decide +kernel
theorem dL_law_125 : decode cL_law 125 = .ok (.if_icmp .ge 88, 3) := by decide +kernel
theorem dL_law_128 : decode cL_law 128 = .ok (.iload 6, 2) := by decide +kernel
theorem dL_law_130 : decode cL_law 130 = .ok (.ifCond .eq 83, 3) := by decide +kernel
theorem dL_law_133 : decode cL_law 133 = .ok (.aload_n 1, 1) := by decide +kernel
theorem dL_law_134 : decode cL_law 134 = .ok (.aload_n 2, 1) := by decide +kernel
theorem dL_law_135 : decode cL_law 135 = .ok (.aload_n 3, 1) := by decide +kernel
theorem dL_law_136 : decode cL_law 136 = .ok (.aload 4, 2) := by decide +kernel
theorem dL_law_138 : decode cL_law 138 = .ok (.aload 5, 2) := by decide +kernel
theorem dL_law_140 : decode cL_law 140 = .ok (.aload_n 0, 1) := by decide +kernel
theorem dL_law_141 : decode cL_law 141 = .ok (.iconst 2, 1) := by decide +kernel
theorem dL_law_142 : decode cL_law 142 = .ok (.iload 7, 2) := by decide +kernel
theorem dL_law_144 : decode cL_law 144 = .ok (.imul, 1) := by decide +kernel
theorem dL_law_145 : decode cL_law 145 = .ok (.invokestatic 164, 3) := by decide +kernel
theorem dL_law_148 : decode cL_law 148 = .ok (.aload_n 0, 1) := by decide +kernel
theorem dL_law_149 : decode cL_law 149 = .ok (.iconst 2, 1) := by decide +kernel
theorem dL_law_150 : decode cL_law 150 = .ok (.iload 7, 2) := by decide +kernel
theorem dL_law_152 : decode cL_law 152 = .ok (.imul, 1) := by decide +kernel
theorem dL_law_153 : decode cL_law 153 = .ok (.iconst 1, 1) := by decide +kernel
theorem dL_law_154 : decode cL_law 154 = .ok (.iadd, 1) := by decide +kernel
theorem dL_law_155 : decode cL_law 155 = .ok (.invokestatic 164, 3) := by decide +kernel
theorem dL_law_158 : decode cL_law 158 = .ok (.invokestatic 168, 3) := by decide +kernel
theorem dL_law_161 : decode cL_law 161 = .ok (.istore 6, 2) := by decide +kernel
theorem dL_law_163 : decode cL_law 163 = .ok (.iload 6, 2) := by decide +kernel
theorem dL_law_165 : decode cL_law 165 = .ok (.ifCond .eq 42, 3) := by decide +kernel
theorem dL_law_168 : decode cL_law 168 = .ok (.iload 7, 2) := by decide +kernel
theorem dL_law_170 : decode cL_law 170 = .ok (.iconst 4, 1) := by decide +kernel
theorem dL_law_171 : decode cL_law 171 = .ok (.irem, 1) := by decide +kernel
theorem dL_law_172 : decode cL_law 172 = .ok (.iconst 3, 1) := by decide +kernel
theorem dL_law_173 : decode cL_law 173 = .ok (.if_icmp .ne 34, 3) := by decide +kernel
theorem dL_law_176 : decode cL_law 176 = .ok (.aload_n 1, 1) := by decide +kernel
theorem dL_law_177 : decode cL_law 177 = .ok (.aload_n 3, 1) := by decide +kernel
theorem dL_law_178 : decode cL_law 178 = .ok (.aload 4, 2) := by decide +kernel
theorem dL_law_180 : decode cL_law 180 = .ok (.aload 5, 2) := by decide +kernel
theorem dL_law_182 : decode cL_law 182 = .ok (.invokestatic 172, 3) := by decide +kernel
theorem dL_law_185 : decode cL_law 185 = .ok (.ifCond .eq 19, 3) := by decide +kernel
theorem dL_law_188 : decode cL_law 188 = .ok (.aload_n 2, 1) := by decide +kernel
theorem dL_law_189 : decode cL_law 189 = .ok (.aload_n 3, 1) := by decide +kernel
theorem dL_law_190 : decode cL_law 190 = .ok (.aload 4, 2) := by decide +kernel
theorem dL_law_192 : decode cL_law 192 = .ok (.aload 5, 2) := by decide +kernel
theorem dL_law_194 : decode cL_law 194 = .ok (.invokestatic 172, 3) := by decide +kernel
theorem dL_law_197 : decode cL_law 197 = .ok (.ifCond .eq 7, 3) := by decide +kernel
theorem dL_law_200 : decode cL_law 200 = .ok (.iconst 1, 1) := by decide +kernel
theorem dL_law_201 : decode cL_law 201 = .ok (.goto 4, 3) := by decide +kernel
theorem dL_law_204 : decode cL_law 204 = .ok (.iconst 0, 1) := by decide +kernel
theorem dL_law_205 : decode cL_law 205 = .ok (.istore 6, 2) := by decide +kernel
theorem dL_law_207 : decode cL_law 207 = .ok (.iinc 7 1, 3) := by decide +kernel
theorem dL_law_210 : decode cL_law 210 = .ok (.goto (-89), 3) := by decide +kernel
theorem dL_law_213 : decode cL_law 213 = .ok (.iload 6, 2) := by decide +kernel
theorem dL_law_215 : decode cL_law 215 = .ok (.ireturn, 1) := by decide +kernel
