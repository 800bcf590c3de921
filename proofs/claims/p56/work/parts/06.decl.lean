theorem dL_draw_0 : decode cL_draw 0 = .ok (.iload_n 1, 1) := by decide +kernel
theorem dL_draw_1 : decode cL_draw 1 = .ok (.aload_n 0, 1) := by decide +kernel
theorem dL_draw_2 : decode cL_draw 2 = .ok (.arraylength, 1) := by decide +kernel
theorem dL_draw_3 : decode cL_draw 3 = .ok (.if_icmp .ge 9, 3) := by decide +kernel
theorem dL_draw_6 : decode cL_draw 6 = .ok (.aload_n 0, 1) := by decide +kernel
theorem dL_draw_7 : decode cL_draw 7 = .ok (.iload_n 1, 1) := by decide +kernel
theorem dL_draw_8 : decode cL_draw 8 = .ok (.iaload, 1) := by decide +kernel
theorem dL_draw_9 : decode cL_draw 9 = .ok (.goto 11, 3) := by decide +kernel
theorem dL_draw_12 : decode cL_draw 12 = .ok (.ldc 7, 2) := by decide +kernel
theorem dL_draw_14 : decode cL_draw 14 = .ok (.iload_n 1, 1) := by decide +kernel
theorem dL_draw_15 : decode cL_draw 15 = .ok (.imul, 1) := by decide +kernel
theorem dL_draw_16 : decode cL_draw 16 = .ok (.sipush 11113, 3) := by decide +kernel
theorem dL_draw_19 : decode cL_draw 19 = .ok (.iadd, 1) := by decide +kernel
theorem dL_draw_20 : decode cL_draw 20 = .ok (.ldc 8, 2) := by decide +kernel
theorem dL_draw_22 : decode cL_draw 22 = .ok (.iand, 1) := by decide +kernel
theorem dL_draw_23 : decode cL_draw 23 = .ok (.ireturn, 1) := by decide +kernel
theorem dL_in_0 : decode cL_in 0 = .ok (.lload_n 0, 1) := by decide +kernel
theorem dL_in_1 : decode cL_in 1 = .ok (.lload_n 2, 1) := by decide +kernel
theorem dL_in_2 : decode cL_in 2 = .ok (.lcmp, 1) := by decide +kernel
theorem dL_in_3 : decode cL_in 3 = .ok (.ifCond .lt 14, 3) := by decide +kernel
theorem dL_in_6 : decode cL_in 6 = .ok (.lload_n 0, 1) := by decide +kernel
theorem dL_in_7 : decode cL_in 7 = .ok (.lload 4, 2) := by decide +kernel
theorem dL_in_9 : decode cL_in 9 = .ok (.lcmp, 1) := by decide +kernel
theorem dL_in_10 : decode cL_in 10 = .ok (.ifCond .gt 7, 3) := by decide +kernel
theorem dL_in_13 : decode cL_in 13 = .ok (.iconst 1, 1) := by decide +kernel
theorem dL_in_14 : decode cL_in 14 = .ok (.goto 4, 3) := by decide +kernel
theorem dL_in_17 : decode cL_in 17 = .ok (.iconst 0, 1) := by decide +kernel
theorem dL_in_18 : decode cL_in 18 = .ok (.ireturn, 1) := by decide +kernel
theorem dL_insert_0 : decode cL_insert 0 = .ok (.aload_n 0, 1) := by decide +kernel
theorem dL_insert_1 : decode cL_insert 1 = .ok (.iload_n 1, 1) := by decide +kernel
theorem dL_insert_2 : decode cL_insert 2 = .ok (.iload_n 2, 1) := by decide +kernel
theorem dL_insert_3 : decode cL_insert 3 = .ok (.iload_n 3, 1) := by decide +kernel
theorem dL_insert_4 : decode cL_insert 4 = .ok (.invokevirtual 9, 3) := by decide +kernel
theorem dL_insert_7 : decode cL_insert 7 = .ok (.i2l, 1) := by decide +kernel
theorem dL_insert_8 : decode cL_insert 8 = .ok (.lreturn, 1) := by decide +kernel
theorem dL_insert_9 : decode cL_insert 9 = .ok (.astore 4, 2) := by decide +kernel
theorem dL_insert_11 : decode cL_insert 11 = .ok (.ldc2_w 17, 3) := by decide +kernel
theorem dL_insert_14 : decode cL_insert 14 = .ok (.lreturn, 1) := by decide +kernel
theorem dL_insert_15 : decode cL_insert 15 = .ok (.astore 4, 2) := by decide +kernel
theorem dL_insert_17 : decode cL_insert 17 = .ok (.ldc2_w 21, 3) := by decide +kernel
theorem dL_insert_20 : decode cL_insert 20 = .ok (.lreturn, 1) := by decide +kernel
theorem dL_insert_21 : decode cL_insert 21 = .ok (.astore 4, 2) := by decide +kernel
theorem dL_insert_23 : decode cL_insert 23 = .ok (.ldc2_w 25, 3) := by decide +kernel
theorem dL_insert_26 : decode cL_insert 26 = .ok (.lreturn, 1) := by decide +kernel
theorem dL_change_0 : decode cL_change 0 = .ok (.aload_n 0, 1) := by decide +kernel
theorem dL_change_1 : decode cL_change 1 = .ok (.iload_n 1, 1) := by decide +kernel
theorem dL_change_2 : decode cL_change 2 = .ok (.iload_n 2, 1) := by decide +kernel
theorem dL_change_3 : decode cL_change 3 = .ok (.invokevirtual 27, 3) := by decide +kernel
theorem dL_change_6 : decode cL_change 6 = .ok (.i2l, 1) := by decide +kernel
theorem dL_change_7 : decode cL_change 7 = .ok (.lreturn, 1) := by decide +kernel
theorem dL_change_8 : decode cL_change 8 = .ok (.astore_n 3, 1) := by decide +kernel
theorem dL_change_9 : decode cL_change 9 = .ok (.ldc2_w 17, 3) := by decide +kernel
theorem dL_change_12 : decode cL_change 12 = .ok (.lreturn, 1) := by decide +kernel
theorem dL_change_13 : decode cL_change 13 = .ok (.astore_n 3, 1) := by decide +kernel
theorem dL_change_14 : decode cL_change 14 = .ok (.ldc2_w 21, 3) := by decide +kernel
theorem dL_change_17 : decode cL_change 17 = .ok (.lreturn, 1) := by decide +kernel
theorem dL_change_18 : decode cL_change 18 = .ok (.astore_n 3, 1) := by decide +kernel
theorem dL_change_19 : decode cL_change 19 = .ok (.ldc2_w 25, 3) := by decide +kernel
theorem dL_change_22 : decode cL_change 22 = .ok (.lreturn, 1) := by decide +kernel
theorem dL_regroup_0 : decode cL_regroup 0 = .ok (.aload_n 0, 1) := by decide +kernel
theorem dL_regroup_1 : decode cL_regroup 1 = .ok (.iload_n 1, 1) := by decide +kernel
theorem dL_regroup_2 : decode cL_regroup 2 = .ok (.iload_n 2, 1) := by decide +kernel
theorem dL_regroup_3 : decode cL_regroup 3 = .ok (.invokevirtual 31, 3) := by decide +kernel
theorem dL_regroup_6 : decode cL_regroup 6 = .ok (.i2l, 1) := by decide +kernel
theorem dL_regroup_7 : decode cL_regroup 7 = .ok (.lreturn, 1) := by decide +kernel
theorem dL_regroup_8 : decode cL_regroup 8 = .ok (.astore_n 3, 1) := by decide +kernel
theorem dL_regroup_9 : decode cL_regroup 9 = .ok (.ldc2_w 17, 3) := by decide +kernel
theorem dL_regroup_12 : decode cL_regroup 12 = .ok (.lreturn, 1) := by decide +kernel
theorem dL_regroup_13 : decode cL_regroup 13 = .ok (.astore_n 3, 1) := by decide +kernel
theorem dL_regroup_14 : decode cL_regroup 14 = .ok (.ldc2_w 25, 3) := by decide +kernel
theorem dL_regroup_17 : decode cL_regroup 17 = .ok (.lreturn, 1) := by decide +kernel
theorem dL_delete_0 : decode cL_delete 0 = .ok (.aload_n 0, 1) := by decide +kernel
theorem dL_delete_1 : decode cL_delete 1 = .ok (.iload_n 1, 1) := by decide +kernel
theorem dL_delete_2 : decode cL_delete 2 = .ok (.invokevirtual 34, 3) := by decide +kernel
theorem dL_delete_5 : decode cL_delete 5 = .ok (.i2l, 1) := by decide +kernel
theorem dL_delete_6 : decode cL_delete 6 = .ok (.lreturn, 1) := by decide +kernel
theorem dL_delete_7 : decode cL_delete 7 = .ok (.astore_n 2, 1) := by decide +kernel
theorem dL_delete_8 : decode cL_delete 8 = .ok (.ldc2_w 17, 3) := by decide +kernel
theorem dL_delete_11 : decode cL_delete 11 = .ok (.lreturn, 1) := by decide +kernel
theorem dL_delete_12 : decode cL_delete 12 = .ok (.astore_n 2, 1) := by decide +kernel
theorem dL_delete_13 : decode cL_delete 13 = .ok (.ldc2_w 25, 3) := by decide +kernel
theorem dL_delete_16 : decode cL_delete 16 = .ok (.lreturn, 1) := by decide +kernel
theorem dL_nap_0 : decode cL_nap 0 = .ok (.aload_n 0, 1) := by decide +kernel
theorem dL_nap_1 : decode cL_nap 1 = .ok (.iload_n 1, 1) := by decide +kernel
theorem dL_nap_2 : decode cL_nap 2 = .ok (.invokevirtual 38, 3) := by decide +kernel
theorem dL_nap_5 : decode cL_nap 5 = .ok (.i2l, 1) := by decide +kernel
theorem dL_nap_6 : decode cL_nap 6 = .ok (.lreturn, 1) := by decide +kernel
theorem dL_nap_7 : decode cL_nap 7 = .ok (.astore_n 2, 1) := by decide +kernel
theorem dL_nap_8 : decode cL_nap 8 = .ok (.ldc2_w 17, 3) := by decide +kernel
theorem dL_nap_11 : decode cL_nap 11 = .ok (.lreturn, 1) := by decide +kernel
theorem dL_nap_12 : decode cL_nap 12 = .ok (.astore_n 2, 1) := by decide +kernel
theorem dL_nap_13 : decode cL_nap 13 = .ok (.ldc2_w 25, 3) := by decide +kernel
theorem dL_nap_16 : decode cL_nap 16 = .ok (.lreturn, 1) := by decide +kernel
theorem dL_wake_0 : decode cL_wake 0 = .ok (.aload_n 0, 1) := by decide +kernel
theorem dL_wake_1 : decode cL_wake 1 = .ok (.iload_n 1, 1) := by decide +kernel
theorem dL_wake_2 : decode cL_wake 2 = .ok (.invokevirtual 41, 3) := by decide +kernel
theorem dL_wake_5 : decode cL_wake 5 = .ok (.i2l, 1) := by decide +kernel
theorem dL_wake_6 : decode cL_wake 6 = .ok (.lreturn, 1) := by decide +kernel
theorem dL_wake_7 : decode cL_wake 7 = .ok (.astore_n 2, 1) := by decide +kernel
theorem dL_wake_8 : decode cL_wake 8 = .ok (.ldc2_w 17, 3) := by decide +kernel
theorem dL_wake_11 : decode cL_wake 11 = .ok (.lreturn, 1) := by decide +kernel
theorem dL_wake_12 : decode cL_wake 12 = .ok (.astore_n 2, 1) := by decide +kernel
theorem dL_wake_13 : decode cL_wake 13 = .ok (.ldc2_w 25, 3) := by decide +kernel
theorem dL_wake_16 : decode cL_wake 16 = .ok (.lreturn, 1) := by decide +kernel
theorem dL_refresh_0 : decode cL_refresh 0 = .ok (.aload_n 0, 1) := by decide +kernel
theorem dL_refresh_1 : decode cL_refresh 1 = .ok (.iload_n 1, 1) := by decide +kernel
theorem dL_refresh_2 : decode cL_refresh 2 = .ok (.invokevirtual 44, 3) := by decide +kernel
theorem dL_refresh_5 : decode cL_refresh 5 = .ok (.i2l, 1) := by decide +kernel
theorem dL_refresh_6 : decode cL_refresh 6 = .ok (.lreturn, 1) := by decide +kernel
theorem dL_refresh_7 : decode cL_refresh 7 = .ok (.astore_n 2, 1) := by decide +kernel
theorem dL_refresh_8 : decode cL_refresh 8 = .ok (.ldc2_w 17, 3) := by decide +kernel
theorem dL_refresh_11 : decode cL_refresh 11 = .ok (.lreturn, 1) := by decide +kernel
theorem dL_setFilter_0 : decode cL_setFilter 0 = .ok (.aload_n 0, 1) := by decide +kernel
theorem dL_setFilter_1 : decode cL_setFilter 1 = .ok (.iload_n 1, 1) := by decide +kernel
theorem dL_setFilter_2 : decode cL_setFilter 2 = .ok (.iload_n 2, 1) := by decide +kernel
theorem dL_setFilter_3 : decode cL_setFilter 3 = .ok (.invokevirtual 47, 3) := by decide +kernel
theorem dL_setFilter_6 : decode cL_setFilter 6 = .ok (.i2l, 1) := by decide +kernel
theorem dL_setFilter_7 : decode cL_setFilter 7 = .ok (.lreturn, 1) := by decide +kernel
theorem dL_setFilter_8 : decode cL_setFilter 8 = .ok (.astore_n 3, 1) := by decide +kernel
theorem dL_setFilter_9 : decode cL_setFilter 9 = .ok (.ldc2_w 17, 3) := by decide +kernel
theorem dL_setFilter_12 : decode cL_setFilter 12 = .ok (.lreturn, 1) := by decide +kernel
theorem dL_setFilter_13 : decode cL_setFilter 13 = .ok (.astore_n 3, 1) := by decide +kernel
theorem dL_setFilter_14 : decode cL_setFilter 14 = .ok (.ldc2_w 21, 3) := by decide +kernel
theorem dL_setFilter_17 : decode cL_setFilter 17 = .ok (.lreturn, 1) := by decide +kernel
theorem dL_setBehind_0 : decode cL_setBehind 0 = .ok (.aload_n 0, 1) := by decide +kernel
theorem dL_setBehind_1 : decode cL_setBehind 1 = .ok (.iload_n 1, 1) := by decide +kernel
theorem dL_setBehind_2 : decode cL_setBehind 2 = .ok (.iload_n 2, 1) := by decide +kernel
theorem dL_setBehind_3 : decode cL_setBehind 3 = .ok (.invokevirtual 50, 3) := by decide +kernel
theorem dL_setBehind_6 : decode cL_setBehind 6 = .ok (.i2l, 1) := by decide +kernel
theorem dL_setBehind_7 : decode cL_setBehind 7 = .ok (.lreturn, 1) := by decide +kernel
theorem dL_setBehind_8 : decode cL_setBehind 8 = .ok (.astore_n 3, 1) := by decide +kernel
theorem dL_setBehind_9 : decode cL_setBehind 9 = .ok (.ldc2_w 17, 3) := by decide +kernel
theorem dL_setBehind_12 : decode cL_setBehind 12 = .ok (.lreturn, 1) := by decide +kernel
theorem dL_setBehind_13 : decode cL_setBehind 13 = .ok (.astore_n 3, 1) := by decide +kernel
theorem dL_setBehind_14 : decode cL_setBehind 14 = .ok (.ldc2_w 21, 3) := by decide +kernel
theorem dL_setBehind_17 : decode cL_setBehind 17 = .ok (.lreturn, 1) := by decide +kernel
theorem dL_setLongest_0 : decode cL_setLongest 0 = .ok (.aload_n 0, 1) := by decide +kernel
theorem dL_setLongest_1 : decode cL_setLongest 1 = .ok (.iload_n 1, 1) := by decide +kernel
theorem dL_setLongest_2 : decode cL_setLongest 2 = .ok (.iload_n 2, 1) := by decide +kernel
theorem dL_setLongest_3 : decode cL_setLongest 3 = .ok (.invokevirtual 53, 3) := by decide +kernel
theorem dL_setLongest_6 : decode cL_setLongest 6 = .ok (.i2l, 1) := by decide +kernel
theorem dL_setLongest_7 : decode cL_setLongest 7 = .ok (.lreturn, 1) := by decide +kernel
theorem dL_setLongest_8 : decode cL_setLongest 8 = .ok (.astore_n 3, 1) := by decide +kernel
theorem dL_setLongest_9 : decode cL_setLongest 9 = .ok (.ldc2_w 17, 3) := by decide +kernel
theorem dL_setLongest_12 : decode cL_setLongest 12 = .ok (.lreturn, 1) := by decide +kernel
theorem dL_setLongest_13 : decode cL_setLongest 13 = .ok (.astore_n 3, 1) := by decide +kernel
theorem dL_setLongest_14 : decode cL_setLongest 14 = .ok (.ldc2_w 21, 3) := by decide +kernel
theorem dL_setLongest_17 : decode cL_setLongest 17 = .ok (.lreturn, 1) := by decide +kernel
theorem dL_pass_0 : decode cL_pass 0 = .ok (.aload_n 0, 1) := by decide +kernel
theorem dL_pass_1 : decode cL_pass 1 = .ok (.iload_n 1, 1) := by decide +kernel
theorem dL_pass_2 : decode cL_pass 2 = .ok (.invokevirtual 56, 3) := by decide +kernel
theorem dL_pass_5 : decode cL_pass 5 = .ok (.i2l, 1) := by decide +kernel
theorem dL_pass_6 : decode cL_pass 6 = .ok (.lreturn, 1) := by decide +kernel
theorem dL_pass_7 : decode cL_pass 7 = .ok (.astore_n 2, 1) := by decide +kernel
theorem dL_pass_8 : decode cL_pass 8 = .ok (.ldc2_w 21, 3) := by decide +kernel
theorem dL_pass_11 : decode cL_pass 11 = .ok (.lreturn, 1) := by decide +kernel
theorem dL_append_0 : decode cL_append 0 = .ok (.aload_n 0, 1) := by decide +kernel
theorem dL_append_1 : decode cL_append 1 = .ok (.iload_n 1, 1) := by decide +kernel
theorem dL_append_2 : decode cL_append 2 = .ok (.invokevirtual 59, 3) := by decide +kernel
theorem dL_append_5 : decode cL_append 5 = .ok (.i2l, 1) := by decide +kernel
theorem dL_append_6 : decode cL_append 6 = .ok (.lreturn, 1) := by decide +kernel
theorem dL_append_7 : decode cL_append 7 = .ok (.astore_n 2, 1) := by decide +kernel
theorem dL_append_8 : decode cL_append 8 = .ok (.ldc2_w 21, 3) := by decide +kernel
theorem dL_append_11 : decode cL_append 11 = .ok (.lreturn, 1) := by decide +kernel
theorem dL_append_12 : decode cL_append 12 = .ok (.astore_n 2, 1) := by decide +kernel
theorem dL_append_13 : decode cL_append 13 = .ok (.ldc2_w 25, 3) := by decide +kernel
theorem dL_append_16 : decode cL_append 16 = .ok (.lreturn, 1) := by decide +kernel
theorem dL_replay_0 : decode cL_replay 0 = .ok (.aload_n 0, 1) := by decide +kernel
theorem dL_replay_1 : decode cL_replay 1 = .ok (.invokevirtual 62, 3) := by decide +kernel
theorem dL_replay_4 : decode cL_replay 4 = .ok (.i2l, 1) := by decide +kernel
theorem dL_replay_5 : decode cL_replay 5 = .ok (.lreturn, 1) := by decide +kernel
theorem dL_replay_6 : decode cL_replay 6 = .ok (.astore_n 1, 1) := by decide +kernel
theorem dL_replay_7 : decode cL_replay 7 = .ok (.ldc2_w 21, 3) := by decide +kernel
theorem dL_replay_10 : decode cL_replay 10 = .ok (.lreturn, 1) := by decide +kernel
theorem dL_stopped_0 : decode cL_stopped 0 = .ok (.aload_n 0, 1) := by decide +kernel
theorem dL_stopped_1 : decode cL_stopped 1 = .ok (.invokevirtual 66, 3) := by decide +kernel
theorem dL_stopped_4 : decode cL_stopped 4 = .ok (.i2l, 1) := by decide +kernel
theorem dL_stopped_5 : decode cL_stopped 5 = .ok (.lreturn, 1) := by decide +kernel
theorem dL_stopped_6 : decode cL_stopped 6 = .ok (.astore_n 1, 1) := by decide +kernel
theorem dL_stopped_7 : decode cL_stopped 7 = .ok (.ldc2_w 25, 3) := by decide +kernel
theorem dL_stopped_10 : decode cL_stopped 10 = .ok (.lreturn, 1) := by decide +kernel
theorem dL_undo_0 : decode cL_undo 0 = .ok (.aload_n 0, 1) := by decide +kernel
theorem dL_undo_1 : decode cL_undo 1 = .ok (.invokevirtual 69, 3) := by decide +kernel
theorem dL_undo_4 : decode cL_undo 4 = .ok (.i2l, 1) := by decide +kernel
theorem dL_undo_5 : decode cL_undo 5 = .ok (.lreturn, 1) := by decide +kernel
theorem dL_undo_6 : decode cL_undo 6 = .ok (.astore_n 1, 1) := by decide +kernel
theorem dL_undo_7 : decode cL_undo 7 = .ok (.ldc2_w 25, 3) := by decide +kernel
theorem dL_undo_10 : decode cL_undo 10 = .ok (.lreturn, 1) := by decide +kernel
theorem dL_restore_0 : decode cL_restore 0 = .ok (.aload_n 0, 1) := by decide +kernel
theorem dL_restore_1 : decode cL_restore 1 = .ok (.invokevirtual 72, 3) := by decide +kernel
theorem dL_restore_4 : decode cL_restore 4 = .ok (.i2l, 1) := by decide +kernel
theorem dL_restore_5 : decode cL_restore 5 = .ok (.lreturn, 1) := by decide +kernel
theorem dL_restore_6 : decode cL_restore 6 = .ok (.astore_n 1, 1) := by decide +kernel
theorem dL_restore_7 : decode cL_restore 7 = .ok (.ldc2_w 25, 3) := by decide +kernel
theorem dL_restore_10 : decode cL_restore 10 = .ok (.lreturn, 1) := by decide +kernel
theorem dL_isFree_0 : decode cL_isFree 0 = .ok (.aload_n 0, 1) := by decide +kernel
theorem dL_isFree_1 : decode cL_isFree 1 = .ok (.iload_n 1, 1) := by decide +kernel
theorem dL_isFree_2 : decode cL_isFree 2 = .ok (.invokevirtual 75, 3) := by decide +kernel
theorem dL_isFree_5 : decode cL_isFree 5 = .ok (.ifCond .eq 7, 3) := by decide +kernel
theorem dL_isFree_8 : decode cL_isFree 8 = .ok (.lconst 1, 1) := by decide +kernel
theorem dL_isFree_9 : decode cL_isFree 9 = .ok (.goto 4, 3) := by decide +kernel
theorem dL_isFree_12 : decode cL_isFree 12 = .ok (.lconst 0, 1) := by decide +kernel
theorem dL_isFree_13 : decode cL_isFree 13 = .ok (.lreturn, 1) := by decide +kernel
theorem dL_isFree_14 : decode cL_isFree 14 = .ok (.astore_n 2, 1) := by decide +kernel
theorem dL_isFree_15 : decode cL_isFree 15 = .ok (.ldc2_w 17, 3) := by decide +kernel
theorem dL_isFree_18 : decode cL_isFree 18 = .ok (.lreturn, 1) := by decide +kernel
theorem dL_groupAt_0 : decode cL_groupAt 0 = .ok (.aload_n 0, 1) := by decide +kernel
theorem dL_groupAt_1 : decode cL_groupAt 1 = .ok (.iload_n 1, 1) := by decide +kernel
theorem dL_groupAt_2 : decode cL_groupAt 2 = .ok (.invokevirtual 79, 3) := by decide +kernel
theorem dL_groupAt_5 : decode cL_groupAt 5 = .ok (.i2l, 1) := by decide +kernel
theorem dL_groupAt_6 : decode cL_groupAt 6 = .ok (.lreturn, 1) := by decide +kernel
theorem dL_groupAt_7 : decode cL_groupAt 7 = .ok (.astore_n 2, 1) := by decide +kernel
theorem dL_groupAt_8 : decode cL_groupAt 8 = .ok (.ldc2_w 17, 3) := by decide +kernel
theorem dL_groupAt_11 : decode cL_groupAt 11 = .ok (.lreturn, 1) := by decide +kernel
theorem dL_groupAt_12 : decode cL_groupAt 12 = .ok (.astore_n 2, 1) := by decide +kernel
theorem dL_groupAt_13 : decode cL_groupAt 13 = .ok (.ldc2_w 25, 3) := by decide +kernel
theorem dL_groupAt_16 : decode cL_groupAt 16 = .ok (.lreturn, 1) := by decide +kernel
theorem dL_amountAt_0 : decode cL_amountAt 0 = .ok (.aload_n 0, 1) := by decide +kernel
theorem dL_amountAt_1 : decode cL_amountAt 1 = .ok (.iload_n 1, 1) := by decide +kernel
theorem dL_amountAt_2 : decode cL_amountAt 2 = .ok (.invokevirtual 82, 3) := by decide +kernel
theorem dL_amountAt_5 : decode cL_amountAt 5 = .ok (.i2l, 1) := by decide +kernel
theorem dL_amountAt_6 : decode cL_amountAt 6 = .ok (.lreturn, 1) := by decide +kernel
theorem dL_amountAt_7 : decode cL_amountAt 7 = .ok (.astore_n 2, 1) := by decide +kernel
theorem dL_amountAt_8 : decode cL_amountAt 8 = .ok (.ldc2_w 17, 3) := by decide +kernel
theorem dL_amountAt_11 : decode cL_amountAt 11 = .ok (.lreturn, 1) := by decide +kernel
theorem dL_amountAt_12 : decode cL_amountAt 12 = .ok (.astore_n 2, 1) := by decide +kernel
theorem dL_amountAt_13 : decode cL_amountAt 13 = .ok (.ldc2_w 25, 3) := by decide +kernel
theorem dL_amountAt_16 : decode cL_amountAt 16 = .ok (.lreturn, 1) := by decide +kernel
theorem dL_napping_0 : decode cL_napping 0 = .ok (.aload_n 0, 1) := by decide +kernel
theorem dL_napping_1 : decode cL_napping 1 = .ok (.iload_n 1, 1) := by decide +kernel
theorem dL_napping_2 : decode cL_napping 2 = .ok (.invokevirtual 85, 3) := by decide +kernel
theorem dL_napping_5 : decode cL_napping 5 = .ok (.ifCond .eq 7, 3) := by decide +kernel
theorem dL_napping_8 : decode cL_napping 8 = .ok (.lconst 1, 1) := by decide +kernel
theorem dL_napping_9 : decode cL_napping 9 = .ok (.goto 4, 3) := by decide +kernel
theorem dL_napping_12 : decode cL_napping 12 = .ok (.lconst 0, 1) := by decide +kernel
theorem dL_napping_13 : decode cL_napping 13 = .ok (.lreturn, 1) := by decide +kernel
theorem dL_napping_14 : decode cL_napping 14 = .ok (.astore_n 2, 1) := by decide +kernel
theorem dL_napping_15 : decode cL_napping 15 = .ok (.ldc2_w 17, 3) := by decide +kernel
theorem dL_napping_18 : decode cL_napping 18 = .ok (.lreturn, 1) := by decide +kernel
theorem dL_napOf_0 : decode cL_napOf 0 = .ok (.aload_n 0, 1) := by decide +kernel
theorem dL_napOf_1 : decode cL_napOf 1 = .ok (.iload_n 1, 1) := by decide +kernel
theorem dL_napOf_2 : decode cL_napOf 2 = .ok (.invokevirtual 88, 3) := by decide +kernel
theorem dL_napOf_5 : decode cL_napOf 5 = .ok (.i2l, 1) := by decide +kernel
theorem dL_napOf_6 : decode cL_napOf 6 = .ok (.lreturn, 1) := by decide +kernel
theorem dL_napOf_7 : decode cL_napOf 7 = .ok (.astore_n 2, 1) := by decide +kernel
theorem dL_napOf_8 : decode cL_napOf 8 = .ok (.ldc2_w 17, 3) := by decide +kernel
theorem dL_napOf_11 : decode cL_napOf 11 = .ok (.lreturn, 1) := by decide +kernel
theorem dL_filterOf_0 : decode cL_filterOf 0 = .ok (.aload_n 0, 1) := by decide +kernel
theorem dL_filterOf_1 : decode cL_filterOf 1 = .ok (.iload_n 1, 1) := by decide +kernel
theorem dL_filterOf_2 : decode cL_filterOf 2 = .ok (.invokevirtual 91, 3) := by decide +kernel
theorem dL_filterOf_5 : decode cL_filterOf 5 = .ok (.i2l, 1) := by decide +kernel
theorem dL_filterOf_6 : decode cL_filterOf 6 = .ok (.lreturn, 1) := by decide +kernel
theorem dL_filterOf_7 : decode cL_filterOf 7 = .ok (.astore_n 2, 1) := by decide +kernel
theorem dL_filterOf_8 : decode cL_filterOf 8 = .ok (.ldc2_w 17, 3) := by decide +kernel
theorem dL_filterOf_11 : decode cL_filterOf 11 = .ok (.lreturn, 1) := by decide +kernel
theorem dL_waiting_0 : decode cL_waiting 0 = .ok (.aload_n 0, 1) := by decide +kernel
theorem dL_waiting_1 : decode cL_waiting 1 = .ok (.iload_n 1, 1) := by decide +kernel
theorem dL_waiting_2 : decode cL_waiting 2 = .ok (.invokevirtual 94, 3) := by decide +kernel
theorem dL_waiting_5 : decode cL_waiting 5 = .ok (.i2l, 1) := by decide +kernel
theorem dL_waiting_6 : decode cL_waiting 6 = .ok (.lreturn, 1) := by decide +kernel
theorem dL_waiting_7 : decode cL_waiting 7 = .ok (.astore_n 2, 1) := by decide +kernel
theorem dL_waiting_8 : decode cL_waiting 8 = .ok (.ldc2_w 17, 3) := by decide +kernel
theorem dL_waiting_11 : decode cL_waiting 11 = .ok (.lreturn, 1) := by decide +kernel
theorem dL_byNumbers_0 : decode cL_byNumbers 0 = .ok (.aload_n 0, 1) := by decide +kernel
theorem dL_byNumbers_1 : decode cL_byNumbers 1 = .ok (.iload_n 1, 1) := by decide +kernel
theorem dL_byNumbers_2 : decode cL_byNumbers 2 = .ok (.invokevirtual 97, 3) := by decide +kernel
theorem dL_byNumbers_5 : decode cL_byNumbers 5 = .ok (.i2l, 1) := by decide +kernel
theorem dL_byNumbers_6 : decode cL_byNumbers 6 = .ok (.lreturn, 1) := by decide +kernel
theorem dL_byNumbers_7 : decode cL_byNumbers 7 = .ok (.astore_n 2, 1) := by decide +kernel
theorem dL_byNumbers_8 : decode cL_byNumbers 8 = .ok (.ldc2_w 17, 3) := by decide +kernel
theorem dL_byNumbers_11 : decode cL_byNumbers 11 = .ok (.lreturn, 1) := by decide +kernel
theorem dL_matters_0 : decode cL_matters 0 = .ok (.aload_n 0, 1) := by decide +kernel
theorem dL_matters_1 : decode cL_matters 1 = .ok (.iload_n 1, 1) := by decide +kernel
theorem dL_matters_2 : decode cL_matters 2 = .ok (.invokevirtual 100, 3) := by decide +kernel
theorem dL_matters_5 : decode cL_matters 5 = .ok (.i2l, 1) := by decide +kernel
theorem dL_matters_6 : decode cL_matters 6 = .ok (.lreturn, 1) := by decide +kernel
theorem dL_matters_7 : decode cL_matters 7 = .ok (.astore_n 2, 1) := by decide +kernel
theorem dL_matters_8 : decode cL_matters 8 = .ok (.ldc2_w 17, 3) := by decide +kernel
theorem dL_matters_11 : decode cL_matters 11 = .ok (.lreturn, 1) := by decide +kernel
theorem dL_countOf_0 : decode cL_countOf 0 = .ok (.aload_n 0, 1) := by decide +kernel
theorem dL_countOf_1 : decode cL_countOf 1 = .ok (.iload_n 1, 1) := by decide +kernel
theorem dL_countOf_2 : decode cL_countOf 2 = .ok (.iload_n 2, 1) := by decide +kernel
theorem dL_countOf_3 : decode cL_countOf 3 = .ok (.invokevirtual 103, 3) := by decide +kernel
theorem dL_countOf_6 : decode cL_countOf 6 = .ok (.i2l, 1) := by decide +kernel
theorem dL_countOf_7 : decode cL_countOf 7 = .ok (.lreturn, 1) := by decide +kernel
theorem dL_countOf_8 : decode cL_countOf 8 = .ok (.astore_n 3, 1) := by decide +kernel
theorem dL_countOf_9 : decode cL_countOf 9 = .ok (.ldc2_w 17, 3) := by decide +kernel
theorem dL_countOf_12 : decode cL_countOf 12 = .ok (.lreturn, 1) := by decide +kernel
theorem dL_sumOf_0 : decode cL_sumOf 0 = .ok (.aload_n 0, 1) := by decide +kernel
theorem dL_sumOf_1 : decode cL_sumOf 1 = .ok (.iload_n 1, 1) := by decide +kernel
theorem dL_sumOf_2 : decode cL_sumOf 2 = .ok (.iload_n 2, 1) := by decide +kernel
theorem dL_sumOf_3 : decode cL_sumOf 3 = .ok (.invokevirtual 106, 3) := by decide +kernel
theorem dL_sumOf_6 : decode cL_sumOf 6 = .ok (.i2l, 1) := by decide +kernel
theorem dL_sumOf_7 : decode cL_sumOf 7 = .ok (.lreturn, 1) := by decide +kernel
theorem dL_sumOf_8 : decode cL_sumOf 8 = .ok (.astore_n 3, 1) := by decide +kernel
theorem dL_sumOf_9 : decode cL_sumOf 9 = .ok (.ldc2_w 17, 3) := by decide +kernel
theorem dL_sumOf_12 : decode cL_sumOf 12 = .ok (.lreturn, 1) := by decide +kernel
theorem dL_leastOf_0 : decode cL_leastOf 0 = .ok (.aload_n 0, 1) := by decide +kernel
theorem dL_leastOf_1 : decode cL_leastOf 1 = .ok (.iload_n 1, 1) := by decide +kernel
theorem dL_leastOf_2 : decode cL_leastOf 2 = .ok (.iload_n 2, 1) := by decide +kernel
theorem dL_leastOf_3 : decode cL_leastOf 3 = .ok (.invokevirtual 109, 3) := by decide +kernel
theorem dL_leastOf_6 : decode cL_leastOf 6 = .ok (.i2l, 1) := by decide +kernel
theorem dL_leastOf_7 : decode cL_leastOf 7 = .ok (.lreturn, 1) := by decide +kernel
theorem dL_leastOf_8 : decode cL_leastOf 8 = .ok (.astore_n 3, 1) := by decide +kernel
theorem dL_leastOf_9 : decode cL_leastOf 9 = .ok (.ldc2_w 17, 3) := by decide +kernel
theorem dL_leastOf_12 : decode cL_leastOf 12 = .ok (.lreturn, 1) := by decide +kernel
theorem dL_leastOf_13 : decode cL_leastOf 13 = .ok (.astore_n 3, 1) := by decide +kernel
theorem dL_leastOf_14 : decode cL_leastOf 14 = .ok (.ldc2_w 25, 3) := by decide +kernel
theorem dL_leastOf_17 : decode cL_leastOf 17 = .ok (.lreturn, 1) := by decide +kernel
theorem dL_greatestOf_0 : decode cL_greatestOf 0 = .ok (.aload_n 0, 1) := by decide +kernel
theorem dL_greatestOf_1 : decode cL_greatestOf 1 = .ok (.iload_n 1, 1) := by decide +kernel
theorem dL_greatestOf_2 : decode cL_greatestOf 2 = .ok (.iload_n 2, 1) := by decide +kernel
theorem dL_greatestOf_3 : decode cL_greatestOf 3 = .ok (.invokevirtual 112, 3) := by decide +kernel
theorem dL_greatestOf_6 : decode cL_greatestOf 6 = .ok (.i2l, 1) := by decide +kernel
theorem dL_greatestOf_7 : decode cL_greatestOf 7 = .ok (.lreturn, 1) := by decide +kernel
theorem dL_greatestOf_8 : decode cL_greatestOf 8 = .ok (.astore_n 3, 1) := by decide +kernel
theorem dL_greatestOf_9 : decode cL_greatestOf 9 = .ok (.ldc2_w 17, 3) := by decide +kernel
theorem dL_greatestOf_12 : decode cL_greatestOf 12 = .ok (.lreturn, 1) := by decide +kernel
theorem dL_greatestOf_13 : decode cL_greatestOf 13 = .ok (.astore_n 3, 1) := by decide +kernel
theorem dL_greatestOf_14 : decode cL_greatestOf 14 = .ok (.ldc2_w 25, 3) := by decide +kernel
theorem dL_greatestOf_17 : decode cL_greatestOf 17 = .ok (.lreturn, 1) := by decide +kernel
theorem dL_medianOf_0 : decode cL_medianOf 0 = .ok (.aload_n 0, 1) := by decide +kernel
theorem dL_medianOf_1 : decode cL_medianOf 1 = .ok (.iload_n 1, 1) := by decide +kernel
theorem dL_medianOf_2 : decode cL_medianOf 2 = .ok (.iload_n 2, 1) := by decide +kernel
theorem dL_medianOf_3 : decode cL_medianOf 3 = .ok (.invokevirtual 115, 3) := by decide +kernel
theorem dL_medianOf_6 : decode cL_medianOf 6 = .ok (.i2l, 1) := by decide +kernel
theorem dL_medianOf_7 : decode cL_medianOf 7 = .ok (.lreturn, 1) := by decide +kernel
theorem dL_medianOf_8 : decode cL_medianOf 8 = .ok (.astore_n 3, 1) := by decide +kernel
theorem dL_medianOf_9 : decode cL_medianOf 9 = .ok (.ldc2_w 17, 3) := by decide +kernel
theorem dL_medianOf_12 : decode cL_medianOf 12 = .ok (.lreturn, 1) := by decide +kernel
theorem dL_medianOf_13 : decode cL_medianOf 13 = .ok (.astore_n 3, 1) := by decide +kernel
theorem dL_medianOf_14 : decode cL_medianOf 14 = .ok (.ldc2_w 25, 3) := by decide +kernel
theorem dL_medianOf_17 : decode cL_medianOf 17 = .ok (.lreturn, 1) := by decide +kernel
theorem dL_rankOf_0 : decode cL_rankOf 0 = .ok (.aload_n 0, 1) := by decide +kernel
theorem dL_rankOf_1 : decode cL_rankOf 1 = .ok (.iload_n 1, 1) := by decide +kernel
theorem dL_rankOf_2 : decode cL_rankOf 2 = .ok (.iload_n 2, 1) := by decide +kernel
theorem dL_rankOf_3 : decode cL_rankOf 3 = .ok (.iload_n 3, 1) := by decide +kernel
theorem dL_rankOf_4 : decode cL_rankOf 4 = .ok (.invokevirtual 118, 3) := by decide +kernel
theorem dL_rankOf_7 : decode cL_rankOf 7 = .ok (.i2l, 1) := by decide +kernel
theorem dL_rankOf_8 : decode cL_rankOf 8 = .ok (.lreturn, 1) := by decide +kernel
theorem dL_rankOf_9 : decode cL_rankOf 9 = .ok (.astore 4, 2) := by decide +kernel
theorem dL_rankOf_11 : decode cL_rankOf 11 = .ok (.ldc2_w 17, 3) := by decide +kernel
theorem dL_rankOf_14 : decode cL_rankOf 14 = .ok (.lreturn, 1) := by decide +kernel
theorem dL_rankOf_15 : decode cL_rankOf 15 = .ok (.astore 4, 2) := by decide +kernel
theorem dL_rankOf_17 : decode cL_rankOf 17 = .ok (.ldc2_w 21, 3) := by decide +kernel
theorem dL_rankOf_20 : decode cL_rankOf 20 = .ok (.lreturn, 1) := by decide +kernel
theorem dL_unlikeOf_0 : decode cL_unlikeOf 0 = .ok (.aload_n 0, 1) := by decide +kernel
theorem dL_unlikeOf_1 : decode cL_unlikeOf 1 = .ok (.iload_n 1, 1) := by decide +kernel
theorem dL_unlikeOf_2 : decode cL_unlikeOf 2 = .ok (.iload_n 2, 1) := by decide +kernel
theorem dL_unlikeOf_3 : decode cL_unlikeOf 3 = .ok (.invokevirtual 121, 3) := by decide +kernel
theorem dL_unlikeOf_6 : decode cL_unlikeOf 6 = .ok (.i2l, 1) := by decide +kernel
theorem dL_unlikeOf_7 : decode cL_unlikeOf 7 = .ok (.lreturn, 1) := by decide +kernel
theorem dL_unlikeOf_8 : decode cL_unlikeOf 8 = .ok (.astore_n 3, 1) := by decide +kernel
theorem dL_unlikeOf_9 : decode cL_unlikeOf 9 = .ok (.ldc2_w 17, 3) := by decide +kernel
theorem dL_unlikeOf_12 : decode cL_unlikeOf 12 = .ok (.lreturn, 1) := by decide +kernel
theorem dL_tableCount_0 : decode cL_tableCount 0 = .ok (.aload_n 0, 1) := by decide +kernel
theorem dL_tableCount_1 : decode cL_tableCount 1 = .ok (.iload_n 1, 1) := by decide +kernel
theorem dL_tableCount_2 : decode cL_tableCount 2 = .ok (.iload_n 2, 1) := by decide +kernel
theorem dL_tableCount_3 : decode cL_tableCount 3 = .ok (.invokevirtual 124, 3) := by decide +kernel
theorem dL_tableCount_6 : decode cL_tableCount 6 = .ok (.i2l, 1) := by decide +kernel
theorem dL_tableCount_7 : decode cL_tableCount 7 = .ok (.lreturn, 1) := by decide +kernel
theorem dL_tableCount_8 : decode cL_tableCount 8 = .ok (.astore_n 3, 1) := by decide +kernel
theorem dL_tableCount_9 : decode cL_tableCount 9 = .ok (.ldc2_w 17, 3) := by decide +kernel
theorem dL_tableCount_12 : decode cL_tableCount 12 = .ok (.lreturn, 1) := by decide +kernel
theorem dL_tableSum_0 : decode cL_tableSum 0 = .ok (.aload_n 0, 1) := by decide +kernel
theorem dL_tableSum_1 : decode cL_tableSum 1 = .ok (.iload_n 1, 1) := by decide +kernel
theorem dL_tableSum_2 : decode cL_tableSum 2 = .ok (.iload_n 2, 1) := by decide +kernel
theorem dL_tableSum_3 : decode cL_tableSum 3 = .ok (.invokevirtual 127, 3) := by decide +kernel
theorem dL_tableSum_6 : decode cL_tableSum 6 = .ok (.i2l, 1) := by decide +kernel
theorem dL_tableSum_7 : decode cL_tableSum 7 = .ok (.lreturn, 1) := by decide +kernel
theorem dL_tableSum_8 : decode cL_tableSum 8 = .ok (.astore_n 3, 1) := by decide +kernel
theorem dL_tableSum_9 : decode cL_tableSum 9 = .ok (.ldc2_w 17, 3) := by decide +kernel
theorem dL_tableSum_12 : decode cL_tableSum 12 = .ok (.lreturn, 1) := by decide +kernel
theorem dL_tableMedian_0 : decode cL_tableMedian 0 = .ok (.aload_n 0, 1) := by decide +kernel
theorem dL_tableMedian_1 : decode cL_tableMedian 1 = .ok (.iload_n 1, 1) := by decide +kernel
theorem dL_tableMedian_2 : decode cL_tableMedian 2 = .ok (.iload_n 2, 1) := by decide +kernel
theorem dL_tableMedian_3 : decode cL_tableMedian 3 = .ok (.invokevirtual 130, 3) := by decide +kernel
theorem dL_tableMedian_6 : decode cL_tableMedian 6 = .ok (.i2l, 1) := by decide +kernel
theorem dL_tableMedian_7 : decode cL_tableMedian 7 = .ok (.lreturn, 1) := by decide +kernel
theorem dL_tableMedian_8 : decode cL_tableMedian 8 = .ok (.astore_n 3, 1) := by decide +kernel
theorem dL_tableMedian_9 : decode cL_tableMedian 9 = .ok (.ldc2_w 17, 3) := by decide +kernel
theorem dL_tableMedian_12 : decode cL_tableMedian 12 = .ok (.lreturn, 1) := by decide +kernel
theorem dL_tableMedian_13 : decode cL_tableMedian 13 = .ok (.astore_n 3, 1) := by decide +kernel
theorem dL_tableMedian_14 : decode cL_tableMedian 14 = .ok (.ldc2_w 25, 3) := by decide +kernel
theorem dL_tableMedian_17 : decode cL_tableMedian 17 = .ok (.lreturn, 1) := by decide +kernel
theorem dL_tableRank_0 : decode cL_tableRank 0 = .ok (.aload_n 0, 1) := by decide +kernel
theorem dL_tableRank_1 : decode cL_tableRank 1 = .ok (.iload_n 1, 1) := by decide +kernel
theorem dL_tableRank_2 : decode cL_tableRank 2 = .ok (.iload_n 2, 1) := by decide +kernel
theorem dL_tableRank_3 : decode cL_tableRank 3 = .ok (.iload_n 3, 1) := by decide +kernel
theorem dL_tableRank_4 : decode cL_tableRank 4 = .ok (.invokevirtual 133, 3) := by decide +kernel
theorem dL_tableRank_7 : decode cL_tableRank 7 = .ok (.i2l, 1) := by decide +kernel
theorem dL_tableRank_8 : decode cL_tableRank 8 = .ok (.lreturn, 1) := by decide +kernel
theorem dL_tableRank_9 : decode cL_tableRank 9 = .ok (.astore 4, 2) := by decide +kernel
theorem dL_tableRank_11 : decode cL_tableRank 11 = .ok (.ldc2_w 17, 3) := by decide +kernel
theorem dL_tableRank_14 : decode cL_tableRank 14 = .ok (.lreturn, 1) := by decide +kernel
theorem dL_tableRank_15 : decode cL_tableRank 15 = .ok (.astore 4, 2) := by decide +kernel
theorem dL_tableRank_17 : decode cL_tableRank 17 = .ok (.ldc2_w 21, 3) := by decide +kernel
theorem dL_tableRank_20 : decode cL_tableRank 20 = .ok (.lreturn, 1) := by decide +kernel
theorem dL_unlikeGroups_0 : decode cL_unlikeGroups 0 = .ok (.aload_n 0, 1) := by decide +kernel
theorem dL_unlikeGroups_1 : decode cL_unlikeGroups 1 = .ok (.iload_n 1, 1) := by decide +kernel
theorem dL_unlikeGroups_2 : decode cL_unlikeGroups 2 = .ok (.invokevirtual 136, 3) := by decide +kernel
theorem dL_unlikeGroups_5 : decode cL_unlikeGroups 5 = .ok (.i2l, 1) := by decide +kernel
theorem dL_unlikeGroups_6 : decode cL_unlikeGroups 6 = .ok (.lreturn, 1) := by decide +kernel
theorem dL_unlikeGroups_7 : decode cL_unlikeGroups 7 = .ok (.astore_n 2, 1) := by decide +kernel
theorem dL_unlikeGroups_8 : decode cL_unlikeGroups 8 = .ok (.ldc2_w 17, 3) := by decide +kernel
theorem dL_unlikeGroups_11 : decode cL_unlikeGroups 11 = .ok (.lreturn, 1) := by decide +kernel
theorem dL_ifWoken_0 : decode cL_ifWoken 0 = .ok (.aload_n 0, 1) := by decide +kernel
theorem dL_ifWoken_1 : decode cL_ifWoken 1 = .ok (.iload_n 1, 1) := by decide +kernel
theorem dL_ifWoken_2 : decode cL_ifWoken 2 = .ok (.invokevirtual 139, 3) := by decide +kernel
theorem dL_ifWoken_5 : decode cL_ifWoken 5 = .ok (.i2l, 1) := by decide +kernel
theorem dL_ifWoken_6 : decode cL_ifWoken 6 = .ok (.lreturn, 1) := by decide +kernel
theorem dL_ifWoken_7 : decode cL_ifWoken 7 = .ok (.astore_n 2, 1) := by decide +kernel
theorem dL_ifWoken_8 : decode cL_ifWoken 8 = .ok (.ldc2_w 17, 3) := by decide +kernel
theorem dL_ifWoken_11 : decode cL_ifWoken 11 = .ok (.lreturn, 1) := by decide +kernel
theorem dL_wakesIn_0 : decode cL_wakesIn 0 = .ok (.aload_n 0, 1) := by decide +kernel
theorem dL_wakesIn_1 : decode cL_wakesIn 1 = .ok (.iload_n 1, 1) := by decide +kernel
theorem dL_wakesIn_2 : decode cL_wakesIn 2 = .ok (.invokevirtual 142, 3) := by decide +kernel
theorem dL_wakesIn_5 : decode cL_wakesIn 5 = .ok (.i2l, 1) := by decide +kernel
theorem dL_wakesIn_6 : decode cL_wakesIn 6 = .ok (.lreturn, 1) := by decide +kernel
theorem dL_wakesIn_7 : decode cL_wakesIn 7 = .ok (.astore_n 2, 1) := by decide +kernel
theorem dL_wakesIn_8 : decode cL_wakesIn 8 = .ok (.ldc2_w 17, 3) := by decide +kernel
theorem dL_wakesIn_11 : decode cL_wakesIn 11 = .ok (.lreturn, 1) := by decide +kernel
theorem dL_errors_0 : decode cL_errors 0 = .ok (.aload_n 0, 1) := by decide +kernel
theorem dL_errors_1 : decode cL_errors 1 = .ok (.invokevirtual 145, 3) := by decide +kernel
theorem dL_errors_4 : decode cL_errors 4 = .ok (.lstore_n 1, 1) := by decide +kernel
theorem dL_errors_5 : decode cL_errors 5 = .ok (.aload_n 0, 1) := by decide +kernel
theorem dL_errors_6 : decode cL_errors 6 = .ok (.bipush 16, 2) := by decide +kernel
theorem dL_errors_8 : decode cL_errors 8 = .ok (.iconst 0, 1) := by decide +kernel
theorem dL_errors_9 : decode cL_errors 9 = .ok (.bipush 100, 2) := by decide +kernel
theorem dL_errors_11 : decode cL_errors 11 = .ok (.invokestatic 149, 3) := by decide +kernel
theorem dL_errors_14 : decode cL_errors 14 = .ok (.ldc2_w 17, 3) := by decide +kernel
theorem dL_errors_17 : decode cL_errors 17 = .ok (.lcmp, 1) := by decide +kernel
theorem dL_errors_18 : decode cL_errors 18 = .ok (.ifCond .ne 402, 3) := by decide +kernel
theorem dL_errors_21 : decode cL_errors 21 = .ok (.aload_n 0, 1) := by decide +kernel
theorem dL_errors_22 : decode cL_errors 22 = .ok (.iconst 0, 1) := by decide +kernel
theorem dL_errors_23 : decode cL_errors 23 = .ok (.iconst 4, 1) := by decide +kernel
theorem dL_errors_24 : decode cL_errors 24 = .ok (.bipush 100, 2) := by decide +kernel
theorem dL_errors_26 : decode cL_errors 26 = .ok (.invokestatic 149, 3) := by decide +kernel
theorem dL_errors_29 : decode cL_errors 29 = .ok (.ldc2_w 17, 3) := by decide +kernel
theorem dL_errors_32 : decode cL_errors 32 = .ok (.lcmp, 1) := by decide +kernel
theorem dL_errors_33 : decode cL_errors 33 = .ok (.ifCond .ne 387, 3) := by decide +kernel
theorem dL_errors_36 : decode cL_errors 36 = .ok (.aload_n 0, 1) := by decide +kernel
theorem dL_errors_37 : decode cL_errors 37 = .ok (.iconst 0, 1) := by decide +kernel
theorem dL_errors_38 : decode cL_errors 38 = .ok (.iconst 0, 1) := by decide +kernel
theorem dL_errors_39 : decode cL_errors 39 = .ok (.bipush 100, 2) := by decide +kernel
theorem dL_errors_41 : decode cL_errors 41 = .ok (.invokestatic 149, 3) := by decide +kernel
theorem dL_errors_44 : decode cL_errors 44 = .ok (.ldc2_w 21, 3) := by decide +kernel
theorem dL_errors_47 : decode cL_errors 47 = .ok (.lcmp, 1) := by decide +kernel
theorem dL_errors_48 : decode cL_errors 48 = .ok (.ifCond .ne 372, 3) := by decide +kernel
theorem dL_errors_51 : decode cL_errors 51 = .ok (.aload_n 0, 1) := by decide +kernel
theorem dL_errors_52 : decode cL_errors 52 = .ok (.iconst (-1), 1) := by decide +kernel
theorem dL_errors_53 : decode cL_errors 53 = .ok (.iconst 0, 1) := by decide +kernel
theorem dL_errors_54 : decode cL_errors 54 = .ok (.invokestatic 154, 3) := by decide +kernel
theorem dL_errors_57 : decode cL_errors 57 = .ok (.ldc2_w 17, 3) := by decide +kernel
theorem dL_errors_60 : decode cL_errors 60 = .ok (.lcmp, 1) := by decide +kernel
theorem dL_errors_61 : decode cL_errors 61 = .ok (.ifCond .ne 359, 3) := by decide +kernel
theorem dL_errors_64 : decode cL_errors 64 = .ok (.aload_n 0, 1) := by decide +kernel
theorem dL_errors_65 : decode cL_errors 65 = .ok (.iconst 0, 1) := by decide +kernel
theorem dL_errors_66 : decode cL_errors 66 = .ok (.bipush (-100), 2) := by decide +kernel
theorem dL_errors_68 : decode cL_errors 68 = .ok (.invokestatic 154, 3) := by decide +kernel
theorem dL_errors_71 : decode cL_errors 71 = .ok (.ldc2_w 21, 3) := by decide +kernel
theorem dL_errors_74 : decode cL_errors 74 = .ok (.lcmp, 1) := by decide +kernel
theorem dL_errors_75 : decode cL_errors 75 = .ok (.ifCond .ne 345, 3) := by decide +kernel
theorem dL_errors_78 : decode cL_errors 78 = .ok (.aload_n 0, 1) := by decide +kernel
theorem dL_errors_79 : decode cL_errors 79 = .ok (.iconst 0, 1) := by decide +kernel
theorem dL_errors_80 : decode cL_errors 80 = .ok (.iconst (-1), 1) := by decide +kernel
theorem dL_errors_81 : decode cL_errors 81 = .ok (.invokestatic 157, 3) := by decide +kernel
theorem dL_errors_84 : decode cL_errors 84 = .ok (.ldc2_w 17, 3) := by decide +kernel
theorem dL_errors_87 : decode cL_errors 87 = .ok (.lcmp, 1) := by decide +kernel
theorem dL_errors_88 : decode cL_errors 88 = .ok (.ifCond .ne 332, 3) := by decide +kernel
theorem dL_errors_91 : decode cL_errors 91 = .ok (.aload_n 0, 1) := by decide +kernel
theorem dL_errors_92 : decode cL_errors 92 = .ok (.bipush 16, 2) := by decide +kernel
theorem dL_errors_94 : decode cL_errors 94 = .ok (.invokestatic 159, 3) := by decide +kernel
theorem dL_errors_97 : decode cL_errors 97 = .ok (.ldc2_w 17, 3) := by decide +kernel
theorem dL_errors_100 : decode cL_errors 100 = .ok (.lcmp, 1) := by decide +kernel
theorem dL_errors_101 : decode cL_errors 101 = .ok (.ifCond .ne 319, 3) := by decide +kernel
theorem dL_errors_104 : decode cL_errors 104 = .ok (.aload_n 0, 1) := by decide +kernel
theorem dL_errors_105 : decode cL_errors 105 = .ok (.iconst 3, 1) := by decide +kernel
theorem dL_errors_106 : decode cL_errors 106 = .ok (.invokestatic 162, 3) := by decide +kernel
theorem dL_errors_109 : decode cL_errors 109 = .ok (.ldc2_w 17, 3) := by decide +kernel
theorem dL_errors_112 : decode cL_errors 112 = .ok (.lcmp, 1) := by decide +kernel
theorem dL_errors_113 : decode cL_errors 113 = .ok (.ifCond .ne 307, 3) := by decide +kernel
theorem dL_errors_116 : decode cL_errors 116 = .ok (.aload_n 0, 1) := by decide +kernel
theorem dL_errors_117 : decode cL_errors 117 = .ok (.iconst (-1), 1) := by decide +kernel
theorem dL_errors_118 : decode cL_errors 118 = .ok (.invokestatic 164, 3) := by decide +kernel
theorem dL_errors_121 : decode cL_errors 121 = .ok (.ldc2_w 17, 3) := by decide +kernel
theorem dL_errors_124 : decode cL_errors 124 = .ok (.lcmp, 1) := by decide +kernel
theorem dL_errors_125 : decode cL_errors 125 = .ok (.ifCond .ne 295, 3) := by decide +kernel
theorem dL_errors_128 : decode cL_errors 128 = .ok (.aload_n 0, 1) := by decide +kernel
theorem dL_errors_129 : decode cL_errors 129 = .ok (.iconst 3, 1) := by decide +kernel
theorem dL_errors_130 : decode cL_errors 130 = .ok (.invokestatic 166, 3) := by decide +kernel
theorem dL_errors_133 : decode cL_errors 133 = .ok (.ldc2_w 17, 3) := by decide +kernel
theorem dL_errors_136 : decode cL_errors 136 = .ok (.lcmp, 1) := by decide +kernel
theorem dL_errors_137 : decode cL_errors 137 = .ok (.ifCond .ne 283, 3) := by decide +kernel
theorem dL_errors_140 : decode cL_errors 140 = .ok (.aload_n 0, 1) := by decide +kernel
theorem dL_errors_141 : decode cL_errors 141 = .ok (.iconst 3, 1) := by decide +kernel
theorem dL_errors_142 : decode cL_errors 142 = .ok (.bipush 100, 2) := by decide +kernel
theorem dL_errors_144 : decode cL_errors 144 = .ok (.invokestatic 168, 3) := by decide +kernel
theorem dL_errors_147 : decode cL_errors 147 = .ok (.ldc2_w 17, 3) := by decide +kernel
theorem dL_errors_150 : decode cL_errors 150 = .ok (.lcmp, 1) := by decide +kernel
theorem dL_errors_151 : decode cL_errors 151 = .ok (.ifCond .ne 269, 3) := by decide +kernel
theorem dL_errors_154 : decode cL_errors 154 = .ok (.aload_n 0, 1) := by decide +kernel
theorem dL_errors_155 : decode cL_errors 155 = .ok (.iconst 0, 1) := by decide +kernel
theorem dL_errors_156 : decode cL_errors 156 = .ok (.bipush 100, 2) := by decide +kernel
theorem dL_errors_158 : decode cL_errors 158 = .ok (.invokestatic 168, 3) := by decide +kernel
theorem dL_errors_161 : decode cL_errors 161 = .ok (.ldc2_w 21, 3) := by decide +kernel
theorem dL_errors_164 : decode cL_errors 164 = .ok (.lcmp, 1) := by decide +kernel
theorem dL_errors_165 : decode cL_errors 165 = .ok (.ifCond .ne 255, 3) := by decide +kernel
theorem dL_errors_168 : decode cL_errors 168 = .ok (.aload_n 0, 1) := by decide +kernel
theorem dL_errors_169 : decode cL_errors 169 = .ok (.iconst 0, 1) := by decide +kernel
theorem dL_errors_170 : decode cL_errors 170 = .ok (.iconst 0, 1) := by decide +kernel
theorem dL_errors_171 : decode cL_errors 171 = .ok (.invokestatic 170, 3) := by decide +kernel
theorem dL_errors_174 : decode cL_errors 174 = .ok (.ldc2_w 21, 3) := by decide +kernel
theorem dL_errors_177 : decode cL_errors 177 = .ok (.lcmp, 1) := by decide +kernel
theorem dL_errors_178 : decode cL_errors 178 = .ok (.ifCond .ne 242, 3) := by decide +kernel
theorem dL_errors_181 : decode cL_errors 181 = .ok (.aload_n 0, 1) := by decide +kernel
theorem dL_errors_182 : decode cL_errors 182 = .ok (.iconst 2, 1) := by decide +kernel
theorem dL_errors_183 : decode cL_errors 183 = .ok (.bipush 31, 2) := by decide +kernel
theorem dL_errors_185 : decode cL_errors 185 = .ok (.invokestatic 172, 3) := by decide +kernel
theorem dL_errors_188 : decode cL_errors 188 = .ok (.ldc2_w 21, 3) := by decide +kernel
theorem dL_errors_191 : decode cL_errors 191 = .ok (.lcmp, 1) := by decide +kernel
theorem dL_errors_192 : decode cL_errors 192 = .ok (.ifCond .ne 228, 3) := by decide +kernel
theorem dL_errors_195 : decode cL_errors 195 = .ok (.aload_n 0, 1) := by decide +kernel
theorem dL_errors_196 : decode cL_errors 196 = .ok (.iconst 0, 1) := by decide +kernel
theorem dL_errors_197 : decode cL_errors 197 = .ok (.invokestatic 174, 3) := by decide +kernel
theorem dL_errors_200 : decode cL_errors 200 = .ok (.ldc2_w 21, 3) := by decide +kernel
theorem dL_errors_203 : decode cL_errors 203 = .ok (.lcmp, 1) := by decide +kernel
theorem dL_errors_204 : decode cL_errors 204 = .ok (.ifCond .ne 216, 3) := by decide +kernel
theorem dL_errors_207 : decode cL_errors 207 = .ok (.aload_n 0, 1) := by decide +kernel
theorem dL_errors_208 : decode cL_errors 208 = .ok (.bipush 31, 2) := by decide +kernel
theorem dL_errors_210 : decode cL_errors 210 = .ok (.invokestatic 174, 3) := by decide +kernel
theorem dL_errors_213 : decode cL_errors 213 = .ok (.ldc2_w 21, 3) := by decide +kernel
theorem dL_errors_216 : decode cL_errors 216 = .ok (.lcmp, 1) := by decide +kernel
theorem dL_errors_217 : decode cL_errors 217 = .ok (.ifCond .ne 203, 3) := by decide +kernel
theorem dL_errors_220 : decode cL_errors 220 = .ok (.aload_n 0, 1) := by decide +kernel
theorem dL_errors_221 : decode cL_errors 221 = .ok (.bipush 127, 2) := by decide +kernel
theorem dL_errors_223 : decode cL_errors 223 = .ok (.invokestatic 176, 3) := by decide +kernel
theorem dL_errors_226 : decode cL_errors 226 = .ok (.ldc2_w 21, 3) := by decide +kernel
theorem dL_errors_229 : decode cL_errors 229 = .ok (.lcmp, 1) := by decide +kernel
theorem dL_errors_230 : decode cL_errors 230 = .ok (.ifCond .ne 190, 3) := by decide +kernel
theorem dL_errors_233 : decode cL_errors 233 = .ok (.aload_n 0, 1) := by decide +kernel
theorem dL_errors_234 : decode cL_errors 234 = .ok (.bipush 16, 2) := by decide +kernel
theorem dL_errors_236 : decode cL_errors 236 = .ok (.invokestatic 178, 3) := by decide +kernel
theorem dL_errors_239 : decode cL_errors 239 = .ok (.ldc2_w 17, 3) := by decide +kernel
theorem dL_errors_242 : decode cL_errors 242 = .ok (.lcmp, 1) := by decide +kernel
theorem dL_errors_243 : decode cL_errors 243 = .ok (.ifCond .ne 177, 3) := by decide +kernel
theorem dL_errors_246 : decode cL_errors 246 = .ok (.aload_n 0, 1) := by decide +kernel
theorem dL_errors_247 : decode cL_errors 247 = .ok (.iconst (-1), 1) := by decide +kernel
theorem dL_errors_248 : decode cL_errors 248 = .ok (.invokestatic 180, 3) := by decide +kernel
theorem dL_errors_251 : decode cL_errors 251 = .ok (.ldc2_w 17, 3) := by decide +kernel
theorem dL_errors_254 : decode cL_errors 254 = .ok (.lcmp, 1) := by decide +kernel
theorem dL_errors_255 : decode cL_errors 255 = .ok (.ifCond .ne 165, 3) := by decide +kernel
theorem dL_errors_258 : decode cL_errors 258 = .ok (.aload_n 0, 1) := by decide +kernel
theorem dL_errors_259 : decode cL_errors 259 = .ok (.bipush 16, 2) := by decide +kernel
theorem dL_errors_261 : decode cL_errors 261 = .ok (.invokestatic 182, 3) := by decide +kernel
theorem dL_errors_264 : decode cL_errors 264 = .ok (.ldc2_w 17, 3) := by decide +kernel
theorem dL_errors_267 : decode cL_errors 267 = .ok (.lcmp, 1) := by decide +kernel
theorem dL_errors_268 : decode cL_errors 268 = .ok (.ifCond .ne 152, 3) := by decide +kernel
theorem dL_errors_271 : decode cL_errors 271 = .ok (.aload_n 0, 1) := by decide +kernel
theorem dL_errors_272 : decode cL_errors 272 = .ok (.iconst 3, 1) := by decide +kernel
theorem dL_errors_273 : decode cL_errors 273 = .ok (.invokestatic 184, 3) := by decide +kernel
theorem dL_errors_276 : decode cL_errors 276 = .ok (.ldc2_w 17, 3) := by decide +kernel
theorem dL_errors_279 : decode cL_errors 279 = .ok (.lcmp, 1) := by decide +kernel
theorem dL_errors_280 : decode cL_errors 280 = .ok (.ifCond .ne 140, 3) := by decide +kernel
theorem dL_errors_283 : decode cL_errors 283 = .ok (.aload_n 0, 1) := by decide +kernel
theorem dL_errors_284 : decode cL_errors 284 = .ok (.iconst (-1), 1) := by decide +kernel
theorem dL_errors_285 : decode cL_errors 285 = .ok (.invokestatic 187, 3) := by decide +kernel
theorem dL_errors_288 : decode cL_errors 288 = .ok (.ldc2_w 17, 3) := by decide +kernel
theorem dL_errors_291 : decode cL_errors 291 = .ok (.lcmp, 1) := by decide +kernel
theorem dL_errors_292 : decode cL_errors 292 = .ok (.ifCond .ne 128, 3) := by decide +kernel
theorem dL_errors_295 : decode cL_errors 295 = .ok (.aload_n 0, 1) := by decide +kernel
theorem dL_errors_296 : decode cL_errors 296 = .ok (.iconst 3, 1) := by decide +kernel
theorem dL_errors_297 : decode cL_errors 297 = .ok (.invokestatic 189, 3) := by decide +kernel
theorem dL_errors_300 : decode cL_errors 300 = .ok (.ldc2_w 17, 3) := by decide +kernel
theorem dL_errors_303 : decode cL_errors 303 = .ok (.lcmp, 1) := by decide +kernel
theorem dL_errors_304 : decode cL_errors 304 = .ok (.ifCond .ne 116, 3) := by decide +kernel
theorem dL_errors_307 : decode cL_errors 307 = .ok (.aload_n 0, 1) := by decide +kernel
theorem dL_errors_308 : decode cL_errors 308 = .ok (.iconst 3, 1) := by decide +kernel
theorem dL_errors_309 : decode cL_errors 309 = .ok (.invokestatic 192, 3) := by decide +kernel
theorem dL_errors_312 : decode cL_errors 312 = .ok (.ldc2_w 17, 3) := by decide +kernel
theorem dL_errors_315 : decode cL_errors 315 = .ok (.lcmp, 1) := by decide +kernel
theorem dL_errors_316 : decode cL_errors 316 = .ok (.ifCond .ne 104, 3) := by decide +kernel
theorem dL_errors_319 : decode cL_errors 319 = .ok (.aload_n 0, 1) := by decide +kernel
theorem dL_errors_320 : decode cL_errors 320 = .ok (.iconst 0, 1) := by decide +kernel
theorem dL_errors_321 : decode cL_errors 321 = .ok (.iconst 4, 1) := by decide +kernel
theorem dL_errors_322 : decode cL_errors 322 = .ok (.invokestatic 194, 3) := by decide +kernel
theorem dL_errors_325 : decode cL_errors 325 = .ok (.ldc2_w 17, 3) := by decide +kernel
theorem dL_errors_328 : decode cL_errors 328 = .ok (.lcmp, 1) := by decide +kernel
theorem dL_errors_329 : decode cL_errors 329 = .ok (.ifCond .ne 91, 3) := by decide +kernel
theorem dL_errors_332 : decode cL_errors 332 = .ok (.aload_n 0, 1) := by decide +kernel
theorem dL_errors_333 : decode cL_errors 333 = .ok (.iconst 0, 1) := by decide +kernel
theorem dL_errors_334 : decode cL_errors 334 = .ok (.iconst 0, 1) := by decide +kernel
theorem dL_errors_335 : decode cL_errors 335 = .ok (.bipush 100, 2) := by decide +kernel
theorem dL_errors_337 : decode cL_errors 337 = .ok (.invokestatic 196, 3) := by decide +kernel
theorem dL_errors_340 : decode cL_errors 340 = .ok (.ldc2_w 21, 3) := by decide +kernel
theorem dL_errors_343 : decode cL_errors 343 = .ok (.lcmp, 1) := by decide +kernel
theorem dL_errors_344 : decode cL_errors 344 = .ok (.ifCond .ne 76, 3) := by decide +kernel
theorem dL_errors_347 : decode cL_errors 347 = .ok (.aload_n 0, 1) := by decide +kernel
theorem dL_errors_348 : decode cL_errors 348 = .ok (.iconst 0, 1) := by decide +kernel
theorem dL_errors_349 : decode cL_errors 349 = .ok (.iconst 0, 1) := by decide +kernel
theorem dL_errors_350 : decode cL_errors 350 = .ok (.bipush (-100), 2) := by decide +kernel
theorem dL_errors_352 : decode cL_errors 352 = .ok (.invokestatic 198, 3) := by decide +kernel
theorem dL_errors_355 : decode cL_errors 355 = .ok (.ldc2_w 21, 3) := by decide +kernel
theorem dL_errors_358 : decode cL_errors 358 = .ok (.lcmp, 1) := by decide +kernel
theorem dL_errors_359 : decode cL_errors 359 = .ok (.ifCond .ne 61, 3) := by decide +kernel
theorem dL_errors_362 : decode cL_errors 362 = .ok (.aload_n 0, 1) := by decide +kernel
theorem dL_errors_363 : decode cL_errors 363 = .ok (.iconst 3, 1) := by decide +kernel
theorem dL_errors_364 : decode cL_errors 364 = .ok (.invokestatic 201, 3) := by decide +kernel
theorem dL_errors_367 : decode cL_errors 367 = .ok (.ldc2_w 17, 3) := by decide +kernel
theorem dL_errors_370 : decode cL_errors 370 = .ok (.lcmp, 1) := by decide +kernel
theorem dL_errors_371 : decode cL_errors 371 = .ok (.ifCond .ne 49, 3) := by decide +kernel
theorem dL_errors_374 : decode cL_errors 374 = .ok (.aload_n 0, 1) := by decide +kernel
theorem dL_errors_375 : decode cL_errors 375 = .ok (.iconst (-1), 1) := by decide +kernel
theorem dL_errors_376 : decode cL_errors 376 = .ok (.invokestatic 203, 3) := by decide +kernel
theorem dL_errors_379 : decode cL_errors 379 = .ok (.ldc2_w 17, 3) := by decide +kernel
theorem dL_errors_382 : decode cL_errors 382 = .ok (.lcmp, 1) := by decide +kernel
theorem dL_errors_383 : decode cL_errors 383 = .ok (.ifCond .ne 37, 3) := by decide +kernel
theorem dL_errors_386 : decode cL_errors 386 = .ok (.aload_n 0, 1) := by decide +kernel
theorem dL_errors_387 : decode cL_errors 387 = .ok (.iconst 3, 1) := by decide +kernel
theorem dL_errors_388 : decode cL_errors 388 = .ok (.invokestatic 206, 3) := by decide +kernel
theorem dL_errors_391 : decode cL_errors 391 = .ok (.ldc2_w 17, 3) := by decide +kernel
theorem dL_errors_394 : decode cL_errors 394 = .ok (.lcmp, 1) := by decide +kernel
theorem dL_errors_395 : decode cL_errors 395 = .ok (.ifCond .ne 25, 3) := by decide +kernel
theorem dL_errors_398 : decode cL_errors 398 = .ok (.aload_n 0, 1) := by decide +kernel
theorem dL_errors_399 : decode cL_errors 399 = .ok (.invokevirtual 208, 3) := by decide +kernel
theorem dL_errors_402 : decode cL_errors 402 = .ok (.ifCond .ne 14, 3) := by decide +kernel
theorem dL_errors_405 : decode cL_errors 405 = .ok (.aload_n 0, 1) := by decide +kernel
theorem dL_errors_406 : decode cL_errors 406 = .ok (.invokestatic 212, 3) := by decide +kernel
theorem dL_errors_409 : decode cL_errors 409 = .ok (.ldc2_w 25, 3) := by decide +kernel
theorem dL_errors_412 : decode cL_errors 412 = .ok (.lcmp, 1) := by decide +kernel
theorem dL_errors_413 : decode cL_errors 413 = .ok (.ifCond .ne 7, 3) := by decide +kernel
theorem dL_errors_416 : decode cL_errors 416 = .ok (.iconst 1, 1) := by decide +kernel
theorem dL_errors_417 : decode cL_errors 417 = .ok (.goto 4, 3) := by decide +kernel
theorem dL_errors_420 : decode cL_errors 420 = .ok (.iconst 0, 1) := by decide +kernel
theorem dL_errors_421 : decode cL_errors 421 = .ok (.istore_n 3, 1) := by decide +kernel
theorem dL_errors_422 : decode cL_errors 422 = .ok (.iconst 0, 1) := by decide +kernel
theorem dL_errors_423 : decode cL_errors 423 = .ok (.istore 4, 2) := by decide +kernel
theorem dL_errors_425 : decode cL_errors 425 = .ok (.iload 4, 2) := by decide +kernel
theorem dL_errors_427 : decode cL_errors 427 = .ok (.bipush 16, 2) := by decide +kernel
theorem dL_errors_429 : decode cL_errors 429 = .ok (.if_icmp .ge 120, 3) := by decide +kernel
theorem dL_errors_432 : decode cL_errors 432 = .ok (.iload_n 3, 1) := by decide +kernel
theorem dL_errors_433 : decode cL_errors 433 = .ok (.ifCond .eq 116, 3) := by decide +kernel
theorem dL_errors_436 : decode cL_errors 436 = .ok (.aload_n 0, 1) := by decide +kernel
theorem dL_errors_437 : decode cL_errors 437 = .ok (.iload 4, 2) := by decide +kernel
theorem dL_errors_439 : decode cL_errors 439 = .ok (.invokestatic 178, 3) := by decide +kernel
theorem dL_errors_442 : decode cL_errors 442 = .ok (.lconst 1, 1) := by decide +kernel
theorem dL_errors_443 : decode cL_errors 443 = .ok (.lcmp, 1) := by decide +kernel
theorem dL_errors_444 : decode cL_errors 444 = .ok (.ifCond .ne 78, 3) := by decide +kernel
theorem dL_errors_447 : decode cL_errors 447 = .ok (.aload_n 0, 1) := by decide +kernel
theorem dL_errors_448 : decode cL_errors 448 = .ok (.iload 4, 2) := by decide +kernel
theorem dL_errors_450 : decode cL_errors 450 = .ok (.iconst 0, 1) := by decide +kernel
theorem dL_errors_451 : decode cL_errors 451 = .ok (.invokestatic 154, 3) := by decide +kernel
theorem dL_errors_454 : decode cL_errors 454 = .ok (.ldc2_w 25, 3) := by decide +kernel
theorem dL_errors_457 : decode cL_errors 457 = .ok (.lcmp, 1) := by decide +kernel
theorem dL_errors_458 : decode cL_errors 458 = .ok (.ifCond .ne 60, 3) := by decide +kernel
theorem dL_errors_461 : decode cL_errors 461 = .ok (.aload_n 0, 1) := by decide +kernel
theorem dL_errors_462 : decode cL_errors 462 = .ok (.iload 4, 2) := by decide +kernel
theorem dL_errors_464 : decode cL_errors 464 = .ok (.iconst 0, 1) := by decide +kernel
theorem dL_errors_465 : decode cL_errors 465 = .ok (.invokestatic 157, 3) := by decide +kernel
theorem dL_errors_468 : decode cL_errors 468 = .ok (.ldc2_w 25, 3) := by decide +kernel
theorem dL_errors_471 : decode cL_errors 471 = .ok (.lcmp, 1) := by decide +kernel
theorem dL_errors_472 : decode cL_errors 472 = .ok (.ifCond .ne 46, 3) := by decide +kernel
theorem dL_errors_475 : decode cL_errors 475 = .ok (.aload_n 0, 1) := by decide +kernel
theorem dL_errors_476 : decode cL_errors 476 = .ok (.iload 4, 2) := by decide +kernel
theorem dL_errors_478 : decode cL_errors 478 = .ok (.invokestatic 159, 3) := by decide +kernel
theorem dL_errors_481 : decode cL_errors 481 = .ok (.ldc2_w 25, 3) := by decide +kernel
theorem dL_errors_484 : decode cL_errors 484 = .ok (.lcmp, 1) := by decide +kernel
theorem dL_errors_485 : decode cL_errors 485 = .ok (.ifCond .ne 33, 3) := by decide +kernel
theorem dL_errors_488 : decode cL_errors 488 = .ok (.aload_n 0, 1) := by decide +kernel
theorem dL_errors_489 : decode cL_errors 489 = .ok (.iload 4, 2) := by decide +kernel
theorem dL_errors_491 : decode cL_errors 491 = .ok (.invokestatic 180, 3) := by decide +kernel
theorem dL_errors_494 : decode cL_errors 494 = .ok (.ldc2_w 25, 3) := by decide +kernel
theorem dL_errors_497 : decode cL_errors 497 = .ok (.lcmp, 1) := by decide +kernel
theorem dL_errors_498 : decode cL_errors 498 = .ok (.ifCond .ne 20, 3) := by decide +kernel
theorem dL_errors_501 : decode cL_errors 501 = .ok (.aload_n 0, 1) := by decide +kernel
theorem dL_errors_502 : decode cL_errors 502 = .ok (.iload 4, 2) := by decide +kernel
theorem dL_errors_504 : decode cL_errors 504 = .ok (.invokestatic 182, 3) := by decide +kernel
theorem dL_errors_507 : decode cL_errors 507 = .ok (.ldc2_w 25, 3) := by decide +kernel
theorem dL_errors_510 : decode cL_errors 510 = .ok (.lcmp, 1) := by decide +kernel
theorem dL_errors_511 : decode cL_errors 511 = .ok (.ifCond .ne 7, 3) := by decide +kernel
theorem dL_errors_514 : decode cL_errors 514 = .ok (.iconst 1, 1) := by decide +kernel
theorem dL_errors_515 : decode cL_errors 515 = .ok (.goto 27, 3) := by decide +kernel
theorem dL_errors_518 : decode cL_errors 518 = .ok (.iconst 0, 1) := by decide +kernel
theorem dL_errors_519 : decode cL_errors 519 = .ok (.goto 23, 3) := by decide +kernel
theorem dL_errors_522 : decode cL_errors 522 = .ok (.aload_n 0, 1) := by decide +kernel
theorem dL_errors_523 : decode cL_errors 523 = .ok (.iload 4, 2) := by decide +kernel
theorem dL_errors_525 : decode cL_errors 525 = .ok (.iconst 0, 1) := by decide +kernel
theorem dL_errors_526 : decode cL_errors 526 = .ok (.iconst 0, 1) := by decide +kernel
theorem dL_errors_527 : decode cL_errors 527 = .ok (.invokestatic 149, 3) := by decide +kernel
theorem dL_errors_530 : decode cL_errors 530 = .ok (.ldc2_w 25, 3) := by decide +kernel
theorem dL_errors_533 : decode cL_errors 533 = .ok (.lcmp, 1) := by decide +kernel
theorem dL_errors_534 : decode cL_errors 534 = .ok (.ifCond .ne 7, 3) := by decide +kernel
theorem dL_errors_537 : decode cL_errors 537 = .ok (.iconst 1, 1) := by decide +kernel
theorem dL_errors_538 : decode cL_errors 538 = .ok (.goto 4, 3) := by decide +kernel
theorem dL_errors_541 : decode cL_errors 541 = .ok (.iconst 0, 1) := by decide +kernel
theorem dL_errors_542 : decode cL_errors 542 = .ok (.istore_n 3, 1) := by decide +kernel
theorem dL_errors_543 : decode cL_errors 543 = .ok (.iinc 4 1, 3) := by decide +kernel
theorem dL_errors_546 : decode cL_errors 546 = .ok (.goto (-121), 3) := by decide +kernel
theorem dL_errors_549 : decode cL_errors 549 = .ok (.iconst 0, 1) := by decide +kernel
theorem dL_errors_550 : decode cL_errors 550 = .ok (.istore 4, 2) := by decide +kernel
theorem dL_errors_552 : decode cL_errors 552 = .ok (.iload 4, 2) := by decide +kernel
theorem dL_errors_554 : decode cL_errors 554 = .ok (.iconst 3, 1) := by decide +kernel
theorem dL_errors_555 : decode cL_errors 555 = .ok (.if_icmp .ge 175, 3) := by decide +kernel
theorem dL_errors_558 : decode cL_errors 558 = .ok (.iload_n 3, 1) := by decide +kernel
theorem dL_errors_559 : decode cL_errors 559 = .ok (.ifCond .eq 171, 3) := by decide +kernel
theorem dL_errors_562 : decode cL_errors 562 = .ok (.aload_n 0, 1) := by decide +kernel
theorem dL_errors_563 : decode cL_errors 563 = .ok (.iload 4, 2) := by decide +kernel
theorem dL_errors_565 : decode cL_errors 565 = .ok (.invokestatic 184, 3) := by decide +kernel
theorem dL_errors_568 : decode cL_errors 568 = .ok (.lconst 1, 1) := by decide +kernel
theorem dL_errors_569 : decode cL_errors 569 = .ok (.lcmp, 1) := by decide +kernel
theorem dL_errors_570 : decode cL_errors 570 = .ok (.ifCond .ne 24, 3) := by decide +kernel
theorem dL_errors_573 : decode cL_errors 573 = .ok (.aload_n 0, 1) := by decide +kernel
theorem dL_errors_574 : decode cL_errors 574 = .ok (.iload 4, 2) := by decide +kernel
theorem dL_errors_576 : decode cL_errors 576 = .ok (.invokestatic 162, 3) := by decide +kernel
theorem dL_errors_579 : decode cL_errors 579 = .ok (.ldc2_w 25, 3) := by decide +kernel
theorem dL_errors_582 : decode cL_errors 582 = .ok (.lcmp, 1) := by decide +kernel
theorem dL_errors_583 : decode cL_errors 583 = .ok (.ifCond .ne 7, 3) := by decide +kernel
theorem dL_errors_586 : decode cL_errors 586 = .ok (.iconst 1, 1) := by decide +kernel
theorem dL_errors_587 : decode cL_errors 587 = .ok (.goto 25, 3) := by decide +kernel
theorem dL_errors_590 : decode cL_errors 590 = .ok (.iconst 0, 1) := by decide +kernel
theorem dL_errors_591 : decode cL_errors 591 = .ok (.goto 21, 3) := by decide +kernel
theorem dL_errors_594 : decode cL_errors 594 = .ok (.aload_n 0, 1) := by decide +kernel
theorem dL_errors_595 : decode cL_errors 595 = .ok (.iload 4, 2) := by decide +kernel
theorem dL_errors_597 : decode cL_errors 597 = .ok (.invokestatic 164, 3) := by decide +kernel
theorem dL_errors_600 : decode cL_errors 600 = .ok (.ldc2_w 25, 3) := by decide +kernel
theorem dL_errors_603 : decode cL_errors 603 = .ok (.lcmp, 1) := by decide +kernel
theorem dL_errors_604 : decode cL_errors 604 = .ok (.ifCond .ne 7, 3) := by decide +kernel
theorem dL_errors_607 : decode cL_errors 607 = .ok (.iconst 1, 1) := by decide +kernel
theorem dL_errors_608 : decode cL_errors 608 = .ok (.goto 4, 3) := by decide +kernel
theorem dL_errors_611 : decode cL_errors 611 = .ok (.iconst 0, 1) := by decide +kernel
theorem dL_errors_612 : decode cL_errors 612 = .ok (.istore_n 3, 1) := by decide +kernel
theorem dL_errors_613 : decode cL_errors 613 = .ok (.iconst 0, 1) := by decide +kernel
theorem dL_errors_614 : decode cL_errors 614 = .ok (.istore 5, 2) := by decide +kernel
theorem dL_errors_616 : decode cL_errors 616 = .ok (.iload 5, 2) := by decide +kernel
theorem dL_errors_618 : decode cL_errors 618 = .ok (.iconst 4, 1) := by decide +kernel
theorem dL_errors_619 : decode cL_errors 619 = .ok (.if_icmp .ge 105, 3) := by decide +kernel
theorem dL_errors_622 : decode cL_errors 622 = .ok (.iload_n 3, 1) := by decide +kernel
theorem dL_errors_623 : decode cL_errors 623 = .ok (.ifCond .eq 101, 3) := by decide +kernel
theorem dL_errors_626 : decode cL_errors 626 = .ok (.aload_n 0, 1) := by decide +kernel
theorem dL_errors_627 : decode cL_errors 627 = .ok (.iload 4, 2) := by decide +kernel
theorem dL_errors_629 : decode cL_errors 629 = .ok (.iload 5, 2) := by decide +kernel
theorem dL_errors_631 : decode cL_errors 631 = .ok (.invokestatic 194, 3) := by decide +kernel
theorem dL_errors_634 : decode cL_errors 634 = .ok (.lconst 0, 1) := by decide +kernel
theorem dL_errors_635 : decode cL_errors 635 = .ok (.lcmp, 1) := by decide +kernel
theorem dL_errors_636 : decode cL_errors 636 = .ok (.ifCond .gt 48, 3) := by decide +kernel
theorem dL_errors_639 : decode cL_errors 639 = .ok (.aload_n 0, 1) := by decide +kernel
theorem dL_errors_640 : decode cL_errors 640 = .ok (.iload 4, 2) := by decide +kernel
theorem dL_errors_642 : decode cL_errors 642 = .ok (.iload 5, 2) := by decide +kernel
theorem dL_errors_644 : decode cL_errors 644 = .ok (.invokestatic 216, 3) := by decide +kernel
theorem dL_errors_647 : decode cL_errors 647 = .ok (.ldc2_w 25, 3) := by decide +kernel
theorem dL_errors_650 : decode cL_errors 650 = .ok (.lcmp, 1) := by decide +kernel
theorem dL_errors_651 : decode cL_errors 651 = .ok (.ifCond .ne 65, 3) := by decide +kernel
theorem dL_errors_654 : decode cL_errors 654 = .ok (.aload_n 0, 1) := by decide +kernel
theorem dL_errors_655 : decode cL_errors 655 = .ok (.iload 4, 2) := by decide +kernel
theorem dL_errors_657 : decode cL_errors 657 = .ok (.iload 5, 2) := by decide +kernel
theorem dL_errors_659 : decode cL_errors 659 = .ok (.invokestatic 218, 3) := by decide +kernel
theorem dL_errors_662 : decode cL_errors 662 = .ok (.ldc2_w 25, 3) := by decide +kernel
theorem dL_errors_665 : decode cL_errors 665 = .ok (.lcmp, 1) := by decide +kernel
theorem dL_errors_666 : decode cL_errors 666 = .ok (.ifCond .ne 50, 3) := by decide +kernel
theorem dL_errors_669 : decode cL_errors 669 = .ok (.aload_n 0, 1) := by decide +kernel
theorem dL_errors_670 : decode cL_errors 670 = .ok (.iload 4, 2) := by decide +kernel
theorem dL_errors_672 : decode cL_errors 672 = .ok (.iload 5, 2) := by decide +kernel
theorem dL_errors_674 : decode cL_errors 674 = .ok (.invokestatic 220, 3) := by decide +kernel
theorem dL_errors_677 : decode cL_errors 677 = .ok (.ldc2_w 25, 3) := by decide +kernel
theorem dL_errors_680 : decode cL_errors 680 = .ok (.lcmp, 1) := by decide +kernel
theorem dL_errors_681 : decode cL_errors 681 = .ok (.ifCond .ne 35, 3) := by decide +kernel
theorem dL_errors_684 : decode cL_errors 684 = .ok (.aload_n 0, 1) := by decide +kernel
theorem dL_errors_685 : decode cL_errors 685 = .ok (.iload 4, 2) := by decide +kernel
theorem dL_errors_687 : decode cL_errors 687 = .ok (.iload 5, 2) := by decide +kernel
theorem dL_errors_689 : decode cL_errors 689 = .ok (.invokestatic 222, 3) := by decide +kernel
theorem dL_errors_692 : decode cL_errors 692 = .ok (.lconst 0, 1) := by decide +kernel
theorem dL_errors_693 : decode cL_errors 693 = .ok (.lcmp, 1) := by decide +kernel
theorem dL_errors_694 : decode cL_errors 694 = .ok (.ifCond .gt 18, 3) := by decide +kernel
theorem dL_errors_697 : decode cL_errors 697 = .ok (.aload_n 0, 1) := by decide +kernel
theorem dL_errors_698 : decode cL_errors 698 = .ok (.iload 4, 2) := by decide +kernel
theorem dL_errors_700 : decode cL_errors 700 = .ok (.iload 5, 2) := by decide +kernel
theorem dL_errors_702 : decode cL_errors 702 = .ok (.invokestatic 225, 3) := by decide +kernel
theorem dL_errors_705 : decode cL_errors 705 = .ok (.ldc2_w 25, 3) := by decide +kernel
theorem dL_errors_708 : decode cL_errors 708 = .ok (.lcmp, 1) := by decide +kernel
theorem dL_errors_709 : decode cL_errors 709 = .ok (.ifCond .ne 7, 3) := by decide +kernel
theorem dL_errors_712 : decode cL_errors 712 = .ok (.iconst 1, 1) := by decide +kernel
theorem dL_errors_713 : decode cL_errors 713 = .ok (.goto 4, 3) := by decide +kernel
theorem dL_errors_716 : decode cL_errors 716 = .ok (.iconst 0, 1) := by decide +kernel
theorem dL_errors_717 : decode cL_errors 717 = .ok (.istore_n 3, 1) := by decide +kernel
theorem dL_errors_718 : decode cL_errors 718 = .ok (.iinc 5 1, 3) := by decide +kernel
theorem dL_errors_721 : decode cL_errors 721 = .ok (.goto (-105), 3) := by decide +kernel
theorem dL_errors_724 : decode cL_errors 724 = .ok (.iinc 4 1, 3) := by decide +kernel
theorem dL_errors_727 : decode cL_errors 727 = .ok (.goto (-175), 3) := by decide +kernel
theorem dL_errors_730 : decode cL_errors 730 = .ok (.iload_n 3, 1) := by decide +kernel
theorem dL_errors_731 : decode cL_errors 731 = .ok (.ifCond .eq 16, 3) := by decide +kernel
theorem dL_errors_734 : decode cL_errors 734 = .ok (.aload_n 0, 1) := by decide +kernel
theorem dL_errors_735 : decode cL_errors 735 = .ok (.invokevirtual 145, 3) := by decide +kernel
theorem dL_errors_738 : decode cL_errors 738 = .ok (.lload_n 1, 1) := by decide +kernel
theorem dL_errors_739 : decode cL_errors 739 = .ok (.lcmp, 1) := by decide +kernel
theorem dL_errors_740 : decode cL_errors 740 = .ok (.ifCond .ne 7, 3) := by decide +kernel
theorem dL_errors_743 : decode cL_errors 743 = .ok (.iconst 1, 1) := by decide +kernel
theorem dL_errors_744 : decode cL_errors 744 = .ok (.goto 4, 3) := by decide +kernel
theorem dL_errors_747 : decode cL_errors 747 = .ok (.iconst 0, 1) := by decide +kernel
theorem dL_errors_748 : decode cL_errors 748 = .ok (.ireturn, 1) := by decide +kernel
theorem dL_kept_0 : decode cL_kept 0 = .ok (.aload_n 0, 1) := by decide +kernel
theorem dL_kept_1 : decode cL_kept 1 = .ok (.invokevirtual 228, 3) := by decide +kernel
theorem dL_kept_4 : decode cL_kept 4 = .ok (.i2l, 1) := by decide +kernel
theorem dL_kept_5 : decode cL_kept 5 = .ok (.lconst 0, 1) := by decide +kernel
theorem dL_kept_6 : decode cL_kept 6 = .ok (.ldc2_w 231, 3) := by decide +kernel
theorem dL_kept_9 : decode cL_kept 9 = .ok (.invokestatic 233, 3) := by decide +kernel
theorem dL_kept_12 : decode cL_kept 12 = .ok (.ifCond .eq 33, 3) := by decide +kernel
theorem dL_kept_15 : decode cL_kept 15 = .ok (.aload_n 0, 1) := by decide +kernel
theorem dL_kept_16 : decode cL_kept 16 = .ok (.invokevirtual 237, 3) := by decide +kernel
theorem dL_kept_19 : decode cL_kept 19 = .ok (.aload_n 0, 1) := by decide +kernel
theorem dL_kept_20 : decode cL_kept 20 = .ok (.invokevirtual 240, 3) := by decide +kernel
theorem dL_kept_23 : decode cL_kept 23 = .ok (.if_icmp .gt 22, 3) := by decide +kernel
theorem dL_kept_26 : decode cL_kept 26 = .ok (.aload_n 0, 1) := by decide +kernel
theorem dL_kept_27 : decode cL_kept 27 = .ok (.invokevirtual 243, 3) := by decide +kernel
theorem dL_kept_30 : decode cL_kept 30 = .ok (.i2l, 1) := by decide +kernel
theorem dL_kept_31 : decode cL_kept 31 = .ok (.lconst 0, 1) := by decide +kernel
theorem dL_kept_32 : decode cL_kept 32 = .ok (.ldc2_w 246, 3) := by decide +kernel
theorem dL_kept_35 : decode cL_kept 35 = .ok (.invokestatic 233, 3) := by decide +kernel
theorem dL_kept_38 : decode cL_kept 38 = .ok (.ifCond .eq 7, 3) := by decide +kernel
theorem dL_kept_41 : decode cL_kept 41 = .ok (.iconst 1, 1) := by decide +kernel
theorem dL_kept_42 : decode cL_kept 42 = .ok (.goto 4, 3) := by decide +kernel
theorem dL_kept_45 : decode cL_kept 45 = .ok (.iconst 0, 1) := by decide +kernel
theorem dL_kept_46 : decode cL_kept 46 = .ok (.istore_n 1, 1) := by decide +kernel
theorem dL_kept_47 : decode cL_kept 47 = .ok (.lconst 0, 1) := by decide +kernel
theorem dL_kept_48 : decode cL_kept 48 = .ok (.lstore_n 2, 1) := by decide +kernel
theorem dL_kept_49 : decode cL_kept 49 = .ok (.iconst 0, 1) := by decide +kernel
theorem dL_kept_50 : decode cL_kept 50 = .ok (.istore 4, 2) := by decide +kernel
theorem dL_kept_52 : decode cL_kept 52 = .ok (.iload 4, 2) := by decide +kernel
theorem dL_kept_54 : decode cL_kept 54 = .ok (.iconst 3, 1) := by decide +kernel
theorem dL_kept_55 : decode cL_kept 55 = .ok (.if_icmp .ge 743, 3) := by decide +kernel
theorem dL_kept_58 : decode cL_kept 58 = .ok (.iload_n 1, 1) := by decide +kernel
theorem dL_kept_59 : decode cL_kept 59 = .ok (.ifCond .eq 739, 3) := by decide +kernel
theorem dL_kept_62 : decode cL_kept 62 = .ok (.aload_n 0, 1) := by decide +kernel
theorem dL_kept_63 : decode cL_kept 63 = .ok (.iload 4, 2) := by decide +kernel
theorem dL_kept_65 : decode cL_kept 65 = .ok (.invokestatic 184, 3) := by decide +kernel
theorem dL_kept_68 : decode cL_kept 68 = .ok (.lconst 1, 1) := by decide +kernel
theorem dL_kept_69 : decode cL_kept 69 = .ok (.lcmp, 1) := by decide +kernel
theorem dL_kept_70 : decode cL_kept 70 = .ok (.ifCond .ne 7, 3) := by decide +kernel
theorem dL_kept_73 : decode cL_kept 73 = .ok (.iconst 1, 1) := by decide +kernel
theorem dL_kept_74 : decode cL_kept 74 = .ok (.goto 4, 3) := by decide +kernel
theorem dL_kept_77 : decode cL_kept 77 = .ok (.iconst 0, 1) := by decide +kernel
theorem dL_kept_78 : decode cL_kept 78 = .ok (.istore 5, 2) := by decide +kernel
theorem dL_kept_80 : decode cL_kept 80 = .ok (.lconst 0, 1) := by decide +kernel
theorem dL_kept_81 : decode cL_kept 81 = .ok (.lstore 6, 2) := by decide +kernel
theorem dL_kept_83 : decode cL_kept 83 = .ok (.aload_n 0, 1) := by decide +kernel
theorem dL_kept_84 : decode cL_kept 84 = .ok (.iload 4, 2) := by decide +kernel
theorem dL_kept_86 : decode cL_kept 86 = .ok (.invokestatic 187, 3) := by decide +kernel
theorem dL_kept_89 : decode cL_kept 89 = .ok (.aload_n 0, 1) := by decide +kernel
theorem dL_kept_90 : decode cL_kept 90 = .ok (.iload 4, 2) := by decide +kernel
theorem dL_kept_92 : decode cL_kept 92 = .ok (.invokestatic 189, 3) := by decide +kernel
theorem dL_kept_95 : decode cL_kept 95 = .ok (.lcmp, 1) := by decide +kernel
theorem dL_kept_96 : decode cL_kept 96 = .ok (.ifCond .ne 155, 3) := by decide +kernel
theorem dL_kept_99 : decode cL_kept 99 = .ok (.aload_n 0, 1) := by decide +kernel
theorem dL_kept_100 : decode cL_kept 100 = .ok (.iload 4, 2) := by decide +kernel
theorem dL_kept_102 : decode cL_kept 102 = .ok (.invokestatic 187, 3) := by decide +kernel
theorem dL_kept_105 : decode cL_kept 105 = .ok (.aload_n 0, 1) := by decide +kernel
theorem dL_kept_106 : decode cL_kept 106 = .ok (.invokevirtual 248, 3) := by decide +kernel
theorem dL_kept_109 : decode cL_kept 109 = .ok (.i2l, 1) := by decide +kernel
theorem dL_kept_110 : decode cL_kept 110 = .ok (.lcmp, 1) := by decide +kernel
theorem dL_kept_111 : decode cL_kept 111 = .ok (.ifCond .gt 140, 3) := by decide +kernel
theorem dL_kept_114 : decode cL_kept 114 = .ok (.aload_n 0, 1) := by decide +kernel
theorem dL_kept_115 : decode cL_kept 115 = .ok (.iload 4, 2) := by decide +kernel
theorem dL_kept_117 : decode cL_kept 117 = .ok (.invokestatic 192, 3) := by decide +kernel
theorem dL_kept_120 : decode cL_kept 120 = .ok (.lconst 0, 1) := by decide +kernel
theorem dL_kept_121 : decode cL_kept 121 = .ok (.aload_n 0, 1) := by decide +kernel
theorem dL_kept_122 : decode cL_kept 122 = .ok (.iload 4, 2) := by decide +kernel
theorem dL_kept_124 : decode cL_kept 124 = .ok (.invokestatic 187, 3) := by decide +kernel
theorem dL_kept_127 : decode cL_kept 127 = .ok (.l2i, 1) := by decide +kernel
theorem dL_kept_128 : decode cL_kept 128 = .ok (.i2l, 1) := by decide +kernel
theorem dL_kept_129 : decode cL_kept 129 = .ok (.invokestatic 233, 3) := by decide +kernel
theorem dL_kept_132 : decode cL_kept 132 = .ok (.ifCond .eq 119, 3) := by decide +kernel
theorem dL_kept_135 : decode cL_kept 135 = .ok (.iload 5, 2) := by decide +kernel
theorem dL_kept_137 : decode cL_kept 137 = .ok (.ifCond .eq 33, 3) := by decide +kernel
theorem dL_kept_140 : decode cL_kept 140 = .ok (.aload_n 0, 1) := by decide +kernel
theorem dL_kept_141 : decode cL_kept 141 = .ok (.iload 4, 2) := by decide +kernel
theorem dL_kept_143 : decode cL_kept 143 = .ok (.invokestatic 206, 3) := by decide +kernel
theorem dL_kept_146 : decode cL_kept 146 = .ok (.lconst 1, 1) := by decide +kernel
theorem dL_kept_147 : decode cL_kept 147 = .ok (.lcmp, 1) := by decide +kernel
theorem dL_kept_148 : decode cL_kept 148 = .ok (.ifCond .lt 103, 3) := by decide +kernel
theorem dL_kept_151 : decode cL_kept 151 = .ok (.aload_n 0, 1) := by decide +kernel
theorem dL_kept_152 : decode cL_kept 152 = .ok (.iload 4, 2) := by decide +kernel
theorem dL_kept_154 : decode cL_kept 154 = .ok (.invokestatic 187, 3) := by decide +kernel
theorem dL_kept_157 : decode cL_kept 157 = .ok (.lconst 0, 1) := by decide +kernel
theorem dL_kept_158 : decode cL_kept 158 = .ok (.ldc2_w 251, 3) := by decide +kernel
theorem dL_kept_161 : decode cL_kept 161 = .ok (.invokestatic 233, 3) := by decide +kernel
theorem dL_kept_164 : decode cL_kept 164 = .ok (.ifCond .eq 87, 3) := by decide +kernel
theorem dL_kept_167 : decode cL_kept 167 = .ok (.goto 47, 3) := by decide +kernel
theorem dL_kept_170 : decode cL_kept 170 = .ok (.aload_n 0, 1) := by decide +kernel
theorem dL_kept_171 : decode cL_kept 171 = .ok (.iload 4, 2) := by decide +kernel
theorem dL_kept_173 : decode cL_kept 173 = .ok (.invokestatic 187, 3) := by decide +kernel
theorem dL_kept_176 : decode cL_kept 176 = .ok (.lconst 0, 1) := by decide +kernel
theorem dL_kept_177 : decode cL_kept 177 = .ok (.lcmp, 1) := by decide +kernel
theorem dL_kept_178 : decode cL_kept 178 = .ok (.ifCond .ne 73, 3) := by decide +kernel
theorem dL_kept_181 : decode cL_kept 181 = .ok (.aload_n 0, 1) := by decide +kernel
theorem dL_kept_182 : decode cL_kept 182 = .ok (.iload 4, 2) := by decide +kernel
theorem dL_kept_184 : decode cL_kept 184 = .ok (.invokestatic 253, 3) := by decide +kernel
theorem dL_kept_187 : decode cL_kept 187 = .ok (.lconst 0, 1) := by decide +kernel
theorem dL_kept_188 : decode cL_kept 188 = .ok (.lcmp, 1) := by decide +kernel
theorem dL_kept_189 : decode cL_kept 189 = .ok (.ifCond .ne 62, 3) := by decide +kernel
theorem dL_kept_192 : decode cL_kept 192 = .ok (.aload_n 0, 1) := by decide +kernel
theorem dL_kept_193 : decode cL_kept 193 = .ok (.iload 4, 2) := by decide +kernel
theorem dL_kept_195 : decode cL_kept 195 = .ok (.invokestatic 201, 3) := by decide +kernel
theorem dL_kept_198 : decode cL_kept 198 = .ok (.lconst 0, 1) := by decide +kernel
theorem dL_kept_199 : decode cL_kept 199 = .ok (.lcmp, 1) := by decide +kernel
theorem dL_kept_200 : decode cL_kept 200 = .ok (.ifCond .ne 51, 3) := by decide +kernel
theorem dL_kept_203 : decode cL_kept 203 = .ok (.aload_n 0, 1) := by decide +kernel
theorem dL_kept_204 : decode cL_kept 204 = .ok (.iload 4, 2) := by decide +kernel
theorem dL_kept_206 : decode cL_kept 206 = .ok (.invokestatic 206, 3) := by decide +kernel
theorem dL_kept_209 : decode cL_kept 209 = .ok (.lconst 0, 1) := by decide +kernel
theorem dL_kept_210 : decode cL_kept 210 = .ok (.lcmp, 1) := by decide +kernel
theorem dL_kept_211 : decode cL_kept 211 = .ok (.ifCond .ne 40, 3) := by decide +kernel
theorem dL_kept_214 : decode cL_kept 214 = .ok (.aload_n 0, 1) := by decide +kernel
theorem dL_kept_215 : decode cL_kept 215 = .ok (.iload 4, 2) := by decide +kernel
theorem dL_kept_217 : decode cL_kept 217 = .ok (.invokestatic 203, 3) := by decide +kernel
theorem dL_kept_220 : decode cL_kept 220 = .ok (.lconst 0, 1) := by decide +kernel
theorem dL_kept_221 : decode cL_kept 221 = .ok (.lcmp, 1) := by decide +kernel
theorem dL_kept_222 : decode cL_kept 222 = .ok (.ifCond .ne 29, 3) := by decide +kernel
theorem dL_kept_225 : decode cL_kept 225 = .ok (.aload_n 0, 1) := by decide +kernel
theorem dL_kept_226 : decode cL_kept 226 = .ok (.iload 4, 2) := by decide +kernel
theorem dL_kept_228 : decode cL_kept 228 = .ok (.invokestatic 192, 3) := by decide +kernel
theorem dL_kept_231 : decode cL_kept 231 = .ok (.lconst 0, 1) := by decide +kernel
theorem dL_kept_232 : decode cL_kept 232 = .ok (.lcmp, 1) := by decide +kernel
theorem dL_kept_233 : decode cL_kept 233 = .ok (.ifCond .gt 14, 3) := by decide +kernel
theorem dL_kept_236 : decode cL_kept 236 = .ok (.aload_n 0, 1) := by decide +kernel
theorem dL_kept_237 : decode cL_kept 237 = .ok (.iload 4, 2) := by decide +kernel
theorem dL_kept_239 : decode cL_kept 239 = .ok (.invokestatic 201, 3) := by decide +kernel
theorem dL_kept_242 : decode cL_kept 242 = .ok (.lconst 0, 1) := by decide +kernel
theorem dL_kept_243 : decode cL_kept 243 = .ok (.lcmp, 1) := by decide +kernel
theorem dL_kept_244 : decode cL_kept 244 = .ok (.ifCond .ne 7, 3) := by decide +kernel
theorem dL_kept_247 : decode cL_kept 247 = .ok (.iconst 1, 1) := by decide +kernel
theorem dL_kept_248 : decode cL_kept 248 = .ok (.goto 4, 3) := by decide +kernel
theorem dL_kept_251 : decode cL_kept 251 = .ok (.iconst 0, 1) := by decide +kernel
theorem dL_kept_252 : decode cL_kept 252 = .ok (.istore_n 1, 1) := by decide +kernel
theorem dL_kept_253 : decode cL_kept 253 = .ok (.aload_n 0, 1) := by decide +kernel
theorem dL_kept_254 : decode cL_kept 254 = .ok (.iload 4, 2) := by decide +kernel
theorem dL_kept_256 : decode cL_kept 256 = .ok (.invokestatic 187, 3) := by decide +kernel
theorem dL_kept_259 : decode cL_kept 259 = .ok (.lload_n 2, 1) := by decide +kernel
theorem dL_kept_260 : decode cL_kept 260 = .ok (.lcmp, 1) := by decide +kernel
theorem dL_kept_261 : decode cL_kept 261 = .ok (.ifCond .le 12, 3) := by decide +kernel
theorem dL_kept_264 : decode cL_kept 264 = .ok (.aload_n 0, 1) := by decide +kernel
theorem dL_kept_265 : decode cL_kept 265 = .ok (.iload 4, 2) := by decide +kernel
theorem dL_kept_267 : decode cL_kept 267 = .ok (.invokestatic 187, 3) := by decide +kernel
theorem dL_kept_270 : decode cL_kept 270 = .ok (.goto 4, 3) := by decide +kernel
theorem dL_kept_273 : decode cL_kept 273 = .ok (.lload_n 2, 1) := by decide +kernel
theorem dL_kept_274 : decode cL_kept 274 = .ok (.lstore_n 2, 1) := by decide +kernel
theorem dL_kept_275 : decode cL_kept 275 = .ok (.iconst 0, 1) := by decide +kernel
theorem dL_kept_276 : decode cL_kept 276 = .ok (.istore 8, 2) := by decide +kernel
theorem dL_kept_278 : decode cL_kept 278 = .ok (.iload 8, 2) := by decide +kernel
theorem dL_kept_280 : decode cL_kept 280 = .ok (.iconst 4, 1) := by decide +kernel
theorem dL_kept_281 : decode cL_kept 281 = .ok (.if_icmp .ge 492, 3) := by decide +kernel
theorem dL_kept_284 : decode cL_kept 284 = .ok (.iload_n 1, 1) := by decide +kernel
theorem dL_kept_285 : decode cL_kept 285 = .ok (.ifCond .eq 488, 3) := by decide +kernel
theorem dL_kept_288 : decode cL_kept 288 = .ok (.aload_n 0, 1) := by decide +kernel
theorem dL_kept_289 : decode cL_kept 289 = .ok (.iload 4, 2) := by decide +kernel
theorem dL_kept_291 : decode cL_kept 291 = .ok (.iload 8, 2) := by decide +kernel
theorem dL_kept_293 : decode cL_kept 293 = .ok (.invokestatic 194, 3) := by decide +kernel
theorem dL_kept_296 : decode cL_kept 296 = .ok (.lstore 9, 2) := by decide +kernel
theorem dL_kept_298 : decode cL_kept 298 = .ok (.iconst 0, 1) := by decide +kernel
theorem dL_kept_299 : decode cL_kept 299 = .ok (.istore 11, 2) := by decide +kernel
theorem dL_kept_301 : decode cL_kept 301 = .ok (.iconst 0, 1) := by decide +kernel
theorem dL_kept_302 : decode cL_kept 302 = .ok (.istore 12, 2) := by decide +kernel
theorem dL_kept_304 : decode cL_kept 304 = .ok (.iload 12, 2) := by decide +kernel
theorem dL_kept_306 : decode cL_kept 306 = .ok (.bipush 16, 2) := by decide +kernel
theorem dL_kept_308 : decode cL_kept 308 = .ok (.if_icmp .ge 59, 3) := by decide +kernel
theorem dL_kept_311 : decode cL_kept 311 = .ok (.iload 11, 2) := by decide +kernel
theorem dL_kept_313 : decode cL_kept 313 = .ok (.aload_n 0, 1) := by decide +kernel
theorem dL_kept_314 : decode cL_kept 314 = .ok (.iload 12, 2) := by decide +kernel
theorem dL_kept_316 : decode cL_kept 316 = .ok (.invokestatic 178, 3) := by decide +kernel
theorem dL_kept_319 : decode cL_kept 319 = .ok (.lconst 0, 1) := by decide +kernel
theorem dL_kept_320 : decode cL_kept 320 = .ok (.lcmp, 1) := by decide +kernel
theorem dL_kept_321 : decode cL_kept 321 = .ok (.ifCond .ne 36, 3) := by decide +kernel
theorem dL_kept_324 : decode cL_kept 324 = .ok (.aload_n 0, 1) := by decide +kernel
theorem dL_kept_325 : decode cL_kept 325 = .ok (.iload 12, 2) := by decide +kernel
theorem dL_kept_327 : decode cL_kept 327 = .ok (.invokestatic 180, 3) := by decide +kernel
theorem dL_kept_330 : decode cL_kept 330 = .ok (.iload 8, 2) := by decide +kernel
theorem dL_kept_332 : decode cL_kept 332 = .ok (.i2l, 1) := by decide +kernel
theorem dL_kept_333 : decode cL_kept 333 = .ok (.lcmp, 1) := by decide +kernel
theorem dL_kept_334 : decode cL_kept 334 = .ok (.ifCond .ne 23, 3) := by decide +kernel
theorem dL_kept_337 : decode cL_kept 337 = .ok (.aload_n 0, 1) := by decide +kernel
theorem dL_kept_338 : decode cL_kept 338 = .ok (.iload 12, 2) := by decide +kernel
theorem dL_kept_340 : decode cL_kept 340 = .ok (.invokestatic 182, 3) := by decide +kernel
theorem dL_kept_343 : decode cL_kept 343 = .ok (.aload_n 0, 1) := by decide +kernel
theorem dL_kept_344 : decode cL_kept 344 = .ok (.iload 4, 2) := by decide +kernel
theorem dL_kept_346 : decode cL_kept 346 = .ok (.invokestatic 255, 3) := by decide +kernel
theorem dL_kept_349 : decode cL_kept 349 = .ok (.lcmp, 1) := by decide +kernel
theorem dL_kept_350 : decode cL_kept 350 = .ok (.ifCond .lt 7, 3) := by decide +kernel
theorem dL_kept_353 : decode cL_kept 353 = .ok (.iconst 1, 1) := by decide +kernel
theorem dL_kept_354 : decode cL_kept 354 = .ok (.goto 4, 3) := by decide +kernel
theorem dL_kept_357 : decode cL_kept 357 = .ok (.iconst 0, 1) := by decide +kernel
theorem dL_kept_358 : decode cL_kept 358 = .ok (.iadd, 1) := by decide +kernel
theorem dL_kept_359 : decode cL_kept 359 = .ok (.istore 11, 2) := by decide +kernel
theorem dL_kept_361 : decode cL_kept 361 = .ok (.iinc 12 1, 3) := by decide +kernel
theorem dL_kept_364 : decode cL_kept 364 = .ok (.goto (-60), 3) := by decide +kernel
theorem dL_kept_367 : decode cL_kept 367 = .ok (.lload 6, 2) := by decide +kernel
theorem dL_kept_369 : decode cL_kept 369 = .ok (.lload 9, 2) := by decide +kernel
theorem dL_kept_371 : decode cL_kept 371 = .ok (.ladd, 1) := by decide +kernel
theorem dL_kept_372 : decode cL_kept 372 = .ok (.lstore 6, 2) := by decide +kernel
theorem dL_kept_374 : decode cL_kept 374 = .ok (.aload_n 0, 1) := by decide +kernel
theorem dL_kept_375 : decode cL_kept 375 = .ok (.iload 4, 2) := by decide +kernel
theorem dL_kept_377 : decode cL_kept 377 = .ok (.iload 8, 2) := by decide +kernel
theorem dL_kept_379 : decode cL_kept 379 = .ok (.invokestatic 222, 3) := by decide +kernel
theorem dL_kept_382 : decode cL_kept 382 = .ok (.iload 11, 2) := by decide +kernel
theorem dL_kept_384 : decode cL_kept 384 = .ok (.i2l, 1) := by decide +kernel
theorem dL_kept_385 : decode cL_kept 385 = .ok (.lcmp, 1) := by decide +kernel
theorem dL_kept_386 : decode cL_kept 386 = .ok (.ifCond .ne 72, 3) := by decide +kernel
theorem dL_kept_389 : decode cL_kept 389 = .ok (.aload_n 0, 1) := by decide +kernel
theorem dL_kept_390 : decode cL_kept 390 = .ok (.iload 4, 2) := by decide +kernel
theorem dL_kept_392 : decode cL_kept 392 = .ok (.iload 8, 2) := by decide +kernel
theorem dL_kept_394 : decode cL_kept 394 = .ok (.invokestatic 257, 3) := by decide +kernel
theorem dL_kept_397 : decode cL_kept 397 = .ok (.lload 9, 2) := by decide +kernel
theorem dL_kept_399 : decode cL_kept 399 = .ok (.lconst 0, 1) := by decide +kernel
theorem dL_kept_400 : decode cL_kept 400 = .ok (.lcmp, 1) := by decide +kernel
theorem dL_kept_401 : decode cL_kept 401 = .ok (.ifCond .ne 7, 3) := by decide +kernel
theorem dL_kept_404 : decode cL_kept 404 = .ok (.lconst 0, 1) := by decide +kernel
theorem dL_kept_405 : decode cL_kept 405 = .ok (.goto 4, 3) := by decide +kernel
theorem dL_kept_408 : decode cL_kept 408 = .ok (.lconst 1, 1) := by decide +kernel
theorem dL_kept_409 : decode cL_kept 409 = .ok (.lload 9, 2) := by decide +kernel
theorem dL_kept_411 : decode cL_kept 411 = .ok (.l2i, 1) := by decide +kernel
theorem dL_kept_412 : decode cL_kept 412 = .ok (.i2l, 1) := by decide +kernel
theorem dL_kept_413 : decode cL_kept 413 = .ok (.invokestatic 233, 3) := by decide +kernel
theorem dL_kept_416 : decode cL_kept 416 = .ok (.ifCond .eq 42, 3) := by decide +kernel
theorem dL_kept_419 : decode cL_kept 419 = .ok (.aload_n 0, 1) := by decide +kernel
theorem dL_kept_420 : decode cL_kept 420 = .ok (.iload 4, 2) := by decide +kernel
theorem dL_kept_422 : decode cL_kept 422 = .ok (.iload 8, 2) := by decide +kernel
theorem dL_kept_424 : decode cL_kept 424 = .ok (.bipush (-99), 2) := by decide +kernel
theorem dL_kept_426 : decode cL_kept 426 = .ok (.invokestatic 196, 3) := by decide +kernel
theorem dL_kept_429 : decode cL_kept 429 = .ok (.lconst 0, 1) := by decide +kernel
theorem dL_kept_430 : decode cL_kept 430 = .ok (.lcmp, 1) := by decide +kernel
theorem dL_kept_431 : decode cL_kept 431 = .ok (.ifCond .ne 27, 3) := by decide +kernel
theorem dL_kept_434 : decode cL_kept 434 = .ok (.lload 9, 2) := by decide +kernel
theorem dL_kept_436 : decode cL_kept 436 = .ok (.lconst 0, 1) := by decide +kernel
theorem dL_kept_437 : decode cL_kept 437 = .ok (.lcmp, 1) := by decide +kernel
theorem dL_kept_438 : decode cL_kept 438 = .ok (.ifCond .gt 16, 3) := by decide +kernel
theorem dL_kept_441 : decode cL_kept 441 = .ok (.aload_n 0, 1) := by decide +kernel
theorem dL_kept_442 : decode cL_kept 442 = .ok (.iload 4, 2) := by decide +kernel
theorem dL_kept_444 : decode cL_kept 444 = .ok (.iload 8, 2) := by decide +kernel
theorem dL_kept_446 : decode cL_kept 446 = .ok (.invokestatic 259, 3) := by decide +kernel
theorem dL_kept_449 : decode cL_kept 449 = .ok (.lconst 0, 1) := by decide +kernel
theorem dL_kept_450 : decode cL_kept 450 = .ok (.lcmp, 1) := by decide +kernel
theorem dL_kept_451 : decode cL_kept 451 = .ok (.ifCond .ne 7, 3) := by decide +kernel
theorem dL_kept_454 : decode cL_kept 454 = .ok (.iconst 1, 1) := by decide +kernel
theorem dL_kept_455 : decode cL_kept 455 = .ok (.goto 4, 3) := by decide +kernel
theorem dL_kept_458 : decode cL_kept 458 = .ok (.iconst 0, 1) := by decide +kernel
theorem dL_kept_459 : decode cL_kept 459 = .ok (.istore_n 1, 1) := by decide +kernel
theorem dL_kept_460 : decode cL_kept 460 = .ok (.iload_n 1, 1) := by decide +kernel
theorem dL_kept_461 : decode cL_kept 461 = .ok (.ifCond .eq 219, 3) := by decide +kernel
theorem dL_kept_464 : decode cL_kept 464 = .ok (.lload 9, 2) := by decide +kernel
theorem dL_kept_466 : decode cL_kept 466 = .ok (.lconst 0, 1) := by decide +kernel
theorem dL_kept_467 : decode cL_kept 467 = .ok (.lcmp, 1) := by decide +kernel
theorem dL_kept_468 : decode cL_kept 468 = .ok (.ifCond .le 212, 3) := by decide +kernel
theorem dL_kept_471 : decode cL_kept 471 = .ok (.aload_n 0, 1) := by decide +kernel
theorem dL_kept_472 : decode cL_kept 472 = .ok (.iload 4, 2) := by decide +kernel
theorem dL_kept_474 : decode cL_kept 474 = .ok (.iload 8, 2) := by decide +kernel
theorem dL_kept_476 : decode cL_kept 476 = .ok (.invokestatic 216, 3) := by decide +kernel
theorem dL_kept_479 : decode cL_kept 479 = .ok (.lstore 12, 2) := by decide +kernel
theorem dL_kept_481 : decode cL_kept 481 = .ok (.aload_n 0, 1) := by decide +kernel
theorem dL_kept_482 : decode cL_kept 482 = .ok (.iload 4, 2) := by decide +kernel
theorem dL_kept_484 : decode cL_kept 484 = .ok (.iload 8, 2) := by decide +kernel
theorem dL_kept_486 : decode cL_kept 486 = .ok (.invokestatic 218, 3) := by decide +kernel
theorem dL_kept_489 : decode cL_kept 489 = .ok (.lstore 14, 2) := by decide +kernel
theorem dL_kept_491 : decode cL_kept 491 = .ok (.aload_n 0, 1) := by decide +kernel
theorem dL_kept_492 : decode cL_kept 492 = .ok (.iload 4, 2) := by decide +kernel
theorem dL_kept_494 : decode cL_kept 494 = .ok (.iload 8, 2) := by decide +kernel
theorem dL_kept_496 : decode cL_kept 496 = .ok (.invokestatic 220, 3) := by decide +kernel
theorem dL_kept_499 : decode cL_kept 499 = .ok (.lstore 16, 2) := by decide +kernel
theorem dL_kept_501 : decode cL_kept 501 = .ok (.lload 12, 2) := by decide +kernel
theorem dL_kept_503 : decode cL_kept 503 = .ok (.aload_n 0, 1) := by decide +kernel
theorem dL_kept_504 : decode cL_kept 504 = .ok (.iload 4, 2) := by decide +kernel
theorem dL_kept_506 : decode cL_kept 506 = .ok (.invokestatic 255, 3) := by decide +kernel
theorem dL_kept_509 : decode cL_kept 509 = .ok (.lcmp, 1) := by decide +kernel
theorem dL_kept_510 : decode cL_kept 510 = .ok (.ifCond .lt 168, 3) := by decide +kernel
theorem dL_kept_513 : decode cL_kept 513 = .ok (.lload 12, 2) := by decide +kernel
theorem dL_kept_515 : decode cL_kept 515 = .ok (.lload 16, 2) := by decide +kernel
theorem dL_kept_517 : decode cL_kept 517 = .ok (.lcmp, 1) := by decide +kernel
theorem dL_kept_518 : decode cL_kept 518 = .ok (.ifCond .gt 160, 3) := by decide +kernel
theorem dL_kept_521 : decode cL_kept 521 = .ok (.lload 16, 2) := by decide +kernel
theorem dL_kept_523 : decode cL_kept 523 = .ok (.lload 14, 2) := by decide +kernel
theorem dL_kept_525 : decode cL_kept 525 = .ok (.lcmp, 1) := by decide +kernel
theorem dL_kept_526 : decode cL_kept 526 = .ok (.ifCond .gt 152, 3) := by decide +kernel
theorem dL_kept_529 : decode cL_kept 529 = .ok (.aload_n 0, 1) := by decide +kernel
theorem dL_kept_530 : decode cL_kept 530 = .ok (.iload 4, 2) := by decide +kernel
theorem dL_kept_532 : decode cL_kept 532 = .ok (.iload 8, 2) := by decide +kernel
theorem dL_kept_534 : decode cL_kept 534 = .ok (.invokestatic 259, 3) := by decide +kernel
theorem dL_kept_537 : decode cL_kept 537 = .ok (.lload 9, 2) := by decide +kernel
theorem dL_kept_539 : decode cL_kept 539 = .ok (.lload 12, 2) := by decide +kernel
theorem dL_kept_541 : decode cL_kept 541 = .ok (.lmul, 1) := by decide +kernel
theorem dL_kept_542 : decode cL_kept 542 = .ok (.lcmp, 1) := by decide +kernel
theorem dL_kept_543 : decode cL_kept 543 = .ok (.ifCond .lt 135, 3) := by decide +kernel
theorem dL_kept_546 : decode cL_kept 546 = .ok (.aload_n 0, 1) := by decide +kernel
theorem dL_kept_547 : decode cL_kept 547 = .ok (.iload 4, 2) := by decide +kernel
theorem dL_kept_549 : decode cL_kept 549 = .ok (.iload 8, 2) := by decide +kernel
theorem dL_kept_551 : decode cL_kept 551 = .ok (.invokestatic 259, 3) := by decide +kernel
theorem dL_kept_554 : decode cL_kept 554 = .ok (.lload 9, 2) := by decide +kernel
theorem dL_kept_556 : decode cL_kept 556 = .ok (.lload 14, 2) := by decide +kernel
theorem dL_kept_558 : decode cL_kept 558 = .ok (.lmul, 1) := by decide +kernel
theorem dL_kept_559 : decode cL_kept 559 = .ok (.lcmp, 1) := by decide +kernel
theorem dL_kept_560 : decode cL_kept 560 = .ok (.ifCond .gt 118, 3) := by decide +kernel
theorem dL_kept_563 : decode cL_kept 563 = .ok (.aload_n 0, 1) := by decide +kernel
theorem dL_kept_564 : decode cL_kept 564 = .ok (.iload 4, 2) := by decide +kernel
theorem dL_kept_566 : decode cL_kept 566 = .ok (.iload 8, 2) := by decide +kernel
theorem dL_kept_568 : decode cL_kept 568 = .ok (.lload 12, 2) := by decide +kernel
theorem dL_kept_570 : decode cL_kept 570 = .ok (.l2i, 1) := by decide +kernel
theorem dL_kept_571 : decode cL_kept 571 = .ok (.invokestatic 196, 3) := by decide +kernel
theorem dL_kept_574 : decode cL_kept 574 = .ok (.lconst 0, 1) := by decide +kernel
theorem dL_kept_575 : decode cL_kept 575 = .ok (.lcmp, 1) := by decide +kernel
theorem dL_kept_576 : decode cL_kept 576 = .ok (.ifCond .ne 102, 3) := by decide +kernel
theorem dL_kept_579 : decode cL_kept 579 = .ok (.aload_n 0, 1) := by decide +kernel
theorem dL_kept_580 : decode cL_kept 580 = .ok (.iload 4, 2) := by decide +kernel
theorem dL_kept_582 : decode cL_kept 582 = .ok (.iload 8, 2) := by decide +kernel
theorem dL_kept_584 : decode cL_kept 584 = .ok (.lload 16, 2) := by decide +kernel
theorem dL_kept_586 : decode cL_kept 586 = .ok (.l2i, 1) := by decide +kernel
theorem dL_kept_587 : decode cL_kept 587 = .ok (.invokestatic 196, 3) := by decide +kernel
theorem dL_kept_590 : decode cL_kept 590 = .ok (.lload 9, 2) := by decide +kernel
theorem dL_kept_592 : decode cL_kept 592 = .ok (.lconst 1, 1) := by decide +kernel
theorem dL_kept_593 : decode cL_kept 593 = .ok (.lsub, 1) := by decide +kernel
theorem dL_kept_594 : decode cL_kept 594 = .ok (.ldc2_w 261, 3) := by decide +kernel
theorem dL_kept_597 : decode cL_kept 597 = .ok (.ldiv, 1) := by decide +kernel
theorem dL_kept_598 : decode cL_kept 598 = .ok (.lcmp, 1) := by decide +kernel
theorem dL_kept_599 : decode cL_kept 599 = .ok (.ifCond .gt 79, 3) := by decide +kernel
theorem dL_kept_602 : decode cL_kept 602 = .ok (.aload_n 0, 1) := by decide +kernel
theorem dL_kept_603 : decode cL_kept 603 = .ok (.iload 4, 2) := by decide +kernel
theorem dL_kept_605 : decode cL_kept 605 = .ok (.iload 8, 2) := by decide +kernel
theorem dL_kept_607 : decode cL_kept 607 = .ok (.lload 14, 2) := by decide +kernel
theorem dL_kept_609 : decode cL_kept 609 = .ok (.l2i, 1) := by decide +kernel
theorem dL_kept_610 : decode cL_kept 610 = .ok (.invokestatic 196, 3) := by decide +kernel
theorem dL_kept_613 : decode cL_kept 613 = .ok (.lload 9, 2) := by decide +kernel
theorem dL_kept_615 : decode cL_kept 615 = .ok (.lcmp, 1) := by decide +kernel
theorem dL_kept_616 : decode cL_kept 616 = .ok (.ifCond .ge 62, 3) := by decide +kernel
theorem dL_kept_619 : decode cL_kept 619 = .ok (.lload 12, 2) := by decide +kernel
theorem dL_kept_621 : decode cL_kept 621 = .ok (.lload 14, 2) := by decide +kernel
theorem dL_kept_623 : decode cL_kept 623 = .ok (.lcmp, 1) := by decide +kernel
theorem dL_kept_624 : decode cL_kept 624 = .ok (.ifCond .ne 7, 3) := by decide +kernel
theorem dL_kept_627 : decode cL_kept 627 = .ok (.iconst 1, 1) := by decide +kernel
theorem dL_kept_628 : decode cL_kept 628 = .ok (.goto 4, 3) := by decide +kernel
theorem dL_kept_631 : decode cL_kept 631 = .ok (.iconst 0, 1) := by decide +kernel
theorem dL_kept_632 : decode cL_kept 632 = .ok (.aload_n 0, 1) := by decide +kernel
theorem dL_kept_633 : decode cL_kept 633 = .ok (.iload 4, 2) := by decide +kernel
theorem dL_kept_635 : decode cL_kept 635 = .ok (.iload 8, 2) := by decide +kernel
theorem dL_kept_637 : decode cL_kept 637 = .ok (.invokestatic 257, 3) := by decide +kernel
theorem dL_kept_640 : decode cL_kept 640 = .ok (.lconst 1, 1) := by decide +kernel
theorem dL_kept_641 : decode cL_kept 641 = .ok (.lcmp, 1) := by decide +kernel
theorem dL_kept_642 : decode cL_kept 642 = .ok (.ifCond .ne 7, 3) := by decide +kernel
theorem dL_kept_645 : decode cL_kept 645 = .ok (.iconst 1, 1) := by decide +kernel
theorem dL_kept_646 : decode cL_kept 646 = .ok (.goto 4, 3) := by decide +kernel
theorem dL_kept_649 : decode cL_kept 649 = .ok (.iconst 0, 1) := by decide +kernel
theorem dL_kept_650 : decode cL_kept 650 = .ok (.if_icmp .ne 28, 3) := by decide +kernel
theorem dL_kept_653 : decode cL_kept 653 = .ok (.aload_n 0, 1) := by decide +kernel
theorem dL_kept_654 : decode cL_kept 654 = .ok (.iload 4, 2) := by decide +kernel
theorem dL_kept_656 : decode cL_kept 656 = .ok (.iload 8, 2) := by decide +kernel
theorem dL_kept_658 : decode cL_kept 658 = .ok (.invokestatic 257, 3) := by decide +kernel
theorem dL_kept_661 : decode cL_kept 661 = .ok (.lconst 1, 1) := by decide +kernel
theorem dL_kept_662 : decode cL_kept 662 = .ok (.lcmp, 1) := by decide +kernel
theorem dL_kept_663 : decode cL_kept 663 = .ok (.ifCond .gt 11, 3) := by decide +kernel
theorem dL_kept_666 : decode cL_kept 666 = .ok (.lload 16, 2) := by decide +kernel
theorem dL_kept_668 : decode cL_kept 668 = .ok (.lload 12, 2) := by decide +kernel
theorem dL_kept_670 : decode cL_kept 670 = .ok (.lcmp, 1) := by decide +kernel
theorem dL_kept_671 : decode cL_kept 671 = .ok (.ifCond .ne 7, 3) := by decide +kernel
theorem dL_kept_674 : decode cL_kept 674 = .ok (.iconst 1, 1) := by decide +kernel
theorem dL_kept_675 : decode cL_kept 675 = .ok (.goto 4, 3) := by decide +kernel
theorem dL_kept_678 : decode cL_kept 678 = .ok (.iconst 0, 1) := by decide +kernel
theorem dL_kept_679 : decode cL_kept 679 = .ok (.istore_n 1, 1) := by decide +kernel
theorem dL_kept_680 : decode cL_kept 680 = .ok (.iload_n 1, 1) := by decide +kernel
theorem dL_kept_681 : decode cL_kept 681 = .ok (.ifCond .eq 86, 3) := by decide +kernel
theorem dL_kept_684 : decode cL_kept 684 = .ok (.aload_n 0, 1) := by decide +kernel
theorem dL_kept_685 : decode cL_kept 685 = .ok (.iload 4, 2) := by decide +kernel
theorem dL_kept_687 : decode cL_kept 687 = .ok (.invokestatic 201, 3) := by decide +kernel
theorem dL_kept_690 : decode cL_kept 690 = .ok (.iload 8, 2) := by decide +kernel
theorem dL_kept_692 : decode cL_kept 692 = .ok (.lshr, 1) := by decide +kernel
theorem dL_kept_693 : decode cL_kept 693 = .ok (.lconst 1, 1) := by decide +kernel
theorem dL_kept_694 : decode cL_kept 694 = .ok (.land, 1) := by decide +kernel
theorem dL_kept_695 : decode cL_kept 695 = .ok (.lconst 0, 1) := by decide +kernel
theorem dL_kept_696 : decode cL_kept 696 = .ok (.lcmp, 1) := by decide +kernel
theorem dL_kept_697 : decode cL_kept 697 = .ok (.ifCond .ne 70, 3) := by decide +kernel
theorem dL_kept_700 : decode cL_kept 700 = .ok (.lload 9, 2) := by decide +kernel
theorem dL_kept_702 : decode cL_kept 702 = .ok (.aload_n 0, 1) := by decide +kernel
theorem dL_kept_703 : decode cL_kept 703 = .ok (.iload 4, 2) := by decide +kernel
theorem dL_kept_705 : decode cL_kept 705 = .ok (.iload 8, 2) := by decide +kernel
theorem dL_kept_707 : decode cL_kept 707 = .ok (.invokestatic 222, 3) := by decide +kernel
theorem dL_kept_710 : decode cL_kept 710 = .ok (.lcmp, 1) := by decide +kernel
theorem dL_kept_711 : decode cL_kept 711 = .ok (.ifCond .ne 54, 3) := by decide +kernel
theorem dL_kept_714 : decode cL_kept 714 = .ok (.aload_n 0, 1) := by decide +kernel
theorem dL_kept_715 : decode cL_kept 715 = .ok (.iload 4, 2) := by decide +kernel
theorem dL_kept_717 : decode cL_kept 717 = .ok (.iload 8, 2) := by decide +kernel
theorem dL_kept_719 : decode cL_kept 719 = .ok (.invokestatic 259, 3) := by decide +kernel
theorem dL_kept_722 : decode cL_kept 722 = .ok (.aload_n 0, 1) := by decide +kernel
theorem dL_kept_723 : decode cL_kept 723 = .ok (.iload 4, 2) := by decide +kernel
theorem dL_kept_725 : decode cL_kept 725 = .ok (.iload 8, 2) := by decide +kernel
theorem dL_kept_727 : decode cL_kept 727 = .ok (.invokestatic 263, 3) := by decide +kernel
theorem dL_kept_730 : decode cL_kept 730 = .ok (.lcmp, 1) := by decide +kernel
theorem dL_kept_731 : decode cL_kept 731 = .ok (.ifCond .ne 34, 3) := by decide +kernel
theorem dL_kept_734 : decode cL_kept 734 = .ok (.lload 9, 2) := by decide +kernel
theorem dL_kept_736 : decode cL_kept 736 = .ok (.lconst 0, 1) := by decide +kernel
theorem dL_kept_737 : decode cL_kept 737 = .ok (.lcmp, 1) := by decide +kernel
theorem dL_kept_738 : decode cL_kept 738 = .ok (.ifCond .eq 23, 3) := by decide +kernel
theorem dL_kept_741 : decode cL_kept 741 = .ok (.aload_n 0, 1) := by decide +kernel
theorem dL_kept_742 : decode cL_kept 742 = .ok (.iload 4, 2) := by decide +kernel
theorem dL_kept_744 : decode cL_kept 744 = .ok (.iload 8, 2) := by decide +kernel
theorem dL_kept_746 : decode cL_kept 746 = .ok (.invokestatic 220, 3) := by decide +kernel
theorem dL_kept_749 : decode cL_kept 749 = .ok (.aload_n 0, 1) := by decide +kernel
theorem dL_kept_750 : decode cL_kept 750 = .ok (.iload 4, 2) := by decide +kernel
theorem dL_kept_752 : decode cL_kept 752 = .ok (.iload 8, 2) := by decide +kernel
theorem dL_kept_754 : decode cL_kept 754 = .ok (.invokestatic 225, 3) := by decide +kernel
theorem dL_kept_757 : decode cL_kept 757 = .ok (.lcmp, 1) := by decide +kernel
theorem dL_kept_758 : decode cL_kept 758 = .ok (.ifCond .ne 7, 3) := by decide +kernel
theorem dL_kept_761 : decode cL_kept 761 = .ok (.iconst 1, 1) := by decide +kernel
theorem dL_kept_762 : decode cL_kept 762 = .ok (.goto 4, 3) := by decide +kernel
theorem dL_kept_765 : decode cL_kept 765 = .ok (.iconst 0, 1) := by decide +kernel
theorem dL_kept_766 : decode cL_kept 766 = .ok (.istore_n 1, 1) := by decide +kernel
theorem dL_kept_767 : decode cL_kept 767 = .ok (.iinc 8 1, 3) := by decide +kernel
theorem dL_kept_770 : decode cL_kept 770 = .ok (.goto (-492), 3) := by decide +kernel
theorem dL_kept_773 : decode cL_kept 773 = .ok (.iload_n 1, 1) := by decide +kernel
theorem dL_kept_774 : decode cL_kept 774 = .ok (.ifCond .eq 16, 3) := by decide +kernel
theorem dL_kept_777 : decode cL_kept 777 = .ok (.lload 6, 2) := by decide +kernel
theorem dL_kept_779 : decode cL_kept 779 = .ok (.ldc2_w 231, 3) := by decide +kernel
theorem dL_kept_782 : decode cL_kept 782 = .ok (.lcmp, 1) := by decide +kernel
theorem dL_kept_783 : decode cL_kept 783 = .ok (.ifCond .gt 7, 3) := by decide +kernel
theorem dL_kept_786 : decode cL_kept 786 = .ok (.iconst 1, 1) := by decide +kernel
theorem dL_kept_787 : decode cL_kept 787 = .ok (.goto 4, 3) := by decide +kernel
theorem dL_kept_790 : decode cL_kept 790 = .ok (.iconst 0, 1) := by decide +kernel
theorem dL_kept_791 : decode cL_kept 791 = .ok (.istore_n 1, 1) := by decide +kernel
theorem dL_kept_792 : decode cL_kept 792 = .ok (.iinc 4 1, 3) := by decide +kernel
theorem dL_kept_795 : decode cL_kept 795 = .ok (.goto (-743), 3) := by decide +kernel
theorem dL_kept_798 : decode cL_kept 798 = .ok (.iload_n 1, 1) := by decide +kernel
theorem dL_kept_799 : decode cL_kept 799 = .ok (.ifCond .eq 17, 3) := by decide +kernel
theorem dL_kept_802 : decode cL_kept 802 = .ok (.lload_n 2, 1) := by decide +kernel
theorem dL_kept_803 : decode cL_kept 803 = .ok (.aload_n 0, 1) := by decide +kernel
theorem dL_kept_804 : decode cL_kept 804 = .ok (.invokevirtual 266, 3) := by decide +kernel
theorem dL_kept_807 : decode cL_kept 807 = .ok (.i2l, 1) := by decide +kernel
theorem dL_kept_808 : decode cL_kept 808 = .ok (.lcmp, 1) := by decide +kernel
theorem dL_kept_809 : decode cL_kept 809 = .ok (.ifCond .ne 7, 3) := by decide +kernel
theorem dL_kept_812 : decode cL_kept 812 = .ok (.iconst 1, 1) := by decide +kernel
theorem dL_kept_813 : decode cL_kept 813 = .ok (.goto 4, 3) := by decide +kernel
theorem dL_kept_816 : decode cL_kept 816 = .ok (.iconst 0, 1) := by decide +kernel
theorem dL_kept_817 : decode cL_kept 817 = .ok (.ireturn, 1) := by decide +kernel
theorem dL_follows_0 : decode cL_follows 0 = .ok (.aload_n 0, 1) := by decide +kernel
theorem dL_follows_1 : decode cL_follows 1 = .ok (.invokevirtual 269, 3) := by decide +kernel
theorem dL_follows_4 : decode cL_follows 4 = .ok (.aload_n 0, 1) := by decide +kernel
theorem dL_follows_5 : decode cL_follows 5 = .ok (.invokevirtual 228, 3) := by decide +kernel
theorem dL_follows_8 : decode cL_follows 8 = .ok (.if_icmp .ne 7, 3) := by decide +kernel
theorem dL_follows_11 : decode cL_follows 11 = .ok (.iconst 1, 1) := by decide +kernel
theorem dL_follows_12 : decode cL_follows 12 = .ok (.goto 4, 3) := by decide +kernel
theorem dL_follows_15 : decode cL_follows 15 = .ok (.iconst 0, 1) := by decide +kernel
theorem dL_follows_16 : decode cL_follows 16 = .ok (.istore_n 2, 1) := by decide +kernel
theorem dL_follows_17 : decode cL_follows 17 = .ok (.iconst 0, 1) := by decide +kernel
theorem dL_follows_18 : decode cL_follows 18 = .ok (.istore_n 3, 1) := by decide +kernel
theorem dL_follows_19 : decode cL_follows 19 = .ok (.iload_n 3, 1) := by decide +kernel
theorem dL_follows_20 : decode cL_follows 20 = .ok (.iconst 3, 1) := by decide +kernel
theorem dL_follows_21 : decode cL_follows 21 = .ok (.if_icmp .ge 372, 3) := by decide +kernel
theorem dL_follows_24 : decode cL_follows 24 = .ok (.iload_n 2, 1) := by decide +kernel
theorem dL_follows_25 : decode cL_follows 25 = .ok (.ifCond .eq 368, 3) := by decide +kernel
theorem dL_follows_28 : decode cL_follows 28 = .ok (.aload_n 0, 1) := by decide +kernel
theorem dL_follows_29 : decode cL_follows 29 = .ok (.iload_n 3, 1) := by decide +kernel
theorem dL_follows_30 : decode cL_follows 30 = .ok (.invokestatic 187, 3) := by decide +kernel
theorem dL_follows_33 : decode cL_follows 33 = .ok (.lstore 4, 2) := by decide +kernel
theorem dL_follows_35 : decode cL_follows 35 = .ok (.aload_n 0, 1) := by decide +kernel
theorem dL_follows_36 : decode cL_follows 36 = .ok (.invokevirtual 248, 3) := by decide +kernel
theorem dL_follows_39 : decode cL_follows 39 = .ok (.istore 6, 2) := by decide +kernel
theorem dL_follows_41 : decode cL_follows 41 = .ok (.aload_n 0, 1) := by decide +kernel
theorem dL_follows_42 : decode cL_follows 42 = .ok (.invokevirtual 240, 3) := by decide +kernel
theorem dL_follows_45 : decode cL_follows 45 = .ok (.istore 7, 2) := by decide +kernel
theorem dL_follows_47 : decode cL_follows 47 = .ok (.aload_n 0, 1) := by decide +kernel
theorem dL_follows_48 : decode cL_follows 48 = .ok (.invokevirtual 272, 3) := by decide +kernel
theorem dL_follows_51 : decode cL_follows 51 = .ok (.istore 8, 2) := by decide +kernel
theorem dL_follows_53 : decode cL_follows 53 = .ok (.aload_n 0, 1) := by decide +kernel
theorem dL_follows_54 : decode cL_follows 54 = .ok (.iload_n 3, 1) := by decide +kernel
theorem dL_follows_55 : decode cL_follows 55 = .ok (.invokestatic 184, 3) := by decide +kernel
theorem dL_follows_58 : decode cL_follows 58 = .ok (.lconst 1, 1) := by decide +kernel
theorem dL_follows_59 : decode cL_follows 59 = .ok (.lcmp, 1) := by decide +kernel
theorem dL_follows_60 : decode cL_follows 60 = .ok (.ifCond .ne 7, 3) := by decide +kernel
theorem dL_follows_63 : decode cL_follows 63 = .ok (.iconst 1, 1) := by decide +kernel
theorem dL_follows_64 : decode cL_follows 64 = .ok (.goto 4, 3) := by decide +kernel
theorem dL_follows_67 : decode cL_follows 67 = .ok (.iconst 0, 1) := by decide +kernel
theorem dL_follows_68 : decode cL_follows 68 = .ok (.istore 9, 2) := by decide +kernel
theorem dL_follows_70 : decode cL_follows 70 = .ok (.aload_n 0, 1) := by decide +kernel
theorem dL_follows_71 : decode cL_follows 71 = .ok (.iload_n 3, 1) := by decide +kernel
theorem dL_follows_72 : decode cL_follows 72 = .ok (.invokestatic 253, 3) := by decide +kernel
theorem dL_follows_75 : decode cL_follows 75 = .ok (.lstore 10, 2) := by decide +kernel
theorem dL_follows_77 : decode cL_follows 77 = .ok (.aload_n 0, 1) := by decide +kernel
theorem dL_follows_78 : decode cL_follows 78 = .ok (.iload_n 3, 1) := by decide +kernel
theorem dL_follows_79 : decode cL_follows 79 = .ok (.invokestatic 201, 3) := by decide +kernel
theorem dL_follows_82 : decode cL_follows 82 = .ok (.lstore 12, 2) := by decide +kernel
theorem dL_follows_84 : decode cL_follows 84 = .ok (.aload_n 0, 1) := by decide +kernel
theorem dL_follows_85 : decode cL_follows 85 = .ok (.iload_n 3, 1) := by decide +kernel
theorem dL_follows_86 : decode cL_follows 86 = .ok (.invokestatic 166, 3) := by decide +kernel
theorem dL_follows_89 : decode cL_follows 89 = .ok (.lload 4, 2) := by decide +kernel
theorem dL_follows_91 : decode cL_follows 91 = .ok (.lcmp, 1) := by decide +kernel
theorem dL_follows_92 : decode cL_follows 92 = .ok (.ifCond .ne 78, 3) := by decide +kernel
theorem dL_follows_95 : decode cL_follows 95 = .ok (.aload_n 0, 1) := by decide +kernel
theorem dL_follows_96 : decode cL_follows 96 = .ok (.iload_n 3, 1) := by decide +kernel
theorem dL_follows_97 : decode cL_follows 97 = .ok (.invokestatic 201, 3) := by decide +kernel
theorem dL_follows_100 : decode cL_follows 100 = .ok (.lconst 0, 1) := by decide +kernel
theorem dL_follows_101 : decode cL_follows 101 = .ok (.lcmp, 1) := by decide +kernel
theorem dL_follows_102 : decode cL_follows 102 = .ok (.ifCond .ne 68, 3) := by decide +kernel
theorem dL_follows_105 : decode cL_follows 105 = .ok (.aload_n 0, 1) := by decide +kernel
theorem dL_follows_106 : decode cL_follows 106 = .ok (.iload_n 3, 1) := by decide +kernel
theorem dL_follows_107 : decode cL_follows 107 = .ok (.invokestatic 187, 3) := by decide +kernel
theorem dL_follows_110 : decode cL_follows 110 = .ok (.lconst 0, 1) := by decide +kernel
theorem dL_follows_111 : decode cL_follows 111 = .ok (.lcmp, 1) := by decide +kernel
theorem dL_follows_112 : decode cL_follows 112 = .ok (.ifCond .ne 58, 3) := by decide +kernel
theorem dL_follows_115 : decode cL_follows 115 = .ok (.aload_n 0, 1) := by decide +kernel
theorem dL_follows_116 : decode cL_follows 116 = .ok (.iload_n 3, 1) := by decide +kernel
theorem dL_follows_117 : decode cL_follows 117 = .ok (.invokestatic 253, 3) := by decide +kernel
theorem dL_follows_120 : decode cL_follows 120 = .ok (.lload 10, 2) := by decide +kernel
theorem dL_follows_122 : decode cL_follows 122 = .ok (.lcmp, 1) := by decide +kernel
theorem dL_follows_123 : decode cL_follows 123 = .ok (.ifCond .ne 47, 3) := by decide +kernel
theorem dL_follows_126 : decode cL_follows 126 = .ok (.aload_n 0, 1) := by decide +kernel
theorem dL_follows_127 : decode cL_follows 127 = .ok (.invokevirtual 272, 3) := by decide +kernel
theorem dL_follows_130 : decode cL_follows 130 = .ok (.iload 8, 2) := by decide +kernel
theorem dL_follows_132 : decode cL_follows 132 = .ok (.iconst 1, 1) := by decide +kernel
theorem dL_follows_133 : decode cL_follows 133 = .ok (.iadd, 1) := by decide +kernel
theorem dL_follows_134 : decode cL_follows 134 = .ok (.if_icmp .ne 36, 3) := by decide +kernel
theorem dL_follows_137 : decode cL_follows 137 = .ok (.aload_n 0, 1) := by decide +kernel
theorem dL_follows_138 : decode cL_follows 138 = .ok (.invokevirtual 248, 3) := by decide +kernel
theorem dL_follows_141 : decode cL_follows 141 = .ok (.iload 6, 2) := by decide +kernel
theorem dL_follows_143 : decode cL_follows 143 = .ok (.if_icmp .ne 27, 3) := by decide +kernel
theorem dL_follows_146 : decode cL_follows 146 = .ok (.aload_n 0, 1) := by decide +kernel
theorem dL_follows_147 : decode cL_follows 147 = .ok (.invokestatic 275, 3) := by decide +kernel
theorem dL_follows_150 : decode cL_follows 150 = .ok (.lconst 0, 1) := by decide +kernel
theorem dL_follows_151 : decode cL_follows 151 = .ok (.lcmp, 1) := by decide +kernel
theorem dL_follows_152 : decode cL_follows 152 = .ok (.ifCond .lt 18, 3) := by decide +kernel
theorem dL_follows_155 : decode cL_follows 155 = .ok (.aload_n 0, 1) := by decide +kernel
theorem dL_follows_156 : decode cL_follows 156 = .ok (.iload_n 3, 1) := by decide +kernel
theorem dL_follows_157 : decode cL_follows 157 = .ok (.invokestatic 201, 3) := by decide +kernel
theorem dL_follows_160 : decode cL_follows 160 = .ok (.lload 12, 2) := by decide +kernel
theorem dL_follows_162 : decode cL_follows 162 = .ok (.lcmp, 1) := by decide +kernel
theorem dL_follows_163 : decode cL_follows 163 = .ok (.ifCond .ne 7, 3) := by decide +kernel
theorem dL_follows_166 : decode cL_follows 166 = .ok (.iconst 1, 1) := by decide +kernel
theorem dL_follows_167 : decode cL_follows 167 = .ok (.goto 4, 3) := by decide +kernel
theorem dL_follows_170 : decode cL_follows 170 = .ok (.iconst 0, 1) := by decide +kernel
theorem dL_follows_171 : decode cL_follows 171 = .ok (.istore_n 2, 1) := by decide +kernel
theorem dL_follows_172 : decode cL_follows 172 = .ok (.iload_n 2, 1) := by decide +kernel
theorem dL_follows_173 : decode cL_follows 173 = .ok (.ifCond .eq 175, 3) := by decide +kernel
theorem dL_follows_176 : decode cL_follows 176 = .ok (.iload 9, 2) := by decide +kernel
theorem dL_follows_178 : decode cL_follows 178 = .ok (.ifCond .eq 170, 3) := by decide +kernel
theorem dL_follows_181 : decode cL_follows 181 = .ok (.aload_n 0, 1) := by decide +kernel
theorem dL_follows_182 : decode cL_follows 182 = .ok (.iload_n 3, 1) := by decide +kernel
theorem dL_follows_183 : decode cL_follows 183 = .ok (.invokestatic 206, 3) := by decide +kernel
theorem dL_follows_186 : decode cL_follows 186 = .ok (.l2i, 1) := by decide +kernel
theorem dL_follows_187 : decode cL_follows 187 = .ok (.istore 14, 2) := by decide +kernel
theorem dL_follows_189 : decode cL_follows 189 = .ok (.aload_n 0, 1) := by decide +kernel
theorem dL_follows_190 : decode cL_follows 190 = .ok (.iload_n 3, 1) := by decide +kernel
theorem dL_follows_191 : decode cL_follows 191 = .ok (.invokestatic 164, 3) := by decide +kernel
theorem dL_follows_194 : decode cL_follows 194 = .ok (.lload 4, 2) := by decide +kernel
theorem dL_follows_196 : decode cL_follows 196 = .ok (.lcmp, 1) := by decide +kernel
theorem dL_follows_197 : decode cL_follows 197 = .ok (.ifCond .ne 146, 3) := by decide +kernel
theorem dL_follows_200 : decode cL_follows 200 = .ok (.aload_n 0, 1) := by decide +kernel
theorem dL_follows_201 : decode cL_follows 201 = .ok (.iload_n 3, 1) := by decide +kernel
theorem dL_follows_202 : decode cL_follows 202 = .ok (.invokestatic 184, 3) := by decide +kernel
theorem dL_follows_205 : decode cL_follows 205 = .ok (.lconst 0, 1) := by decide +kernel
theorem dL_follows_206 : decode cL_follows 206 = .ok (.lcmp, 1) := by decide +kernel
theorem dL_follows_207 : decode cL_follows 207 = .ok (.ifCond .ne 136, 3) := by decide +kernel
theorem dL_follows_210 : decode cL_follows 210 = .ok (.aload_n 0, 1) := by decide +kernel
theorem dL_follows_211 : decode cL_follows 211 = .ok (.iload_n 3, 1) := by decide +kernel
theorem dL_follows_212 : decode cL_follows 212 = .ok (.invokestatic 201, 3) := by decide +kernel
theorem dL_follows_215 : decode cL_follows 215 = .ok (.lconst 0, 1) := by decide +kernel
theorem dL_follows_216 : decode cL_follows 216 = .ok (.lcmp, 1) := by decide +kernel
theorem dL_follows_217 : decode cL_follows 217 = .ok (.ifCond .ne 126, 3) := by decide +kernel
theorem dL_follows_220 : decode cL_follows 220 = .ok (.aload_n 0, 1) := by decide +kernel
theorem dL_follows_221 : decode cL_follows 221 = .ok (.invokevirtual 240, 3) := by decide +kernel
theorem dL_follows_224 : decode cL_follows 224 = .ok (.iload 7, 2) := by decide +kernel
theorem dL_follows_226 : decode cL_follows 226 = .ok (.iconst 1, 1) := by decide +kernel
theorem dL_follows_227 : decode cL_follows 227 = .ok (.iadd, 1) := by decide +kernel
theorem dL_follows_228 : decode cL_follows 228 = .ok (.if_icmp .ne 115, 3) := by decide +kernel
theorem dL_follows_231 : decode cL_follows 231 = .ok (.aload_n 0, 1) := by decide +kernel
theorem dL_follows_232 : decode cL_follows 232 = .ok (.invokestatic 275, 3) := by decide +kernel
theorem dL_follows_235 : decode cL_follows 235 = .ok (.lconst 0, 1) := by decide +kernel
theorem dL_follows_236 : decode cL_follows 236 = .ok (.lcmp, 1) := by decide +kernel
theorem dL_follows_237 : decode cL_follows 237 = .ok (.ifCond .lt 106, 3) := by decide +kernel
theorem dL_follows_240 : decode cL_follows 240 = .ok (.iload 14, 2) := by decide +kernel
theorem dL_follows_242 : decode cL_follows 242 = .ok (.iconst 1, 1) := by decide +kernel
theorem dL_follows_243 : decode cL_follows 243 = .ok (.if_icmp .eq 35, 3) := by decide +kernel
theorem dL_follows_246 : decode cL_follows 246 = .ok (.aload_n 0, 1) := by decide +kernel
theorem dL_follows_247 : decode cL_follows 247 = .ok (.iload 14, 2) := by decide +kernel
theorem dL_follows_249 : decode cL_follows 249 = .ok (.iconst 1, 1) := by decide +kernel
theorem dL_follows_250 : decode cL_follows 250 = .ok (.isub, 1) := by decide +kernel
theorem dL_follows_251 : decode cL_follows 251 = .ok (.invokestatic 174, 3) := by decide +kernel
theorem dL_follows_254 : decode cL_follows 254 = .ok (.lconst 0, 1) := by decide +kernel
theorem dL_follows_255 : decode cL_follows 255 = .ok (.lcmp, 1) := by decide +kernel
theorem dL_follows_256 : decode cL_follows 256 = .ok (.ifCond .lt 87, 3) := by decide +kernel
theorem dL_follows_259 : decode cL_follows 259 = .ok (.aload_n 0, 1) := by decide +kernel
theorem dL_follows_260 : decode cL_follows 260 = .ok (.iload_n 3, 1) := by decide +kernel
theorem dL_follows_261 : decode cL_follows 261 = .ok (.invokestatic 184, 3) := by decide +kernel
theorem dL_follows_264 : decode cL_follows 264 = .ok (.lconst 1, 1) := by decide +kernel
theorem dL_follows_265 : decode cL_follows 265 = .ok (.lcmp, 1) := by decide +kernel
theorem dL_follows_266 : decode cL_follows 266 = .ok (.ifCond .ne 77, 3) := by decide +kernel
theorem dL_follows_269 : decode cL_follows 269 = .ok (.aload_n 0, 1) := by decide +kernel
theorem dL_follows_270 : decode cL_follows 270 = .ok (.invokestatic 275, 3) := by decide +kernel
theorem dL_follows_273 : decode cL_follows 273 = .ok (.lconst 0, 1) := by decide +kernel
theorem dL_follows_274 : decode cL_follows 274 = .ok (.lcmp, 1) := by decide +kernel
theorem dL_follows_275 : decode cL_follows 275 = .ok (.ifCond .lt 68, 3) := by decide +kernel
theorem dL_follows_278 : decode cL_follows 278 = .ok (.aload_n 0, 1) := by decide +kernel
theorem dL_follows_279 : decode cL_follows 279 = .ok (.iload 14, 2) := by decide +kernel
theorem dL_follows_281 : decode cL_follows 281 = .ok (.invokestatic 174, 3) := by decide +kernel
theorem dL_follows_284 : decode cL_follows 284 = .ok (.lconst 1, 1) := by decide +kernel
theorem dL_follows_285 : decode cL_follows 285 = .ok (.lcmp, 1) := by decide +kernel
theorem dL_follows_286 : decode cL_follows 286 = .ok (.ifCond .lt 57, 3) := by decide +kernel
theorem dL_follows_289 : decode cL_follows 289 = .ok (.aload_n 0, 1) := by decide +kernel
theorem dL_follows_290 : decode cL_follows 290 = .ok (.iload_n 3, 1) := by decide +kernel
theorem dL_follows_291 : decode cL_follows 291 = .ok (.invokestatic 184, 3) := by decide +kernel
theorem dL_follows_294 : decode cL_follows 294 = .ok (.lconst 0, 1) := by decide +kernel
theorem dL_follows_295 : decode cL_follows 295 = .ok (.lcmp, 1) := by decide +kernel
theorem dL_follows_296 : decode cL_follows 296 = .ok (.ifCond .ne 47, 3) := by decide +kernel
theorem dL_follows_299 : decode cL_follows 299 = .ok (.aload_n 0, 1) := by decide +kernel
theorem dL_follows_300 : decode cL_follows 300 = .ok (.iload_n 3, 1) := by decide +kernel
theorem dL_follows_301 : decode cL_follows 301 = .ok (.invokestatic 187, 3) := by decide +kernel
theorem dL_follows_304 : decode cL_follows 304 = .ok (.lconst 0, 1) := by decide +kernel
theorem dL_follows_305 : decode cL_follows 305 = .ok (.lcmp, 1) := by decide +kernel
theorem dL_follows_306 : decode cL_follows 306 = .ok (.ifCond .ne 37, 3) := by decide +kernel
theorem dL_follows_309 : decode cL_follows 309 = .ok (.aload_n 0, 1) := by decide +kernel
theorem dL_follows_310 : decode cL_follows 310 = .ok (.invokestatic 275, 3) := by decide +kernel
theorem dL_follows_313 : decode cL_follows 313 = .ok (.lconst 0, 1) := by decide +kernel
theorem dL_follows_314 : decode cL_follows 314 = .ok (.lcmp, 1) := by decide +kernel
theorem dL_follows_315 : decode cL_follows 315 = .ok (.ifCond .lt 28, 3) := by decide +kernel
theorem dL_follows_318 : decode cL_follows 318 = .ok (.aload_n 0, 1) := by decide +kernel
theorem dL_follows_319 : decode cL_follows 319 = .ok (.iload_n 3, 1) := by decide +kernel
theorem dL_follows_320 : decode cL_follows 320 = .ok (.invokestatic 184, 3) := by decide +kernel
theorem dL_follows_323 : decode cL_follows 323 = .ok (.lconst 1, 1) := by decide +kernel
theorem dL_follows_324 : decode cL_follows 324 = .ok (.lcmp, 1) := by decide +kernel
theorem dL_follows_325 : decode cL_follows 325 = .ok (.ifCond .ne 18, 3) := by decide +kernel
theorem dL_follows_328 : decode cL_follows 328 = .ok (.aload_n 0, 1) := by decide +kernel
theorem dL_follows_329 : decode cL_follows 329 = .ok (.iload_n 3, 1) := by decide +kernel
theorem dL_follows_330 : decode cL_follows 330 = .ok (.invokestatic 253, 3) := by decide +kernel
theorem dL_follows_333 : decode cL_follows 333 = .ok (.lload 10, 2) := by decide +kernel
theorem dL_follows_335 : decode cL_follows 335 = .ok (.lcmp, 1) := by decide +kernel
theorem dL_follows_336 : decode cL_follows 336 = .ok (.ifCond .ne 7, 3) := by decide +kernel
theorem dL_follows_339 : decode cL_follows 339 = .ok (.iconst 1, 1) := by decide +kernel
theorem dL_follows_340 : decode cL_follows 340 = .ok (.goto 4, 3) := by decide +kernel
theorem dL_follows_343 : decode cL_follows 343 = .ok (.iconst 0, 1) := by decide +kernel
theorem dL_follows_344 : decode cL_follows 344 = .ok (.istore_n 2, 1) := by decide +kernel
theorem dL_follows_345 : decode cL_follows 345 = .ok (.goto 42, 3) := by decide +kernel
theorem dL_follows_348 : decode cL_follows 348 = .ok (.iload_n 2, 1) := by decide +kernel
theorem dL_follows_349 : decode cL_follows 349 = .ok (.ifCond .eq 38, 3) := by decide +kernel
theorem dL_follows_352 : decode cL_follows 352 = .ok (.aload_n 0, 1) := by decide +kernel
theorem dL_follows_353 : decode cL_follows 353 = .ok (.iload_n 3, 1) := by decide +kernel
theorem dL_follows_354 : decode cL_follows 354 = .ok (.invokestatic 162, 3) := by decide +kernel
theorem dL_follows_357 : decode cL_follows 357 = .ok (.lconst 0, 1) := by decide +kernel
theorem dL_follows_358 : decode cL_follows 358 = .ok (.lcmp, 1) := by decide +kernel
theorem dL_follows_359 : decode cL_follows 359 = .ok (.ifCond .le 26, 3) := by decide +kernel
theorem dL_follows_362 : decode cL_follows 362 = .ok (.aload_n 0, 1) := by decide +kernel
theorem dL_follows_363 : decode cL_follows 363 = .ok (.iload_n 3, 1) := by decide +kernel
theorem dL_follows_364 : decode cL_follows 364 = .ok (.invokestatic 187, 3) := by decide +kernel
theorem dL_follows_367 : decode cL_follows 367 = .ok (.lconst 0, 1) := by decide +kernel
theorem dL_follows_368 : decode cL_follows 368 = .ok (.lcmp, 1) := by decide +kernel
theorem dL_follows_369 : decode cL_follows 369 = .ok (.ifCond .ne 16, 3) := by decide +kernel
theorem dL_follows_372 : decode cL_follows 372 = .ok (.aload_n 0, 1) := by decide +kernel
theorem dL_follows_373 : decode cL_follows 373 = .ok (.invokestatic 275, 3) := by decide +kernel
theorem dL_follows_376 : decode cL_follows 376 = .ok (.lconst 0, 1) := by decide +kernel
theorem dL_follows_377 : decode cL_follows 377 = .ok (.lcmp, 1) := by decide +kernel
theorem dL_follows_378 : decode cL_follows 378 = .ok (.ifCond .lt 7, 3) := by decide +kernel
theorem dL_follows_381 : decode cL_follows 381 = .ok (.iconst 1, 1) := by decide +kernel
theorem dL_follows_382 : decode cL_follows 382 = .ok (.goto 4, 3) := by decide +kernel
theorem dL_follows_385 : decode cL_follows 385 = .ok (.iconst 0, 1) := by decide +kernel
theorem dL_follows_386 : decode cL_follows 386 = .ok (.istore_n 2, 1) := by decide +kernel
theorem dL_follows_387 : decode cL_follows 387 = .ok (.iinc 3 1, 3) := by decide +kernel
theorem dL_follows_390 : decode cL_follows 390 = .ok (.goto (-371), 3) := by decide +kernel
theorem dL_follows_393 : decode cL_follows 393 = .ok (.iconst 0, 1) := by decide +kernel
theorem dL_follows_394 : decode cL_follows 394 = .ok (.istore_n 3, 1) := by decide +kernel
theorem dL_follows_395 : decode cL_follows 395 = .ok (.iload_n 3, 1) := by decide +kernel
theorem dL_follows_396 : decode cL_follows 396 = .ok (.bipush 16, 2) := by decide +kernel
theorem dL_follows_398 : decode cL_follows 398 = .ok (.if_icmp .ge 335, 3) := by decide +kernel
theorem dL_follows_401 : decode cL_follows 401 = .ok (.iload_n 2, 1) := by decide +kernel
theorem dL_follows_402 : decode cL_follows 402 = .ok (.ifCond .eq 331, 3) := by decide +kernel
theorem dL_follows_405 : decode cL_follows 405 = .ok (.aload_n 0, 1) := by decide +kernel
theorem dL_follows_406 : decode cL_follows 406 = .ok (.invokevirtual 248, 3) := by decide +kernel
theorem dL_follows_409 : decode cL_follows 409 = .ok (.istore 4, 2) := by decide +kernel
theorem dL_follows_411 : decode cL_follows 411 = .ok (.aload_n 0, 1) := by decide +kernel
theorem dL_follows_412 : decode cL_follows 412 = .ok (.iload_n 3, 1) := by decide +kernel
theorem dL_follows_413 : decode cL_follows 413 = .ok (.invokestatic 178, 3) := by decide +kernel
theorem dL_follows_416 : decode cL_follows 416 = .ok (.lconst 1, 1) := by decide +kernel
theorem dL_follows_417 : decode cL_follows 417 = .ok (.lcmp, 1) := by decide +kernel
theorem dL_follows_418 : decode cL_follows 418 = .ok (.ifCond .ne 138, 3) := by decide +kernel
theorem dL_follows_421 : decode cL_follows 421 = .ok (.iload_n 1, 1) := by decide +kernel
theorem dL_follows_422 : decode cL_follows 422 = .ok (.iconst 4, 1) := by decide +kernel
theorem dL_follows_423 : decode cL_follows 423 = .ok (.irem, 1) := by decide +kernel
theorem dL_follows_424 : decode cL_follows 424 = .ok (.iload_n 3, 1) := by decide +kernel
theorem dL_follows_425 : decode cL_follows 425 = .ok (.iadd, 1) := by decide +kernel
theorem dL_follows_426 : decode cL_follows 426 = .ok (.iconst 4, 1) := by decide +kernel
theorem dL_follows_427 : decode cL_follows 427 = .ok (.irem, 1) := by decide +kernel
theorem dL_follows_428 : decode cL_follows 428 = .ok (.istore 5, 2) := by decide +kernel
theorem dL_follows_430 : decode cL_follows 430 = .ok (.iload_n 1, 1) := by decide +kernel
theorem dL_follows_431 : decode cL_follows 431 = .ok (.sipush 199, 3) := by decide +kernel
theorem dL_follows_434 : decode cL_follows 434 = .ok (.irem, 1) := by decide +kernel
theorem dL_follows_435 : decode cL_follows 435 = .ok (.bipush 99, 2) := by decide +kernel
theorem dL_follows_437 : decode cL_follows 437 = .ok (.isub, 1) := by decide +kernel
theorem dL_follows_438 : decode cL_follows 438 = .ok (.istore 6, 2) := by decide +kernel
theorem dL_follows_440 : decode cL_follows 440 = .ok (.aload_n 0, 1) := by decide +kernel
theorem dL_follows_441 : decode cL_follows 441 = .ok (.invokevirtual 228, 3) := by decide +kernel
theorem dL_follows_444 : decode cL_follows 444 = .ok (.istore 7, 2) := by decide +kernel
theorem dL_follows_446 : decode cL_follows 446 = .ok (.aload_n 0, 1) := by decide +kernel
theorem dL_follows_447 : decode cL_follows 447 = .ok (.iconst 0, 1) := by decide +kernel
theorem dL_follows_448 : decode cL_follows 448 = .ok (.iload 5, 2) := by decide +kernel
theorem dL_follows_450 : decode cL_follows 450 = .ok (.invokestatic 222, 3) := by decide +kernel
theorem dL_follows_453 : decode cL_follows 453 = .ok (.lstore 8, 2) := by decide +kernel
theorem dL_follows_455 : decode cL_follows 455 = .ok (.aload_n 0, 1) := by decide +kernel
theorem dL_follows_456 : decode cL_follows 456 = .ok (.iload_n 3, 1) := by decide +kernel
theorem dL_follows_457 : decode cL_follows 457 = .ok (.iload 5, 2) := by decide +kernel
theorem dL_follows_459 : decode cL_follows 459 = .ok (.iload 6, 2) := by decide +kernel
theorem dL_follows_461 : decode cL_follows 461 = .ok (.invokestatic 149, 3) := by decide +kernel
theorem dL_follows_464 : decode cL_follows 464 = .ok (.iload 7, 2) := by decide +kernel
theorem dL_follows_466 : decode cL_follows 466 = .ok (.i2l, 1) := by decide +kernel
theorem dL_follows_467 : decode cL_follows 467 = .ok (.lconst 1, 1) := by decide +kernel
theorem dL_follows_468 : decode cL_follows 468 = .ok (.ladd, 1) := by decide +kernel
theorem dL_follows_469 : decode cL_follows 469 = .ok (.lcmp, 1) := by decide +kernel
theorem dL_follows_470 : decode cL_follows 470 = .ok (.ifCond .ne 81, 3) := by decide +kernel
theorem dL_follows_473 : decode cL_follows 473 = .ok (.aload_n 0, 1) := by decide +kernel
theorem dL_follows_474 : decode cL_follows 474 = .ok (.invokevirtual 248, 3) := by decide +kernel
theorem dL_follows_477 : decode cL_follows 477 = .ok (.iload 4, 2) := by decide +kernel
theorem dL_follows_479 : decode cL_follows 479 = .ok (.iconst 1, 1) := by decide +kernel
theorem dL_follows_480 : decode cL_follows 480 = .ok (.iadd, 1) := by decide +kernel
theorem dL_follows_481 : decode cL_follows 481 = .ok (.if_icmp .ne 70, 3) := by decide +kernel
theorem dL_follows_484 : decode cL_follows 484 = .ok (.aload_n 0, 1) := by decide +kernel
theorem dL_follows_485 : decode cL_follows 485 = .ok (.iload_n 3, 1) := by decide +kernel
theorem dL_follows_486 : decode cL_follows 486 = .ok (.invokestatic 182, 3) := by decide +kernel
theorem dL_follows_489 : decode cL_follows 489 = .ok (.iload 6, 2) := by decide +kernel
theorem dL_follows_491 : decode cL_follows 491 = .ok (.i2l, 1) := by decide +kernel
theorem dL_follows_492 : decode cL_follows 492 = .ok (.lcmp, 1) := by decide +kernel
theorem dL_follows_493 : decode cL_follows 493 = .ok (.ifCond .ne 58, 3) := by decide +kernel
theorem dL_follows_496 : decode cL_follows 496 = .ok (.aload_n 0, 1) := by decide +kernel
theorem dL_follows_497 : decode cL_follows 497 = .ok (.iconst 0, 1) := by decide +kernel
theorem dL_follows_498 : decode cL_follows 498 = .ok (.iload 5, 2) := by decide +kernel
theorem dL_follows_500 : decode cL_follows 500 = .ok (.invokestatic 222, 3) := by decide +kernel
theorem dL_follows_503 : decode cL_follows 503 = .ok (.iload 6, 2) := by decide +kernel
theorem dL_follows_505 : decode cL_follows 505 = .ok (.i2l, 1) := by decide +kernel
theorem dL_follows_506 : decode cL_follows 506 = .ok (.aload_n 0, 1) := by decide +kernel
theorem dL_follows_507 : decode cL_follows 507 = .ok (.iconst 0, 1) := by decide +kernel
theorem dL_follows_508 : decode cL_follows 508 = .ok (.invokestatic 255, 3) := by decide +kernel
theorem dL_follows_511 : decode cL_follows 511 = .ok (.lcmp, 1) := by decide +kernel
theorem dL_follows_512 : decode cL_follows 512 = .ok (.ifCond .lt 10, 3) := by decide +kernel
theorem dL_follows_515 : decode cL_follows 515 = .ok (.lload 8, 2) := by decide +kernel
theorem dL_follows_517 : decode cL_follows 517 = .ok (.lconst 1, 1) := by decide +kernel
theorem dL_follows_518 : decode cL_follows 518 = .ok (.ladd, 1) := by decide +kernel
theorem dL_follows_519 : decode cL_follows 519 = .ok (.goto 5, 3) := by decide +kernel
theorem dL_follows_522 : decode cL_follows 522 = .ok (.lload 8, 2) := by decide +kernel
theorem dL_follows_524 : decode cL_follows 524 = .ok (.lcmp, 1) := by decide +kernel
theorem dL_follows_525 : decode cL_follows 525 = .ok (.ifCond .ne 26, 3) := by decide +kernel
theorem dL_follows_528 : decode cL_follows 528 = .ok (.aload_n 0, 1) := by decide +kernel
theorem dL_follows_529 : decode cL_follows 529 = .ok (.invokestatic 275, 3) := by decide +kernel
theorem dL_follows_532 : decode cL_follows 532 = .ok (.lconst 0, 1) := by decide +kernel
theorem dL_follows_533 : decode cL_follows 533 = .ok (.lcmp, 1) := by decide +kernel
theorem dL_follows_534 : decode cL_follows 534 = .ok (.ifCond .lt 17, 3) := by decide +kernel
theorem dL_follows_537 : decode cL_follows 537 = .ok (.aload_n 0, 1) := by decide +kernel
theorem dL_follows_538 : decode cL_follows 538 = .ok (.iload_n 3, 1) := by decide +kernel
theorem dL_follows_539 : decode cL_follows 539 = .ok (.invokestatic 178, 3) := by decide +kernel
theorem dL_follows_542 : decode cL_follows 542 = .ok (.lconst 1, 1) := by decide +kernel
theorem dL_follows_543 : decode cL_follows 543 = .ok (.lcmp, 1) := by decide +kernel
theorem dL_follows_544 : decode cL_follows 544 = .ok (.ifCond .ne 7, 3) := by decide +kernel
theorem dL_follows_547 : decode cL_follows 547 = .ok (.iconst 1, 1) := by decide +kernel
theorem dL_follows_548 : decode cL_follows 548 = .ok (.goto 4, 3) := by decide +kernel
theorem dL_follows_551 : decode cL_follows 551 = .ok (.iconst 0, 1) := by decide +kernel
theorem dL_follows_552 : decode cL_follows 552 = .ok (.istore_n 2, 1) := by decide +kernel
theorem dL_follows_553 : decode cL_follows 553 = .ok (.goto 174, 3) := by decide +kernel
theorem dL_follows_556 : decode cL_follows 556 = .ok (.aload_n 0, 1) := by decide +kernel
theorem dL_follows_557 : decode cL_follows 557 = .ok (.iload_n 3, 1) := by decide +kernel
theorem dL_follows_558 : decode cL_follows 558 = .ok (.invokestatic 182, 3) := by decide +kernel
theorem dL_follows_561 : decode cL_follows 561 = .ok (.lstore 5, 2) := by decide +kernel
theorem dL_follows_563 : decode cL_follows 563 = .ok (.aload_n 0, 1) := by decide +kernel
theorem dL_follows_564 : decode cL_follows 564 = .ok (.iload_n 3, 1) := by decide +kernel
theorem dL_follows_565 : decode cL_follows 565 = .ok (.invokestatic 180, 3) := by decide +kernel
theorem dL_follows_568 : decode cL_follows 568 = .ok (.lstore 7, 2) := by decide +kernel
theorem dL_follows_570 : decode cL_follows 570 = .ok (.aload_n 0, 1) := by decide +kernel
theorem dL_follows_571 : decode cL_follows 571 = .ok (.iload_n 3, 1) := by decide +kernel
theorem dL_follows_572 : decode cL_follows 572 = .ok (.iload_n 1, 1) := by decide +kernel
theorem dL_follows_573 : decode cL_follows 573 = .ok (.bipush 50, 2) := by decide +kernel
theorem dL_follows_575 : decode cL_follows 575 = .ok (.irem, 1) := by decide +kernel
theorem dL_follows_576 : decode cL_follows 576 = .ok (.invokestatic 154, 3) := by decide +kernel
theorem dL_follows_579 : decode cL_follows 579 = .ok (.lload 5, 2) := by decide +kernel
theorem dL_follows_581 : decode cL_follows 581 = .ok (.lcmp, 1) := by decide +kernel
theorem dL_follows_582 : decode cL_follows 582 = .ok (.ifCond .ne 143, 3) := by decide +kernel
theorem dL_follows_585 : decode cL_follows 585 = .ok (.aload_n 0, 1) := by decide +kernel
theorem dL_follows_586 : decode cL_follows 586 = .ok (.invokevirtual 248, 3) := by decide +kernel
theorem dL_follows_589 : decode cL_follows 589 = .ok (.iload 4, 2) := by decide +kernel
theorem dL_follows_591 : decode cL_follows 591 = .ok (.iconst 2, 1) := by decide +kernel
theorem dL_follows_592 : decode cL_follows 592 = .ok (.iadd, 1) := by decide +kernel
theorem dL_follows_593 : decode cL_follows 593 = .ok (.if_icmp .ne 132, 3) := by decide +kernel
theorem dL_follows_596 : decode cL_follows 596 = .ok (.aload_n 0, 1) := by decide +kernel
theorem dL_follows_597 : decode cL_follows 597 = .ok (.iload_n 3, 1) := by decide +kernel
theorem dL_follows_598 : decode cL_follows 598 = .ok (.invokestatic 182, 3) := by decide +kernel
theorem dL_follows_601 : decode cL_follows 601 = .ok (.iload_n 1, 1) := by decide +kernel
theorem dL_follows_602 : decode cL_follows 602 = .ok (.i2l, 1) := by decide +kernel
theorem dL_follows_603 : decode cL_follows 603 = .ok (.ldc2_w 277, 3) := by decide +kernel
theorem dL_follows_606 : decode cL_follows 606 = .ok (.lrem, 1) := by decide +kernel
theorem dL_follows_607 : decode cL_follows 607 = .ok (.lcmp, 1) := by decide +kernel
theorem dL_follows_608 : decode cL_follows 608 = .ok (.ifCond .ne 117, 3) := by decide +kernel
theorem dL_follows_611 : decode cL_follows 611 = .ok (.aload_n 0, 1) := by decide +kernel
theorem dL_follows_612 : decode cL_follows 612 = .ok (.invokestatic 275, 3) := by decide +kernel
theorem dL_follows_615 : decode cL_follows 615 = .ok (.lconst 0, 1) := by decide +kernel
theorem dL_follows_616 : decode cL_follows 616 = .ok (.lcmp, 1) := by decide +kernel
theorem dL_follows_617 : decode cL_follows 617 = .ok (.ifCond .lt 108, 3) := by decide +kernel
theorem dL_follows_620 : decode cL_follows 620 = .ok (.aload_n 0, 1) := by decide +kernel
theorem dL_follows_621 : decode cL_follows 621 = .ok (.iload_n 3, 1) := by decide +kernel
theorem dL_follows_622 : decode cL_follows 622 = .ok (.iload_n 1, 1) := by decide +kernel
theorem dL_follows_623 : decode cL_follows 623 = .ok (.iconst 4, 1) := by decide +kernel
theorem dL_follows_624 : decode cL_follows 624 = .ok (.irem, 1) := by decide +kernel
theorem dL_follows_625 : decode cL_follows 625 = .ok (.invokestatic 157, 3) := by decide +kernel
theorem dL_follows_628 : decode cL_follows 628 = .ok (.lload 7, 2) := by decide +kernel
theorem dL_follows_630 : decode cL_follows 630 = .ok (.lcmp, 1) := by decide +kernel
theorem dL_follows_631 : decode cL_follows 631 = .ok (.ifCond .ne 94, 3) := by decide +kernel
theorem dL_follows_634 : decode cL_follows 634 = .ok (.aload_n 0, 1) := by decide +kernel
theorem dL_follows_635 : decode cL_follows 635 = .ok (.iload_n 3, 1) := by decide +kernel
theorem dL_follows_636 : decode cL_follows 636 = .ok (.invokestatic 180, 3) := by decide +kernel
theorem dL_follows_639 : decode cL_follows 639 = .ok (.iload_n 1, 1) := by decide +kernel
theorem dL_follows_640 : decode cL_follows 640 = .ok (.i2l, 1) := by decide +kernel
theorem dL_follows_641 : decode cL_follows 641 = .ok (.ldc2_w 279, 3) := by decide +kernel
theorem dL_follows_644 : decode cL_follows 644 = .ok (.lrem, 1) := by decide +kernel
theorem dL_follows_645 : decode cL_follows 645 = .ok (.lcmp, 1) := by decide +kernel
theorem dL_follows_646 : decode cL_follows 646 = .ok (.ifCond .ne 79, 3) := by decide +kernel
theorem dL_follows_649 : decode cL_follows 649 = .ok (.aload_n 0, 1) := by decide +kernel
theorem dL_follows_650 : decode cL_follows 650 = .ok (.invokestatic 275, 3) := by decide +kernel
theorem dL_follows_653 : decode cL_follows 653 = .ok (.lconst 0, 1) := by decide +kernel
theorem dL_follows_654 : decode cL_follows 654 = .ok (.lcmp, 1) := by decide +kernel
theorem dL_follows_655 : decode cL_follows 655 = .ok (.ifCond .lt 70, 3) := by decide +kernel
theorem dL_follows_658 : decode cL_follows 658 = .ok (.aload_n 0, 1) := by decide +kernel
theorem dL_follows_659 : decode cL_follows 659 = .ok (.iload_n 3, 1) := by decide +kernel
theorem dL_follows_660 : decode cL_follows 660 = .ok (.invokestatic 159, 3) := by decide +kernel
theorem dL_follows_663 : decode cL_follows 663 = .ok (.lload 5, 2) := by decide +kernel
theorem dL_follows_665 : decode cL_follows 665 = .ok (.lcmp, 1) := by decide +kernel
theorem dL_follows_666 : decode cL_follows 666 = .ok (.ifCond .ne 59, 3) := by decide +kernel
theorem dL_follows_669 : decode cL_follows 669 = .ok (.aload_n 0, 1) := by decide +kernel
theorem dL_follows_670 : decode cL_follows 670 = .ok (.invokevirtual 248, 3) := by decide +kernel
theorem dL_follows_673 : decode cL_follows 673 = .ok (.iload 4, 2) := by decide +kernel
theorem dL_follows_675 : decode cL_follows 675 = .ok (.iconst 1, 1) := by decide +kernel
theorem dL_follows_676 : decode cL_follows 676 = .ok (.iadd, 1) := by decide +kernel
theorem dL_follows_677 : decode cL_follows 677 = .ok (.if_icmp .ne 48, 3) := by decide +kernel
theorem dL_follows_680 : decode cL_follows 680 = .ok (.aload_n 0, 1) := by decide +kernel
theorem dL_follows_681 : decode cL_follows 681 = .ok (.iload_n 3, 1) := by decide +kernel
theorem dL_follows_682 : decode cL_follows 682 = .ok (.invokestatic 178, 3) := by decide +kernel
theorem dL_follows_685 : decode cL_follows 685 = .ok (.lconst 1, 1) := by decide +kernel
theorem dL_follows_686 : decode cL_follows 686 = .ok (.lcmp, 1) := by decide +kernel
theorem dL_follows_687 : decode cL_follows 687 = .ok (.ifCond .ne 38, 3) := by decide +kernel
theorem dL_follows_690 : decode cL_follows 690 = .ok (.aload_n 0, 1) := by decide +kernel
theorem dL_follows_691 : decode cL_follows 691 = .ok (.invokestatic 275, 3) := by decide +kernel
theorem dL_follows_694 : decode cL_follows 694 = .ok (.lconst 0, 1) := by decide +kernel
theorem dL_follows_695 : decode cL_follows 695 = .ok (.lcmp, 1) := by decide +kernel
theorem dL_follows_696 : decode cL_follows 696 = .ok (.ifCond .lt 29, 3) := by decide +kernel
theorem dL_follows_699 : decode cL_follows 699 = .ok (.aload_n 0, 1) := by decide +kernel
theorem dL_follows_700 : decode cL_follows 700 = .ok (.iload_n 3, 1) := by decide +kernel
theorem dL_follows_701 : decode cL_follows 701 = .ok (.invokestatic 182, 3) := by decide +kernel
theorem dL_follows_704 : decode cL_follows 704 = .ok (.lload 5, 2) := by decide +kernel
theorem dL_follows_706 : decode cL_follows 706 = .ok (.lcmp, 1) := by decide +kernel
theorem dL_follows_707 : decode cL_follows 707 = .ok (.ifCond .ne 18, 3) := by decide +kernel
theorem dL_follows_710 : decode cL_follows 710 = .ok (.aload_n 0, 1) := by decide +kernel
theorem dL_follows_711 : decode cL_follows 711 = .ok (.iload_n 3, 1) := by decide +kernel
theorem dL_follows_712 : decode cL_follows 712 = .ok (.invokestatic 180, 3) := by decide +kernel
theorem dL_follows_715 : decode cL_follows 715 = .ok (.lload 7, 2) := by decide +kernel
theorem dL_follows_717 : decode cL_follows 717 = .ok (.lcmp, 1) := by decide +kernel
theorem dL_follows_718 : decode cL_follows 718 = .ok (.ifCond .ne 7, 3) := by decide +kernel
theorem dL_follows_721 : decode cL_follows 721 = .ok (.iconst 1, 1) := by decide +kernel
theorem dL_follows_722 : decode cL_follows 722 = .ok (.goto 4, 3) := by decide +kernel
theorem dL_follows_725 : decode cL_follows 725 = .ok (.iconst 0, 1) := by decide +kernel
theorem dL_follows_726 : decode cL_follows 726 = .ok (.istore_n 2, 1) := by decide +kernel
theorem dL_follows_727 : decode cL_follows 727 = .ok (.iinc 3 1, 3) := by decide +kernel
theorem dL_follows_730 : decode cL_follows 730 = .ok (.goto (-335), 3) := by decide +kernel
theorem dL_follows_733 : decode cL_follows 733 = .ok (.iload_n 2, 1) := by decide +kernel
theorem dL_follows_734 : decode cL_follows 734 = .ok (.ifCond .eq 20, 3) := by decide +kernel
theorem dL_follows_737 : decode cL_follows 737 = .ok (.aload_n 0, 1) := by decide +kernel
theorem dL_follows_738 : decode cL_follows 738 = .ok (.invokestatic 281, 3) := by decide +kernel
theorem dL_follows_741 : decode cL_follows 741 = .ok (.aload_n 0, 1) := by decide +kernel
theorem dL_follows_742 : decode cL_follows 742 = .ok (.invokevirtual 228, 3) := by decide +kernel
theorem dL_follows_745 : decode cL_follows 745 = .ok (.i2l, 1) := by decide +kernel
theorem dL_follows_746 : decode cL_follows 746 = .ok (.lcmp, 1) := by decide +kernel
theorem dL_follows_747 : decode cL_follows 747 = .ok (.ifCond .ne 7, 3) := by decide +kernel
theorem dL_follows_750 : decode cL_follows 750 = .ok (.iconst 1, 1) := by decide +kernel
theorem dL_follows_751 : decode cL_follows 751 = .ok (.goto 4, 3) := by decide +kernel
theorem dL_follows_754 : decode cL_follows 754 = .ok (.iconst 0, 1) := by decide +kernel
theorem dL_follows_755 : decode cL_follows 755 = .ok (.ireturn, 1) := by decide +kernel
theorem dL_alike_0 : decode cL_alike 0 = .ok (.aload_n 0, 1) := by decide +kernel
theorem dL_alike_1 : decode cL_alike 1 = .ok (.invokevirtual 145, 3) := by decide +kernel
theorem dL_alike_4 : decode cL_alike 4 = .ok (.aload_n 1, 1) := by decide +kernel
theorem dL_alike_5 : decode cL_alike 5 = .ok (.invokevirtual 145, 3) := by decide +kernel
theorem dL_alike_8 : decode cL_alike 8 = .ok (.lcmp, 1) := by decide +kernel
theorem dL_alike_9 : decode cL_alike 9 = .ok (.ifCond .ne 80, 3) := by decide +kernel
theorem dL_alike_12 : decode cL_alike 12 = .ok (.aload_n 0, 1) := by decide +kernel
theorem dL_alike_13 : decode cL_alike 13 = .ok (.invokevirtual 283, 3) := by decide +kernel
theorem dL_alike_16 : decode cL_alike 16 = .ok (.aload_n 1, 1) := by decide +kernel
theorem dL_alike_17 : decode cL_alike 17 = .ok (.invokevirtual 283, 3) := by decide +kernel
theorem dL_alike_20 : decode cL_alike 20 = .ok (.if_icmp .ne 69, 3) := by decide +kernel
theorem dL_alike_23 : decode cL_alike 23 = .ok (.aload_n 0, 1) := by decide +kernel
theorem dL_alike_24 : decode cL_alike 24 = .ok (.iload_n 2, 1) := by decide +kernel
theorem dL_alike_25 : decode cL_alike 25 = .ok (.iconst 3, 1) := by decide +kernel
theorem dL_alike_26 : decode cL_alike 26 = .ok (.irem, 1) := by decide +kernel
theorem dL_alike_27 : decode cL_alike 27 = .ok (.iload_n 2, 1) := by decide +kernel
theorem dL_alike_28 : decode cL_alike 28 = .ok (.iconst 3, 1) := by decide +kernel
theorem dL_alike_29 : decode cL_alike 29 = .ok (.idiv, 1) := by decide +kernel
theorem dL_alike_30 : decode cL_alike 30 = .ok (.iconst 4, 1) := by decide +kernel
theorem dL_alike_31 : decode cL_alike 31 = .ok (.irem, 1) := by decide +kernel
theorem dL_alike_32 : decode cL_alike 32 = .ok (.iload_n 2, 1) := by decide +kernel
theorem dL_alike_33 : decode cL_alike 33 = .ok (.sipush 199, 3) := by decide +kernel
theorem dL_alike_36 : decode cL_alike 36 = .ok (.irem, 1) := by decide +kernel
theorem dL_alike_37 : decode cL_alike 37 = .ok (.bipush 99, 2) := by decide +kernel
theorem dL_alike_39 : decode cL_alike 39 = .ok (.isub, 1) := by decide +kernel
theorem dL_alike_40 : decode cL_alike 40 = .ok (.invokestatic 196, 3) := by decide +kernel
theorem dL_alike_43 : decode cL_alike 43 = .ok (.aload_n 1, 1) := by decide +kernel
theorem dL_alike_44 : decode cL_alike 44 = .ok (.iload_n 2, 1) := by decide +kernel
theorem dL_alike_45 : decode cL_alike 45 = .ok (.iconst 3, 1) := by decide +kernel
theorem dL_alike_46 : decode cL_alike 46 = .ok (.irem, 1) := by decide +kernel
theorem dL_alike_47 : decode cL_alike 47 = .ok (.iload_n 2, 1) := by decide +kernel
theorem dL_alike_48 : decode cL_alike 48 = .ok (.iconst 3, 1) := by decide +kernel
theorem dL_alike_49 : decode cL_alike 49 = .ok (.idiv, 1) := by decide +kernel
theorem dL_alike_50 : decode cL_alike 50 = .ok (.iconst 4, 1) := by decide +kernel
theorem dL_alike_51 : decode cL_alike 51 = .ok (.irem, 1) := by decide +kernel
theorem dL_alike_52 : decode cL_alike 52 = .ok (.iload_n 2, 1) := by decide +kernel
theorem dL_alike_53 : decode cL_alike 53 = .ok (.sipush 199, 3) := by decide +kernel
theorem dL_alike_56 : decode cL_alike 56 = .ok (.irem, 1) := by decide +kernel
theorem dL_alike_57 : decode cL_alike 57 = .ok (.bipush 99, 2) := by decide +kernel
theorem dL_alike_59 : decode cL_alike 59 = .ok (.isub, 1) := by decide +kernel
theorem dL_alike_60 : decode cL_alike 60 = .ok (.invokestatic 196, 3) := by decide +kernel
theorem dL_alike_63 : decode cL_alike 63 = .ok (.lcmp, 1) := by decide +kernel
theorem dL_alike_64 : decode cL_alike 64 = .ok (.ifCond .ne 25, 3) := by decide +kernel
theorem dL_alike_67 : decode cL_alike 67 = .ok (.aload_n 0, 1) := by decide +kernel
theorem dL_alike_68 : decode cL_alike 68 = .ok (.iload_n 2, 1) := by decide +kernel
theorem dL_alike_69 : decode cL_alike 69 = .ok (.iconst 3, 1) := by decide +kernel
theorem dL_alike_70 : decode cL_alike 70 = .ok (.irem, 1) := by decide +kernel
theorem dL_alike_71 : decode cL_alike 71 = .ok (.invokestatic 201, 3) := by decide +kernel
theorem dL_alike_74 : decode cL_alike 74 = .ok (.aload_n 1, 1) := by decide +kernel
theorem dL_alike_75 : decode cL_alike 75 = .ok (.iload_n 2, 1) := by decide +kernel
theorem dL_alike_76 : decode cL_alike 76 = .ok (.iconst 3, 1) := by decide +kernel
theorem dL_alike_77 : decode cL_alike 77 = .ok (.irem, 1) := by decide +kernel
theorem dL_alike_78 : decode cL_alike 78 = .ok (.invokestatic 201, 3) := by decide +kernel
theorem dL_alike_81 : decode cL_alike 81 = .ok (.lcmp, 1) := by decide +kernel
theorem dL_alike_82 : decode cL_alike 82 = .ok (.ifCond .ne 7, 3) := by decide +kernel
theorem dL_alike_85 : decode cL_alike 85 = .ok (.iconst 1, 1) := by decide +kernel
theorem dL_alike_86 : decode cL_alike 86 = .ok (.goto 4, 3) := by decide +kernel
theorem dL_alike_89 : decode cL_alike 89 = .ok (.iconst 0, 1) := by decide +kernel
theorem dL_alike_90 : decode cL_alike 90 = .ok (.ireturn, 1) := by decide +kernel
theorem dL_number_0 : decode cL_number 0 = .ok (.iload_n 1, 1) := by decide +kernel
theorem dL_number_1 : decode cL_number 1 = .ok (.ifCond .ge 8, 3) := by decide +kernel
theorem dL_number_4 : decode cL_number 4 = .ok (.iload_n 1, 1) := by decide +kernel
theorem dL_number_5 : decode cL_number 5 = .ok (.ineg, 1) := by decide +kernel
theorem dL_number_6 : decode cL_number 6 = .ok (.goto 4, 3) := by decide +kernel
theorem dL_number_9 : decode cL_number 9 = .ok (.iload_n 1, 1) := by decide +kernel
theorem dL_number_10 : decode cL_number 10 = .ok (.istore_n 2, 1) := by decide +kernel
theorem dL_number_11 : decode cL_number 11 = .ok (.iload_n 1, 1) := by decide +kernel
theorem dL_number_12 : decode cL_number 12 = .ok (.ifCond .ge 14, 3) := by decide +kernel
theorem dL_number_15 : decode cL_number 15 = .ok (.aload_n 0, 1) := by decide +kernel
theorem dL_number_16 : decode cL_number 16 = .ok (.bipush 45, 2) := by decide +kernel
theorem dL_number_18 : decode cL_number 18 = .ok (.invokestatic 176, 3) := by decide +kernel
theorem dL_number_21 : decode cL_number 21 = .ok (.lconst 0, 1) := by decide +kernel
theorem dL_number_22 : decode cL_number 22 = .ok (.lcmp, 1) := by decide +kernel
theorem dL_number_23 : decode cL_number 23 = .ok (.ifCond .le 45, 3) := by decide +kernel
theorem dL_number_26 : decode cL_number 26 = .ok (.iload_n 2, 1) := by decide +kernel
theorem dL_number_27 : decode cL_number 27 = .ok (.bipush 10, 2) := by decide +kernel
theorem dL_number_29 : decode cL_number 29 = .ok (.if_icmp .lt 19, 3) := by decide +kernel
theorem dL_number_32 : decode cL_number 32 = .ok (.aload_n 0, 1) := by decide +kernel
theorem dL_number_33 : decode cL_number 33 = .ok (.bipush 48, 2) := by decide +kernel
theorem dL_number_35 : decode cL_number 35 = .ok (.iload_n 2, 1) := by decide +kernel
theorem dL_number_36 : decode cL_number 36 = .ok (.bipush 10, 2) := by decide +kernel
theorem dL_number_38 : decode cL_number 38 = .ok (.idiv, 1) := by decide +kernel
theorem dL_number_39 : decode cL_number 39 = .ok (.iadd, 1) := by decide +kernel
theorem dL_number_40 : decode cL_number 40 = .ok (.invokestatic 176, 3) := by decide +kernel
theorem dL_number_43 : decode cL_number 43 = .ok (.lconst 0, 1) := by decide +kernel
theorem dL_number_44 : decode cL_number 44 = .ok (.lcmp, 1) := by decide +kernel
theorem dL_number_45 : decode cL_number 45 = .ok (.ifCond .le 23, 3) := by decide +kernel
theorem dL_number_48 : decode cL_number 48 = .ok (.aload_n 0, 1) := by decide +kernel
theorem dL_number_49 : decode cL_number 49 = .ok (.bipush 48, 2) := by decide +kernel
theorem dL_number_51 : decode cL_number 51 = .ok (.iload_n 2, 1) := by decide +kernel
theorem dL_number_52 : decode cL_number 52 = .ok (.bipush 10, 2) := by decide +kernel
theorem dL_number_54 : decode cL_number 54 = .ok (.irem, 1) := by decide +kernel
theorem dL_number_55 : decode cL_number 55 = .ok (.iadd, 1) := by decide +kernel
theorem dL_number_56 : decode cL_number 56 = .ok (.invokestatic 176, 3) := by decide +kernel
theorem dL_number_59 : decode cL_number 59 = .ok (.lconst 0, 1) := by decide +kernel
theorem dL_number_60 : decode cL_number 60 = .ok (.lcmp, 1) := by decide +kernel
theorem dL_number_61 : decode cL_number 61 = .ok (.ifCond .le 7, 3) := by decide +kernel
theorem dL_number_64 : decode cL_number 64 = .ok (.iconst 1, 1) := by decide +kernel
theorem dL_number_65 : decode cL_number 65 = .ok (.goto 4, 3) := by decide +kernel
theorem dL_number_68 : decode cL_number 68 = .ok (.iconst 0, 1) := by decide +kernel
theorem dL_number_69 : decode cL_number 69 = .ok (.ireturn, 1) := by decide +kernel
theorem dL_told_0 : decode cL_told 0 = .ok (.aload_n 0, 1) := by decide +kernel
theorem dL_told_1 : decode cL_told 1 = .ok (.invokevirtual 286, 3) := by decide +kernel
theorem dL_told_4 : decode cL_told 4 = .ok (.ifCond .lt 7, 3) := by decide +kernel
theorem dL_told_7 : decode cL_told 7 = .ok (.iconst 1, 1) := by decide +kernel
theorem dL_told_8 : decode cL_told 8 = .ok (.goto 4, 3) := by decide +kernel
theorem dL_told_11 : decode cL_told 11 = .ok (.iconst 0, 1) := by decide +kernel
theorem dL_told_12 : decode cL_told 12 = .ok (.istore_n 2, 1) := by decide +kernel
theorem dL_told_13 : decode cL_told 13 = .ok (.iconst 0, 1) := by decide +kernel
theorem dL_told_14 : decode cL_told 14 = .ok (.istore_n 3, 1) := by decide +kernel
theorem dL_told_15 : decode cL_told 15 = .ok (.iload_n 3, 1) := by decide +kernel
theorem dL_told_16 : decode cL_told 16 = .ok (.iconst 3, 1) := by decide +kernel
theorem dL_told_17 : decode cL_told 17 = .ok (.iload_n 1, 1) := by decide +kernel
theorem dL_told_18 : decode cL_told 18 = .ok (.iconst 4, 1) := by decide +kernel
theorem dL_told_19 : decode cL_told 19 = .ok (.irem, 1) := by decide +kernel
theorem dL_told_20 : decode cL_told 20 = .ok (.iadd, 1) := by decide +kernel
theorem dL_told_21 : decode cL_told 21 = .ok (.if_icmp .ge 248, 3) := by decide +kernel
theorem dL_told_24 : decode cL_told 24 = .ok (.iload_n 2, 1) := by decide +kernel
theorem dL_told_25 : decode cL_told 25 = .ok (.ifCond .eq 244, 3) := by decide +kernel
theorem dL_told_28 : decode cL_told 28 = .ok (.iload_n 1, 1) := by decide +kernel
theorem dL_told_29 : decode cL_told 29 = .ok (.iload_n 3, 1) := by decide +kernel
theorem dL_told_30 : decode cL_told 30 = .ok (.ishr, 1) := by decide +kernel
theorem dL_told_31 : decode cL_told 31 = .ok (.istore 4, 2) := by decide +kernel
theorem dL_told_33 : decode cL_told 33 = .ok (.iload 4, 2) := by decide +kernel
theorem dL_told_35 : decode cL_told 35 = .ok (.bipush 7, 2) := by decide +kernel
theorem dL_told_37 : decode cL_told 37 = .ok (.irem, 1) := by decide +kernel
theorem dL_told_38 : decode cL_told 38 = .ok (.istore 5, 2) := by decide +kernel
theorem dL_told_40 : decode cL_told 40 = .ok (.iload 4, 2) := by decide +kernel
theorem dL_told_42 : decode cL_told 42 = .ok (.bipush 7, 2) := by decide +kernel
theorem dL_told_44 : decode cL_told 44 = .ok (.idiv, 1) := by decide +kernel
theorem dL_told_45 : decode cL_told 45 = .ok (.bipush 8, 2) := by decide +kernel
theorem dL_told_47 : decode cL_told 47 = .ok (.irem, 1) := by decide +kernel
theorem dL_told_48 : decode cL_told 48 = .ok (.istore 6, 2) := by decide +kernel
theorem dL_told_50 : decode cL_told 50 = .ok (.iload 5, 2) := by decide +kernel
theorem dL_told_52 : decode cL_told 52 = .ok (.iconst 2, 1) := by decide +kernel
theorem dL_told_53 : decode cL_told 53 = .ok (.if_icmp .ge 8, 3) := by decide +kernel
theorem dL_told_56 : decode cL_told 56 = .ok (.bipush 105, 2) := by decide +kernel
theorem dL_told_58 : decode cL_told 58 = .ok (.goto 56, 3) := by decide +kernel
theorem dL_told_61 : decode cL_told 61 = .ok (.iload 5, 2) := by decide +kernel
theorem dL_told_63 : decode cL_told 63 = .ok (.iconst 2, 1) := by decide +kernel
theorem dL_told_64 : decode cL_told 64 = .ok (.if_icmp .ne 8, 3) := by decide +kernel
theorem dL_told_67 : decode cL_told 67 = .ok (.bipush 117, 2) := by decide +kernel
theorem dL_told_69 : decode cL_told 69 = .ok (.goto 45, 3) := by decide +kernel
theorem dL_told_72 : decode cL_told 72 = .ok (.iload 5, 2) := by decide +kernel
theorem dL_told_74 : decode cL_told 74 = .ok (.iconst 3, 1) := by decide +kernel
theorem dL_told_75 : decode cL_told 75 = .ok (.if_icmp .ne 8, 3) := by decide +kernel
theorem dL_told_78 : decode cL_told 78 = .ok (.bipush 103, 2) := by decide +kernel
theorem dL_told_80 : decode cL_told 80 = .ok (.goto 34, 3) := by decide +kernel
theorem dL_told_83 : decode cL_told 83 = .ok (.iload 5, 2) := by decide +kernel
theorem dL_told_85 : decode cL_told 85 = .ok (.iconst 4, 1) := by decide +kernel
theorem dL_told_86 : decode cL_told 86 = .ok (.if_icmp .ne 8, 3) := by decide +kernel
theorem dL_told_89 : decode cL_told 89 = .ok (.bipush 120, 2) := by decide +kernel
theorem dL_told_91 : decode cL_told 91 = .ok (.goto 23, 3) := by decide +kernel
theorem dL_told_94 : decode cL_told 94 = .ok (.iload 5, 2) := by decide +kernel
theorem dL_told_96 : decode cL_told 96 = .ok (.iconst 5, 1) := by decide +kernel
theorem dL_told_97 : decode cL_told 97 = .ok (.if_icmp .ne 8, 3) := by decide +kernel
theorem dL_told_100 : decode cL_told 100 = .ok (.bipush 116, 2) := by decide +kernel
theorem dL_told_102 : decode cL_told 102 = .ok (.goto 12, 3) := by decide +kernel
theorem dL_told_105 : decode cL_told 105 = .ok (.bipush 122, 2) := by decide +kernel
theorem dL_told_107 : decode cL_told 107 = .ok (.iload 4, 2) := by decide +kernel
theorem dL_told_109 : decode cL_told 109 = .ok (.iconst 2, 1) := by decide +kernel
theorem dL_told_110 : decode cL_told 110 = .ok (.irem, 1) := by decide +kernel
theorem dL_told_111 : decode cL_told 111 = .ok (.iconst 3, 1) := by decide +kernel
theorem dL_told_112 : decode cL_told 112 = .ok (.imul, 1) := by decide +kernel
theorem dL_told_113 : decode cL_told 113 = .ok (.isub, 1) := by decide +kernel
theorem dL_told_114 : decode cL_told 114 = .ok (.istore 7, 2) := by decide +kernel
theorem dL_told_116 : decode cL_told 116 = .ok (.iload_n 3, 1) := by decide +kernel
theorem dL_told_117 : decode cL_told 117 = .ok (.ifCond .eq 14, 3) := by decide +kernel
theorem dL_told_120 : decode cL_told 120 = .ok (.aload_n 0, 1) := by decide +kernel
theorem dL_told_121 : decode cL_told 121 = .ok (.bipush 59, 2) := by decide +kernel
theorem dL_told_123 : decode cL_told 123 = .ok (.invokestatic 176, 3) := by decide +kernel
theorem dL_told_126 : decode cL_told 126 = .ok (.lconst 0, 1) := by decide +kernel
theorem dL_told_127 : decode cL_told 127 = .ok (.lcmp, 1) := by decide +kernel
theorem dL_told_128 : decode cL_told 128 = .ok (.ifCond .le 57, 3) := by decide +kernel
theorem dL_told_131 : decode cL_told 131 = .ok (.aload_n 0, 1) := by decide +kernel
theorem dL_told_132 : decode cL_told 132 = .ok (.iload 7, 2) := by decide +kernel
theorem dL_told_134 : decode cL_told 134 = .ok (.invokestatic 176, 3) := by decide +kernel
theorem dL_told_137 : decode cL_told 137 = .ok (.lconst 0, 1) := by decide +kernel
theorem dL_told_138 : decode cL_told 138 = .ok (.lcmp, 1) := by decide +kernel
theorem dL_told_139 : decode cL_told 139 = .ok (.ifCond .le 46, 3) := by decide +kernel
theorem dL_told_142 : decode cL_told 142 = .ok (.aload_n 0, 1) := by decide +kernel
theorem dL_told_143 : decode cL_told 143 = .ok (.iload 5, 2) := by decide +kernel
theorem dL_told_145 : decode cL_told 145 = .ok (.iconst 5, 1) := by decide +kernel
theorem dL_told_146 : decode cL_told 146 = .ok (.if_icmp .ge 8, 3) := by decide +kernel
theorem dL_told_149 : decode cL_told 149 = .ok (.iload 6, 2) := by decide +kernel
theorem dL_told_151 : decode cL_told 151 = .ok (.goto 24, 3) := by decide +kernel
theorem dL_told_154 : decode cL_told 154 = .ok (.iload 5, 2) := by decide +kernel
theorem dL_told_156 : decode cL_told 156 = .ok (.iconst 5, 1) := by decide +kernel
theorem dL_told_157 : decode cL_told 157 = .ok (.if_icmp .ne 12, 3) := by decide +kernel
theorem dL_told_160 : decode cL_told 160 = .ok (.iconst 1, 1) := by decide +kernel
theorem dL_told_161 : decode cL_told 161 = .ok (.iload 4, 2) := by decide +kernel
theorem dL_told_163 : decode cL_told 163 = .ok (.iconst 5, 1) := by decide +kernel
theorem dL_told_164 : decode cL_told 164 = .ok (.irem, 1) := by decide +kernel
theorem dL_told_165 : decode cL_told 165 = .ok (.iadd, 1) := by decide +kernel
theorem dL_told_166 : decode cL_told 166 = .ok (.goto 9, 3) := by decide +kernel
theorem dL_told_169 : decode cL_told 169 = .ok (.iload 4, 2) := by decide +kernel
theorem dL_told_171 : decode cL_told 171 = .ok (.iconst 3, 1) := by decide +kernel
theorem dL_told_172 : decode cL_told 172 = .ok (.idiv, 1) := by decide +kernel
theorem dL_told_173 : decode cL_told 173 = .ok (.iconst 3, 1) := by decide +kernel
theorem dL_told_174 : decode cL_told 174 = .ok (.irem, 1) := by decide +kernel
theorem dL_told_175 : decode cL_told 175 = .ok (.invokestatic 289, 3) := by decide +kernel
theorem dL_told_178 : decode cL_told 178 = .ok (.ifCond .eq 7, 3) := by decide +kernel
theorem dL_told_181 : decode cL_told 181 = .ok (.iconst 1, 1) := by decide +kernel
theorem dL_told_182 : decode cL_told 182 = .ok (.goto 4, 3) := by decide +kernel
theorem dL_told_185 : decode cL_told 185 = .ok (.iconst 0, 1) := by decide +kernel
theorem dL_told_186 : decode cL_told 186 = .ok (.istore_n 2, 1) := by decide +kernel
theorem dL_told_187 : decode cL_told 187 = .ok (.iload_n 2, 1) := by decide +kernel
theorem dL_told_188 : decode cL_told 188 = .ok (.ifCond .eq 73, 3) := by decide +kernel
theorem dL_told_191 : decode cL_told 191 = .ok (.iload 5, 2) := by decide +kernel
theorem dL_told_193 : decode cL_told 193 = .ok (.iconst 2, 1) := by decide +kernel
theorem dL_told_194 : decode cL_told 194 = .ok (.if_icmp .ne 14, 3) := by decide +kernel
theorem dL_told_197 : decode cL_told 197 = .ok (.aload_n 0, 1) := by decide +kernel
theorem dL_told_198 : decode cL_told 198 = .ok (.bipush 61, 2) := by decide +kernel
theorem dL_told_200 : decode cL_told 200 = .ok (.invokestatic 176, 3) := by decide +kernel
theorem dL_told_203 : decode cL_told 203 = .ok (.lconst 0, 1) := by decide +kernel
theorem dL_told_204 : decode cL_told 204 = .ok (.lcmp, 1) := by decide +kernel
theorem dL_told_205 : decode cL_told 205 = .ok (.ifCond .le 56, 3) := by decide +kernel
theorem dL_told_208 : decode cL_told 208 = .ok (.iload 5, 2) := by decide +kernel
theorem dL_told_210 : decode cL_told 210 = .ok (.iconst 1, 1) := by decide +kernel
theorem dL_told_211 : decode cL_told 211 = .ok (.if_icmp .le 9, 3) := by decide +kernel
theorem dL_told_214 : decode cL_told 214 = .ok (.iload 5, 2) := by decide +kernel
theorem dL_told_216 : decode cL_told 216 = .ok (.iconst 3, 1) := by decide +kernel
theorem dL_told_217 : decode cL_told 217 = .ok (.if_icmp .ne 19, 3) := by decide +kernel
theorem dL_told_220 : decode cL_told 220 = .ok (.aload_n 0, 1) := by decide +kernel
theorem dL_told_221 : decode cL_told 221 = .ok (.bipush 97, 2) := by decide +kernel
theorem dL_told_223 : decode cL_told 223 = .ok (.iload 4, 2) := by decide +kernel
theorem dL_told_225 : decode cL_told 225 = .ok (.iconst 4, 1) := by decide +kernel
theorem dL_told_226 : decode cL_told 226 = .ok (.irem, 1) := by decide +kernel
theorem dL_told_227 : decode cL_told 227 = .ok (.iadd, 1) := by decide +kernel
theorem dL_told_228 : decode cL_told 228 = .ok (.invokestatic 176, 3) := by decide +kernel
theorem dL_told_231 : decode cL_told 231 = .ok (.lconst 0, 1) := by decide +kernel
theorem dL_told_232 : decode cL_told 232 = .ok (.lcmp, 1) := by decide +kernel
theorem dL_told_233 : decode cL_told 233 = .ok (.ifCond .le 28, 3) := by decide +kernel
theorem dL_told_236 : decode cL_told 236 = .ok (.iload 5, 2) := by decide +kernel
theorem dL_told_238 : decode cL_told 238 = .ok (.iconst 2, 1) := by decide +kernel
theorem dL_told_239 : decode cL_told 239 = .ok (.if_icmp .gt 18, 3) := by decide +kernel
theorem dL_told_242 : decode cL_told 242 = .ok (.aload_n 0, 1) := by decide +kernel
theorem dL_told_243 : decode cL_told 243 = .ok (.iload 4, 2) := by decide +kernel
theorem dL_told_245 : decode cL_told 245 = .ok (.bipush 41, 2) := by decide +kernel
theorem dL_told_247 : decode cL_told 247 = .ok (.irem, 1) := by decide +kernel
theorem dL_told_248 : decode cL_told 248 = .ok (.bipush 20, 2) := by decide +kernel
theorem dL_told_250 : decode cL_told 250 = .ok (.isub, 1) := by decide +kernel
theorem dL_told_251 : decode cL_told 251 = .ok (.invokestatic 289, 3) := by decide +kernel
theorem dL_told_254 : decode cL_told 254 = .ok (.ifCond .eq 7, 3) := by decide +kernel
theorem dL_told_257 : decode cL_told 257 = .ok (.iconst 1, 1) := by decide +kernel
theorem dL_told_258 : decode cL_told 258 = .ok (.goto 4, 3) := by decide +kernel
theorem dL_told_261 : decode cL_told 261 = .ok (.iconst 0, 1) := by decide +kernel
theorem dL_told_262 : decode cL_told 262 = .ok (.istore_n 2, 1) := by decide +kernel
theorem dL_told_263 : decode cL_told 263 = .ok (.iinc 3 1, 3) := by decide +kernel
theorem dL_told_266 : decode cL_told 266 = .ok (.goto (-251), 3) := by decide +kernel
theorem dL_told_269 : decode cL_told 269 = .ok (.iload_n 2, 1) := by decide +kernel
theorem dL_told_270 : decode cL_told 270 = .ok (.ifCond .eq 10, 3) := by decide +kernel
theorem dL_told_273 : decode cL_told 273 = .ok (.aload_n 0, 1) := by decide +kernel
theorem dL_told_274 : decode cL_told 274 = .ok (.invokestatic 293, 3) := by decide +kernel
theorem dL_told_277 : decode cL_told 277 = .ok (.goto 6, 3) := by decide +kernel
theorem dL_told_280 : decode cL_told 280 = .ok (.ldc2_w 295, 3) := by decide +kernel
theorem dL_told_283 : decode cL_told 283 = .ok (.lreturn, 1) := by decide +kernel
theorem dL_act_0 : decode cL_act 0 = .ok (.iload_n 2, 1) := by decide +kernel
theorem dL_act_1 : decode cL_act 1 = .ok (.iload_n 2, 1) := by decide +kernel
theorem dL_act_2 : decode cL_act 2 = .ok (.iconst 3, 1) := by decide +kernel
theorem dL_act_3 : decode cL_act 3 = .ok (.irem, 1) := by decide +kernel
theorem dL_act_4 : decode cL_act 4 = .ok (.ifCond .ne 8, 3) := by decide +kernel
theorem dL_act_7 : decode cL_act 7 = .ok (.bipush 16, 2) := by decide +kernel
theorem dL_act_9 : decode cL_act 9 = .ok (.goto 5, 3) := by decide +kernel
theorem dL_act_12 : decode cL_act 12 = .ok (.bipush 6, 2) := by decide +kernel
theorem dL_act_14 : decode cL_act 14 = .ok (.irem, 1) := by decide +kernel
theorem dL_act_15 : decode cL_act 15 = .ok (.istore_n 3, 1) := by decide +kernel
theorem dL_act_16 : decode cL_act 16 = .ok (.iload_n 2, 1) := by decide +kernel
theorem dL_act_17 : decode cL_act 17 = .ok (.bipush 16, 2) := by decide +kernel
theorem dL_act_19 : decode cL_act 19 = .ok (.idiv, 1) := by decide +kernel
theorem dL_act_20 : decode cL_act 20 = .ok (.istore 4, 2) := by decide +kernel
theorem dL_act_22 : decode cL_act 22 = .ok (.iload 4, 2) := by decide +kernel
theorem dL_act_24 : decode cL_act 24 = .ok (.iconst 3, 1) := by decide +kernel
theorem dL_act_25 : decode cL_act 25 = .ok (.irem, 1) := by decide +kernel
theorem dL_act_26 : decode cL_act 26 = .ok (.istore 5, 2) := by decide +kernel
theorem dL_act_28 : decode cL_act 28 = .ok (.iload 4, 2) := by decide +kernel
theorem dL_act_30 : decode cL_act 30 = .ok (.bipush 12, 2) := by decide +kernel
theorem dL_act_32 : decode cL_act 32 = .ok (.idiv, 1) := by decide +kernel
theorem dL_act_33 : decode cL_act 33 = .ok (.istore 6, 2) := by decide +kernel
theorem dL_act_35 : decode cL_act 35 = .ok (.iload_n 1, 1) := by decide +kernel
theorem dL_act_36 : decode cL_act 36 = .ok (.bipush 24, 2) := by decide +kernel
theorem dL_act_38 : decode cL_act 38 = .ok (.irem, 1) := by decide +kernel
theorem dL_act_39 : decode cL_act 39 = .ok (.tableswitch 297 0 22 #[105, 105, 105, 105, 105, 142, 142, 142, 156, 166, 172, 172, 172, 179, 202, 217, 254, 254, 265, 265, 272, 272, 277], 105) := by decide +kernel
theorem dL_act_144 : decode cL_act 144 = .ok (.aload_n 0, 1) := by decide +kernel
theorem dL_act_145 : decode cL_act 145 = .ok (.iload_n 3, 1) := by decide +kernel
theorem dL_act_146 : decode cL_act 146 = .ok (.iload 4, 2) := by decide +kernel
theorem dL_act_148 : decode cL_act 148 = .ok (.iconst 4, 1) := by decide +kernel
theorem dL_act_149 : decode cL_act 149 = .ok (.irem, 1) := by decide +kernel
theorem dL_act_150 : decode cL_act 150 = .ok (.iload 6, 2) := by decide +kernel
theorem dL_act_152 : decode cL_act 152 = .ok (.iconst 3, 1) := by decide +kernel
theorem dL_act_153 : decode cL_act 153 = .ok (.irem, 1) := by decide +kernel
theorem dL_act_154 : decode cL_act 154 = .ok (.ifCond .ne 15, 3) := by decide +kernel
theorem dL_act_157 : decode cL_act 157 = .ok (.iload 6, 2) := by decide +kernel
theorem dL_act_159 : decode cL_act 159 = .ok (.sipush 199, 3) := by decide +kernel
theorem dL_act_162 : decode cL_act 162 = .ok (.irem, 1) := by decide +kernel
theorem dL_act_163 : decode cL_act 163 = .ok (.bipush 99, 2) := by decide +kernel
theorem dL_act_165 : decode cL_act 165 = .ok (.isub, 1) := by decide +kernel
theorem dL_act_166 : decode cL_act 166 = .ok (.goto 11, 3) := by decide +kernel
theorem dL_act_169 : decode cL_act 169 = .ok (.iload 6, 2) := by decide +kernel
theorem dL_act_171 : decode cL_act 171 = .ok (.bipush 21, 2) := by decide +kernel
theorem dL_act_173 : decode cL_act 173 = .ok (.irem, 1) := by decide +kernel
theorem dL_act_174 : decode cL_act 174 = .ok (.bipush 10, 2) := by decide +kernel
theorem dL_act_176 : decode cL_act 176 = .ok (.isub, 1) := by decide +kernel
theorem dL_act_177 : decode cL_act 177 = .ok (.invokestatic 149, 3) := by decide +kernel
theorem dL_act_180 : decode cL_act 180 = .ok (.lreturn, 1) := by decide +kernel
theorem dL_act_181 : decode cL_act 181 = .ok (.aload_n 0, 1) := by decide +kernel
theorem dL_act_182 : decode cL_act 182 = .ok (.iload_n 3, 1) := by decide +kernel
theorem dL_act_183 : decode cL_act 183 = .ok (.iload 6, 2) := by decide +kernel
theorem dL_act_185 : decode cL_act 185 = .ok (.bipush 21, 2) := by decide +kernel
theorem dL_act_187 : decode cL_act 187 = .ok (.irem, 1) := by decide +kernel
theorem dL_act_188 : decode cL_act 188 = .ok (.bipush 10, 2) := by decide +kernel
theorem dL_act_190 : decode cL_act 190 = .ok (.isub, 1) := by decide +kernel
theorem dL_act_191 : decode cL_act 191 = .ok (.invokestatic 154, 3) := by decide +kernel
theorem dL_act_194 : decode cL_act 194 = .ok (.lreturn, 1) := by decide +kernel
theorem dL_act_195 : decode cL_act 195 = .ok (.aload_n 0, 1) := by decide +kernel
theorem dL_act_196 : decode cL_act 196 = .ok (.iload_n 3, 1) := by decide +kernel
theorem dL_act_197 : decode cL_act 197 = .ok (.iload 4, 2) := by decide +kernel
theorem dL_act_199 : decode cL_act 199 = .ok (.iconst 4, 1) := by decide +kernel
theorem dL_act_200 : decode cL_act 200 = .ok (.irem, 1) := by decide +kernel
theorem dL_act_201 : decode cL_act 201 = .ok (.invokestatic 157, 3) := by decide +kernel
theorem dL_act_204 : decode cL_act 204 = .ok (.lreturn, 1) := by decide +kernel
theorem dL_act_205 : decode cL_act 205 = .ok (.aload_n 0, 1) := by decide +kernel
theorem dL_act_206 : decode cL_act 206 = .ok (.iload_n 3, 1) := by decide +kernel
theorem dL_act_207 : decode cL_act 207 = .ok (.invokestatic 159, 3) := by decide +kernel
theorem dL_act_210 : decode cL_act 210 = .ok (.lreturn, 1) := by decide +kernel
theorem dL_act_211 : decode cL_act 211 = .ok (.aload_n 0, 1) := by decide +kernel
theorem dL_act_212 : decode cL_act 212 = .ok (.iload 5, 2) := by decide +kernel
theorem dL_act_214 : decode cL_act 214 = .ok (.invokestatic 162, 3) := by decide +kernel
theorem dL_act_217 : decode cL_act 217 = .ok (.lreturn, 1) := by decide +kernel
theorem dL_act_218 : decode cL_act 218 = .ok (.iload 6, 2) := by decide +kernel
theorem dL_act_220 : decode cL_act 220 = .ok (.iconst 2, 1) := by decide +kernel
theorem dL_act_221 : decode cL_act 221 = .ok (.irem, 1) := by decide +kernel
theorem dL_act_222 : decode cL_act 222 = .ok (.ifCond .ne 12, 3) := by decide +kernel
theorem dL_act_225 : decode cL_act 225 = .ok (.aload_n 0, 1) := by decide +kernel
theorem dL_act_226 : decode cL_act 226 = .ok (.iload 5, 2) := by decide +kernel
theorem dL_act_228 : decode cL_act 228 = .ok (.invokestatic 164, 3) := by decide +kernel
theorem dL_act_231 : decode cL_act 231 = .ok (.goto 9, 3) := by decide +kernel
theorem dL_act_234 : decode cL_act 234 = .ok (.aload_n 0, 1) := by decide +kernel
theorem dL_act_235 : decode cL_act 235 = .ok (.iload 5, 2) := by decide +kernel
theorem dL_act_237 : decode cL_act 237 = .ok (.invokestatic 166, 3) := by decide +kernel
theorem dL_act_240 : decode cL_act 240 = .ok (.lreturn, 1) := by decide +kernel
theorem dL_act_241 : decode cL_act 241 = .ok (.aload_n 0, 1) := by decide +kernel
theorem dL_act_242 : decode cL_act 242 = .ok (.iload 5, 2) := by decide +kernel
theorem dL_act_244 : decode cL_act 244 = .ok (.iload 6, 2) := by decide +kernel
theorem dL_act_246 : decode cL_act 246 = .ok (.bipush 41, 2) := by decide +kernel
theorem dL_act_248 : decode cL_act 248 = .ok (.irem, 1) := by decide +kernel
theorem dL_act_249 : decode cL_act 249 = .ok (.bipush 20, 2) := by decide +kernel
theorem dL_act_251 : decode cL_act 251 = .ok (.isub, 1) := by decide +kernel
theorem dL_act_252 : decode cL_act 252 = .ok (.invokestatic 168, 3) := by decide +kernel
theorem dL_act_255 : decode cL_act 255 = .ok (.lreturn, 1) := by decide +kernel
theorem dL_act_256 : decode cL_act 256 = .ok (.iload 6, 2) := by decide +kernel
theorem dL_act_258 : decode cL_act 258 = .ok (.iconst 2, 1) := by decide +kernel
theorem dL_act_259 : decode cL_act 259 = .ok (.irem, 1) := by decide +kernel
theorem dL_act_260 : decode cL_act 260 = .ok (.ifCond .ne 19, 3) := by decide +kernel
theorem dL_act_263 : decode cL_act 263 = .ok (.aload_n 0, 1) := by decide +kernel
theorem dL_act_264 : decode cL_act 264 = .ok (.iload 5, 2) := by decide +kernel
theorem dL_act_266 : decode cL_act 266 = .ok (.iconst 1, 1) := by decide +kernel
theorem dL_act_267 : decode cL_act 267 = .ok (.iload 6, 2) := by decide +kernel
theorem dL_act_269 : decode cL_act 269 = .ok (.bipush 12, 2) := by decide +kernel
theorem dL_act_271 : decode cL_act 271 = .ok (.irem, 1) := by decide +kernel
theorem dL_act_272 : decode cL_act 272 = .ok (.iadd, 1) := by decide +kernel
theorem dL_act_273 : decode cL_act 273 = .ok (.invokestatic 170, 3) := by decide +kernel
theorem dL_act_276 : decode cL_act 276 = .ok (.goto 16, 3) := by decide +kernel
theorem dL_act_279 : decode cL_act 279 = .ok (.aload_n 0, 1) := by decide +kernel
theorem dL_act_280 : decode cL_act 280 = .ok (.iload 5, 2) := by decide +kernel
theorem dL_act_282 : decode cL_act 282 = .ok (.iconst 1, 1) := by decide +kernel
theorem dL_act_283 : decode cL_act 283 = .ok (.iload 6, 2) := by decide +kernel
theorem dL_act_285 : decode cL_act 285 = .ok (.bipush 12, 2) := by decide +kernel
theorem dL_act_287 : decode cL_act 287 = .ok (.irem, 1) := by decide +kernel
theorem dL_act_288 : decode cL_act 288 = .ok (.iadd, 1) := by decide +kernel
theorem dL_act_289 : decode cL_act 289 = .ok (.invokestatic 172, 3) := by decide +kernel
theorem dL_act_292 : decode cL_act 292 = .ok (.lreturn, 1) := by decide +kernel
theorem dL_act_293 : decode cL_act 293 = .ok (.aload_n 0, 1) := by decide +kernel
theorem dL_act_294 : decode cL_act 294 = .ok (.iconst 1, 1) := by decide +kernel
theorem dL_act_295 : decode cL_act 295 = .ok (.iload 6, 2) := by decide +kernel
theorem dL_act_297 : decode cL_act 297 = .ok (.iconst 3, 1) := by decide +kernel
theorem dL_act_298 : decode cL_act 298 = .ok (.irem, 1) := by decide +kernel
theorem dL_act_299 : decode cL_act 299 = .ok (.iadd, 1) := by decide +kernel
theorem dL_act_300 : decode cL_act 300 = .ok (.invokestatic 174, 3) := by decide +kernel
theorem dL_act_303 : decode cL_act 303 = .ok (.lreturn, 1) := by decide +kernel
theorem dL_act_304 : decode cL_act 304 = .ok (.aload_n 0, 1) := by decide +kernel
theorem dL_act_305 : decode cL_act 305 = .ok (.iload 6, 2) := by decide +kernel
theorem dL_act_307 : decode cL_act 307 = .ok (.invokestatic 297, 3) := by decide +kernel
theorem dL_act_310 : decode cL_act 310 = .ok (.lreturn, 1) := by decide +kernel
theorem dL_act_311 : decode cL_act 311 = .ok (.aload_n 0, 1) := by decide +kernel
theorem dL_act_312 : decode cL_act 312 = .ok (.invokestatic 275, 3) := by decide +kernel
theorem dL_act_315 : decode cL_act 315 = .ok (.lreturn, 1) := by decide +kernel
theorem dL_act_316 : decode cL_act 316 = .ok (.iload 4, 2) := by decide +kernel
theorem dL_act_318 : decode cL_act 318 = .ok (.iconst 2, 1) := by decide +kernel
theorem dL_act_319 : decode cL_act 319 = .ok (.irem, 1) := by decide +kernel
theorem dL_act_320 : decode cL_act 320 = .ok (.ifCond .ne 11, 3) := by decide +kernel
theorem dL_act_323 : decode cL_act 323 = .ok (.aload_n 0, 1) := by decide +kernel
theorem dL_act_324 : decode cL_act 324 = .ok (.invokevirtual 269, 3) := by decide +kernel
theorem dL_act_327 : decode cL_act 327 = .ok (.i2l, 1) := by decide +kernel
theorem dL_act_328 : decode cL_act 328 = .ok (.goto 7, 3) := by decide +kernel
theorem dL_act_331 : decode cL_act 331 = .ok (.aload_n 0, 1) := by decide +kernel
theorem dL_act_332 : decode cL_act 332 = .ok (.invokestatic 281, 3) := by decide +kernel
theorem dL_act_335 : decode cL_act 335 = .ok (.lreturn, 1) := by decide +kernel
theorem dL_act_336 : decode cL_act 336 = .ok (.aload_n 0, 1) := by decide +kernel
theorem dL_act_337 : decode cL_act 337 = .ok (.iload_n 3, 1) := by decide +kernel
theorem dL_act_338 : decode cL_act 338 = .ok (.iconst 0, 1) := by decide +kernel
theorem dL_act_339 : decode cL_act 339 = .ok (.iload 6, 2) := by decide +kernel
theorem dL_act_341 : decode cL_act 341 = .ok (.bipush 9, 2) := by decide +kernel
theorem dL_act_343 : decode cL_act 343 = .ok (.irem, 1) := by decide +kernel
theorem dL_act_344 : decode cL_act 344 = .ok (.invokestatic 149, 3) := by decide +kernel
theorem dL_act_347 : decode cL_act 347 = .ok (.lreturn, 1) := by decide +kernel
theorem dL_law_0 : decode cL_law 0 = .ok (.new 10, 3) := by decide +kernel
theorem dL_law_3 : decode cL_law 3 = .ok (.dup, 1) := by decide +kernel
theorem dL_law_4 : decode cL_law 4 = .ok (.invokespecial 300, 3) := by decide +kernel
theorem dL_law_7 : decode cL_law 7 = .ok (.astore_n 1, 1) := by decide +kernel
theorem dL_law_8 : decode cL_law 8 = .ok (.new 10, 3) := by decide +kernel
theorem dL_law_11 : decode cL_law 11 = .ok (.dup, 1) := by decide +kernel
theorem dL_law_12 : decode cL_law 12 = .ok (.invokespecial 300, 3) := by decide +kernel
theorem dL_law_15 : decode cL_law 15 = .ok (.astore_n 2, 1) := by decide +kernel
theorem dL_law_16 : decode cL_law 16 = .ok (.aload_n 1, 1) := by decide +kernel
theorem dL_law_17 : decode cL_law 17 = .ok (.aload_n 2, 1) := by decide +kernel
theorem dL_law_18 : decode cL_law 18 = .ok (.aload_n 0, 1) := by decide +kernel
theorem dL_law_19 : decode cL_law 19 = .ok (.iconst 0, 1) := by decide +kernel
theorem dL_law_20 : decode cL_law 20 = .ok (.invokestatic 301, 3) := by decide +kernel
theorem dL_law_23 : decode cL_law 23 = .ok (.invokestatic 305, 3) := by decide +kernel
theorem dL_law_26 : decode cL_law 26 = .ok (.ifCond .eq 21, 3) := by decide +kernel
theorem dL_law_29 : decode cL_law 29 = .ok (.aload_n 1, 1) := by decide +kernel
theorem dL_law_30 : decode cL_law 30 = .ok (.invokestatic 309, 3) := by decide +kernel
theorem dL_law_33 : decode cL_law 33 = .ok (.ifCond .eq 14, 3) := by decide +kernel
theorem dL_law_36 : decode cL_law 36 = .ok (.aload_n 1, 1) := by decide +kernel
theorem dL_law_37 : decode cL_law 37 = .ok (.invokestatic 313, 3) := by decide +kernel
theorem dL_law_40 : decode cL_law 40 = .ok (.ifCond .eq 7, 3) := by decide +kernel
theorem dL_law_43 : decode cL_law 43 = .ok (.iconst 1, 1) := by decide +kernel
theorem dL_law_44 : decode cL_law 44 = .ok (.goto 4, 3) := by decide +kernel
theorem dL_law_47 : decode cL_law 47 = .ok (.iconst 0, 1) := by decide +kernel
theorem dL_law_48 : decode cL_law 48 = .ok (.istore_n 3, 1) := by decide +kernel
theorem dL_law_49 : decode cL_law 49 = .ok (.iconst 0, 1) := by decide +kernel
theorem dL_law_50 : decode cL_law 50 = .ok (.istore 4, 2) := by decide +kernel
theorem dL_law_52 : decode cL_law 52 = .ok (.iload 4, 2) := by decide +kernel
theorem dL_law_54 : decode cL_law 54 = .ok (.bipush 40, 2) := by decide +kernel
theorem dL_law_56 : decode cL_law 56 = .ok (.if_icmp .ge 219, 3) := by decide +kernel
theorem dL_law_59 : decode cL_law 59 = .ok (.iload_n 3, 1) := by decide +kernel
theorem dL_law_60 : decode cL_law 60 = .ok (.ifCond .eq 215, 3) := by decide +kernel
theorem dL_law_63 : decode cL_law 63 = .ok (.aload_n 0, 1) := by decide +kernel
theorem dL_law_64 : decode cL_law 64 = .ok (.iconst 2, 1) := by decide +kernel
theorem dL_law_65 : decode cL_law 65 = .ok (.iload 4, 2) := by decide +kernel
theorem dL_law_67 : decode cL_law 67 = .ok (.imul, 1) := by decide +kernel
theorem dL_law_68 : decode cL_law 68 = .ok (.invokestatic 301, 3) := by decide +kernel
theorem dL_law_71 : decode cL_law 71 = .ok (.istore 5, 2) := by decide +kernel
theorem dL_law_73 : decode cL_law 73 = .ok (.aload_n 0, 1) := by decide +kernel
theorem dL_law_74 : decode cL_law 74 = .ok (.iconst 2, 1) := by decide +kernel
theorem dL_law_75 : decode cL_law 75 = .ok (.iload 4, 2) := by decide +kernel
theorem dL_law_77 : decode cL_law 77 = .ok (.imul, 1) := by decide +kernel
theorem dL_law_78 : decode cL_law 78 = .ok (.iconst 1, 1) := by decide +kernel
theorem dL_law_79 : decode cL_law 79 = .ok (.iadd, 1) := by decide +kernel
theorem dL_law_80 : decode cL_law 80 = .ok (.invokestatic 301, 3) := by decide +kernel
theorem dL_law_83 : decode cL_law 83 = .ok (.istore 6, 2) := by decide +kernel
theorem dL_law_85 : decode cL_law 85 = .ok (.aload_n 1, 1) := by decide +kernel
theorem dL_law_86 : decode cL_law 86 = .ok (.iload 4, 2) := by decide +kernel
theorem dL_law_88 : decode cL_law 88 = .ok (.iconst 3, 1) := by decide +kernel
theorem dL_law_89 : decode cL_law 89 = .ok (.if_icmp .ge 7, 3) := by decide +kernel
theorem dL_law_92 : decode cL_law 92 = .ok (.iconst 0, 1) := by decide +kernel
theorem dL_law_93 : decode cL_law 93 = .ok (.goto 5, 3) := by decide +kernel
theorem dL_law_96 : decode cL_law 96 = .ok (.iload 5, 2) := by decide +kernel
theorem dL_law_98 : decode cL_law 98 = .ok (.iload 6, 2) := by decide +kernel
theorem dL_law_100 : decode cL_law 100 = .ok (.invokestatic 316, 3) := by decide +kernel
theorem dL_law_103 : decode cL_law 103 = .ok (.aload_n 2, 1) := by decide +kernel
theorem dL_law_104 : decode cL_law 104 = .ok (.iload 4, 2) := by decide +kernel
theorem dL_law_106 : decode cL_law 106 = .ok (.iconst 3, 1) := by decide +kernel
theorem dL_law_107 : decode cL_law 107 = .ok (.if_icmp .ge 7, 3) := by decide +kernel
theorem dL_law_110 : decode cL_law 110 = .ok (.iconst 0, 1) := by decide +kernel
theorem dL_law_111 : decode cL_law 111 = .ok (.goto 5, 3) := by decide +kernel
theorem dL_law_114 : decode cL_law 114 = .ok (.iload 5, 2) := by decide +kernel
theorem dL_law_116 : decode cL_law 116 = .ok (.iload 6, 2) := by decide +kernel
theorem dL_law_118 : decode cL_law 118 = .ok (.invokestatic 316, 3) := by decide +kernel
theorem dL_law_121 : decode cL_law 121 = .ok (.lcmp, 1) := by decide +kernel
theorem dL_law_122 : decode cL_law 122 = .ok (.ifCond .ne 7, 3) := by decide +kernel
theorem dL_law_125 : decode cL_law 125 = .ok (.iconst 1, 1) := by decide +kernel
theorem dL_law_126 : decode cL_law 126 = .ok (.goto 4, 3) := by decide +kernel
theorem dL_law_129 : decode cL_law 129 = .ok (.iconst 0, 1) := by decide +kernel
theorem dL_law_130 : decode cL_law 130 = .ok (.istore_n 3, 1) := by decide +kernel
theorem dL_law_131 : decode cL_law 131 = .ok (.iload 4, 2) := by decide +kernel
theorem dL_law_133 : decode cL_law 133 = .ok (.bipush 8, 2) := by decide +kernel
theorem dL_law_135 : decode cL_law 135 = .ok (.irem, 1) := by decide +kernel
theorem dL_law_136 : decode cL_law 136 = .ok (.iconst 3, 1) := by decide +kernel
theorem dL_law_137 : decode cL_law 137 = .ok (.if_icmp .ne 27, 3) := by decide +kernel
theorem dL_law_140 : decode cL_law 140 = .ok (.iload_n 3, 1) := by decide +kernel
theorem dL_law_141 : decode cL_law 141 = .ok (.ifCond .eq 21, 3) := by decide +kernel
theorem dL_law_144 : decode cL_law 144 = .ok (.aload_n 2, 1) := by decide +kernel
theorem dL_law_145 : decode cL_law 145 = .ok (.invokestatic 309, 3) := by decide +kernel
theorem dL_law_148 : decode cL_law 148 = .ok (.ifCond .eq 14, 3) := by decide +kernel
theorem dL_law_151 : decode cL_law 151 = .ok (.aload_n 2, 1) := by decide +kernel
theorem dL_law_152 : decode cL_law 152 = .ok (.invokestatic 313, 3) := by decide +kernel
theorem dL_law_155 : decode cL_law 155 = .ok (.ifCond .eq 7, 3) := by decide +kernel
theorem dL_law_158 : decode cL_law 158 = .ok (.iconst 1, 1) := by decide +kernel
theorem dL_law_159 : decode cL_law 159 = .ok (.goto 4, 3) := by decide +kernel
theorem dL_law_162 : decode cL_law 162 = .ok (.iconst 0, 1) := by decide +kernel
theorem dL_law_163 : decode cL_law 163 = .ok (.istore_n 3, 1) := by decide +kernel
theorem dL_law_164 : decode cL_law 164 = .ok (.iload 4, 2) := by decide +kernel
theorem dL_law_166 : decode cL_law 166 = .ok (.bipush 13, 2) := by decide +kernel
theorem dL_law_168 : decode cL_law 168 = .ok (.irem, 1) := by decide +kernel
theorem dL_law_169 : decode cL_law 169 = .ok (.bipush 12, 2) := by decide +kernel
theorem dL_law_171 : decode cL_law 171 = .ok (.if_icmp .ne 70, 3) := by decide +kernel
theorem dL_law_174 : decode cL_law 174 = .ok (.iload_n 3, 1) := by decide +kernel
theorem dL_law_175 : decode cL_law 175 = .ok (.ifCond .eq 27, 3) := by decide +kernel
theorem dL_law_178 : decode cL_law 178 = .ok (.aload_n 2, 1) := by decide +kernel
theorem dL_law_179 : decode cL_law 179 = .ok (.iload 6, 2) := by decide +kernel
theorem dL_law_181 : decode cL_law 181 = .ok (.invokestatic 319, 3) := by decide +kernel
theorem dL_law_184 : decode cL_law 184 = .ok (.ifCond .eq 18, 3) := by decide +kernel
theorem dL_law_187 : decode cL_law 187 = .ok (.aload_n 1, 1) := by decide +kernel
theorem dL_law_188 : decode cL_law 188 = .ok (.invokevirtual 269, 3) := by decide +kernel
theorem dL_law_191 : decode cL_law 191 = .ok (.aload_n 1, 1) := by decide +kernel
theorem dL_law_192 : decode cL_law 192 = .ok (.invokevirtual 228, 3) := by decide +kernel
theorem dL_law_195 : decode cL_law 195 = .ok (.if_icmp .ne 7, 3) := by decide +kernel
theorem dL_law_198 : decode cL_law 198 = .ok (.iconst 1, 1) := by decide +kernel
theorem dL_law_199 : decode cL_law 199 = .ok (.goto 4, 3) := by decide +kernel
theorem dL_law_202 : decode cL_law 202 = .ok (.iconst 0, 1) := by decide +kernel
theorem dL_law_203 : decode cL_law 203 = .ok (.istore_n 3, 1) := by decide +kernel
theorem dL_law_204 : decode cL_law 204 = .ok (.iconst 0, 1) := by decide +kernel
theorem dL_law_205 : decode cL_law 205 = .ok (.istore 7, 2) := by decide +kernel
theorem dL_law_207 : decode cL_law 207 = .ok (.iload 7, 2) := by decide +kernel
theorem dL_law_209 : decode cL_law 209 = .ok (.iconst 5, 1) := by decide +kernel
theorem dL_law_210 : decode cL_law 210 = .ok (.if_icmp .ge 31, 3) := by decide +kernel
theorem dL_law_213 : decode cL_law 213 = .ok (.iload_n 3, 1) := by decide +kernel
theorem dL_law_214 : decode cL_law 214 = .ok (.ifCond .eq 27, 3) := by decide +kernel
theorem dL_law_217 : decode cL_law 217 = .ok (.aload_n 1, 1) := by decide +kernel
theorem dL_law_218 : decode cL_law 218 = .ok (.invokestatic 281, 3) := by decide +kernel
theorem dL_law_221 : decode cL_law 221 = .ok (.aload_n 2, 1) := by decide +kernel
theorem dL_law_222 : decode cL_law 222 = .ok (.invokestatic 281, 3) := by decide +kernel
theorem dL_law_225 : decode cL_law 225 = .ok (.lcmp, 1) := by decide +kernel
theorem dL_law_226 : decode cL_law 226 = .ok (.ifCond .ne 7, 3) := by decide +kernel
theorem dL_law_229 : decode cL_law 229 = .ok (.iconst 1, 1) := by decide +kernel
theorem dL_law_230 : decode cL_law 230 = .ok (.goto 4, 3) := by decide +kernel
theorem dL_law_233 : decode cL_law 233 = .ok (.iconst 0, 1) := by decide +kernel
theorem dL_law_234 : decode cL_law 234 = .ok (.istore_n 3, 1) := by decide +kernel
theorem dL_law_235 : decode cL_law 235 = .ok (.iinc 7 1, 3) := by decide +kernel
theorem dL_law_238 : decode cL_law 238 = .ok (.goto (-31), 3) := by decide +kernel
theorem dL_law_241 : decode cL_law 241 = .ok (.iload_n 3, 1) := by decide +kernel
theorem dL_law_242 : decode cL_law 242 = .ok (.ifCond .eq 25, 3) := by decide +kernel
theorem dL_law_245 : decode cL_law 245 = .ok (.iload 4, 2) := by decide +kernel
theorem dL_law_247 : decode cL_law 247 = .ok (.bipush 10, 2) := by decide +kernel
theorem dL_law_249 : decode cL_law 249 = .ok (.irem, 1) := by decide +kernel
theorem dL_law_250 : decode cL_law 250 = .ok (.ifCond .gt 13, 3) := by decide +kernel
theorem dL_law_253 : decode cL_law 253 = .ok (.aload_n 1, 1) := by decide +kernel
theorem dL_law_254 : decode cL_law 254 = .ok (.aload_n 2, 1) := by decide +kernel
theorem dL_law_255 : decode cL_law 255 = .ok (.iload 6, 2) := by decide +kernel
theorem dL_law_257 : decode cL_law 257 = .ok (.invokestatic 305, 3) := by decide +kernel
theorem dL_law_260 : decode cL_law 260 = .ok (.ifCond .eq 7, 3) := by decide +kernel
theorem dL_law_263 : decode cL_law 263 = .ok (.iconst 1, 1) := by decide +kernel
theorem dL_law_264 : decode cL_law 264 = .ok (.goto 4, 3) := by decide +kernel
theorem dL_law_267 : decode cL_law 267 = .ok (.iconst 0, 1) := by decide +kernel
theorem dL_law_268 : decode cL_law 268 = .ok (.istore_n 3, 1) := by decide +kernel
theorem dL_law_269 : decode cL_law 269 = .ok (.iinc 4 1, 3) := by decide +kernel
theorem dL_law_272 : decode cL_law 272 = .ok (.goto (-220), 3) := by decide +kernel
theorem dL_law_275 : decode cL_law 275 = .ok (.iload_n 3, 1) := by decide +kernel
theorem dL_law_276 : decode cL_law 276 = .ok (.ifCond .eq 18, 3) := by decide +kernel
theorem dL_law_279 : decode cL_law 279 = .ok (.aload_n 1, 1) := by decide +kernel
theorem dL_law_280 : decode cL_law 280 = .ok (.aload_n 2, 1) := by decide +kernel
theorem dL_law_281 : decode cL_law 281 = .ok (.sipush 11113, 3) := by decide +kernel
theorem dL_law_284 : decode cL_law 284 = .ok (.invokestatic 305, 3) := by decide +kernel
theorem dL_law_287 : decode cL_law 287 = .ok (.ifCond .eq 7, 3) := by decide +kernel
theorem dL_law_290 : decode cL_law 290 = .ok (.iconst 1, 1) := by decide +kernel
theorem dL_law_291 : decode cL_law 291 = .ok (.goto 4, 3) := by decide +kernel
theorem dL_law_294 : decode cL_law 294 = .ok (.iconst 0, 1) := by decide +kernel
theorem dL_law_295 : decode cL_law 295 = .ok (.ireturn, 1) := by decide +kernel
