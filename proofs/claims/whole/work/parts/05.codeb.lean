theorem b_X_init_0 : sysS.2.1 0 0 = [.aload 0, .monitorexit, .aload 0, .new 1, .dup, .invokespecial 37, .putfield 2, .aload 0, .new 2, .dup, .invokespecial 41, .putfield 12, .aload 0, .new 5, .dup, .invokespecial 65, .putfield 22, .aload 0, .new 7, .dup, .invokespecial 93, .putfield 32, .aload 0, .new 6, .dup, .invokespecial 81, .putfield 42, .aload 0, .iconst 6, .anewarray 9, .putfield 52, .iconst 0, .istore 1, .goto_w 70] := rfl
theorem b_X_init_70 : sysS.2.1 0 70 = [.iload 1, .aload 0, .getfield 52, .arraylength, .if_icmp .ge 98, .aload 0, .getfield 52, .iload 1, .new 9, .dup, .invokespecial 109, .aastore, .iinc 1 1, .goto 70] := rfl
theorem b_X_init_98 : sysS.2.1 0 98 = [.aload 0, .iconst 4, .anewarray 10, .putfield 62, .iconst 0, .istore 1, .goto_w 108] := rfl
theorem b_X_init_108 : sysS.2.1 0 108 = [.iload 1, .aload 0, .getfield 62, .arraylength, .if_icmp .ge 136, .aload 0, .getfield 62, .iload 1, .new 10, .dup, .invokespecial 120, .aastore, .iinc 1 1, .goto 108] := rfl
theorem b_X_init_136 : sysS.2.1 0 136 = [.aload 0, .iconst 1, .putfield 70, .return_] := rfl
theorem b_X_feed_0 : sysS.2.1 1 0 = [.aload 0, .getfield 2, .iconst 20, .invokevirtual 38, .ifCond .ne 15, .iconst (-2), .ireturn] := rfl
theorem b_X_feed_15 : sysS.2.1 1 15 = [.aload 0, .getfield 2, .iload 1, .invokevirtual 39, .aload 0, .getfield 2, .iload 2, .invokevirtual 39, .aload 0, .getfield 2, .iload 3, .invokevirtual 39, .aload 0, .getfield 2, .iload 4, .invokevirtual 39, .aload 0, .getfield 2, .iload 5, .invokevirtual 39, .aload 0, .getfield 2, .getfield 1010, .ireturn] := rfl
theorem b_X_keep_0 : sysS.2.1 2 0 = [.iload 1, .ifCond .lt 15, .iload 1, .aload 0, .getfield 2, .getfield 1010, .if_icmp .le 17, .goto_w 15] := rfl
theorem b_X_keep_15 : sysS.2.1 2 15 = [.iconst (-1), .ireturn] := rfl
theorem b_X_keep_17 : sysS.2.1 2 17 = [.aload 0, .getfield 2, .getfield 1010, .iload 1, .isub, .istore 2, .aload 0, .getfield 2, .iload 1, .putfield 1010, .iload 2, .ireturn] := rfl
theorem b_X_rule_0 : sysS.2.1 3 0 = [.aload 0, .getfield 32, .lload 1, .invokevirtual 95, .ifCond .eq 13, .iconst (-1), .ireturn] := rfl
theorem b_X_rule_13 : sysS.2.1 3 13 = [.aload 0, .getfield 32, .invokevirtual 94, .ifCond .eq 26, .iconst (-2), .ireturn] := rfl
theorem b_X_rule_26 : sysS.2.1 3 26 = [.aload 0, .getfield 22, .aload 0, .getfield 2, .aload 0, .getfield 12, .invokevirtual 66, .aload 0, .getfield 2, .iconst 0, .putfield 1010, .aload 0, .aload 0, .getfield 22, .getfield 5030, .putfield 110, .aload 0, .getfield 22, .getfield 5030, .ifCond .eq 81, .iconst (-10), .aload 0, .getfield 22, .getfield 5040, .isub, .ireturn] := rfl
theorem b_X_rule_81 : sysS.2.1 3 81 = [.aload 0, .getfield 32, .aload 0, .getfield 12, .aload 0, .getfield 22, .getfield 5021, .invokevirtual 43, .new 4, .dup, .aload 0, .getfield 22, .getfield 5012, .invokespecial 60, .lload 1, .invokevirtual 98, .aload 0, .getfield 32, .getfield 7070, .ireturn] := rfl
theorem b_X_fault_0 : sysS.2.1 4 0 = [.aload 0, .getfield 110, .ireturn] := rfl
theorem b_X_drop_0 : sysS.2.1 5 0 = [.aload 0, .getfield 32, .aload 0, .getfield 32, .getfield 7070, .iload 1, .invokevirtual 102, .ifCond .eq 29, .aload 0, .getfield 32, .lload 2, .invokevirtual 95, .ifCond .eq 31, .goto_w 29] := rfl
theorem b_X_drop_29 : sysS.2.1 5 29 = [.iconst (-1), .ireturn] := rfl
theorem b_X_drop_31 : sysS.2.1 5 31 = [.aload 0, .getfield 32, .invokevirtual 94, .ifCond .eq 44, .iconst (-2), .ireturn] := rfl
theorem b_X_drop_44 : sysS.2.1 5 44 = [.aload 0, .getfield 32, .iload 1, .lload 2, .invokevirtual 99, .aload 0, .getfield 32, .getfield 7070, .ireturn] := rfl
theorem b_X_alike_0 : sysS.2.1 6 0 = [.aload 0, .getfield 93, .ifCond .eq 11, .iconst 1, .goto 12] := rfl
theorem b_X_alike_11 : sysS.2.1 6 11 = [.iconst 0, .goto_w 12] := rfl
theorem b_X_alike_12 : sysS.2.1 6 12 = [.istore 2, .aload 0, .iload 1, .putfield 93, .iload 2, .ireturn] := rfl
theorem b_X_asOf_0 : sysS.2.1 7 0 = [.aload 0, .getfield 103, .ifCond .eq 11, .iconst 1, .goto 12] := rfl
theorem b_X_asOf_11 : sysS.2.1 7 11 = [.iconst 0, .goto_w 12] := rfl
theorem b_X_asOf_12 : sysS.2.1 7 12 = [.istore 2, .aload 0, .iload 1, .putfield 103, .iload 2, .ireturn] := rfl
theorem b_X_tasks_0 : sysS.2.1 8 0 = [.iload 1, .iconst 1, .if_icmp .lt 11, .iload 1, .iconst 6, .if_icmp .le 13, .goto_w 11] := rfl
theorem b_X_tasks_11 : sysS.2.1 8 11 = [.iconst (-1), .ireturn] := rfl
theorem b_X_tasks_13 : sysS.2.1 8 13 = [.aload 0, .getfield 70, .istore 2, .aload 0, .iload 1, .putfield 70, .iload 2, .istore 3, .goto_w 25] := rfl
theorem b_X_tasks_25 : sysS.2.1 8 25 = [.iload 3, .iload 1, .if_icmp .ge 63, .aload 0, .getfield 52, .iload 3, .aaload, .aload 0, .getfield 52, .iconst 0, .aaload, .getfield 9000, .aload 0, .getfield 52, .iconst 0, .aaload, .getfield 9011, .invokevirtual 110, .iinc 3 1, .goto 25] := rfl
theorem b_X_tasks_63 : sysS.2.1 8 63 = [.iload 1, .istore 3, .goto_w 65] := rfl
theorem b_X_tasks_65 : sysS.2.1 8 65 = [.iload 3, .iload 2, .if_icmp .ge 146, .aload 0, .getfield 52, .iload 3, .aaload, .astore 4, .iconst 0, .istore 5, .goto_w 81] := rfl
theorem b_X_tasks_81 : sysS.2.1 8 81 = [.iload 5, .aload 4, .getfield 9040, .if_icmp .ge 140, .aload 4, .iload 5, .invokevirtual 114, .astore 6, .aload 6, .ifnull 134, .aload 0, .aload 0, .getfield 52, .iload 3, .iload 1, .irem, .aaload, .aload 6, .invokevirtual 32, .iconst (-2), .if_icmp .ne 134, .aload 0, .dup, .getfield 120, .iconst 1, .iadd, .putfield 120, .goto_w 134] := rfl
theorem b_X_tasks_134 : sysS.2.1 8 134 = [.iinc 5 1, .goto 81] := rfl
theorem b_X_tasks_140 : sysS.2.1 8 140 = [.iinc 3 1, .goto 65] := rfl
theorem b_X_tasks_146 : sysS.2.1 8 146 = [.iload 2, .ireturn] := rfl
theorem b_X_row_0 : sysS.2.1 9 0 = [.aload 0, .iload 1, .invokevirtual 27, .astore 8, .aload 8, .ifnonnull 16, .iconst (-1), .goto 42] := rfl
theorem b_X_row_16 : sysS.2.1 9 16 = [.aload 0, .aload 8, .new 8, .dup, .lload 2, .lload 4, .lload 6, .aload 0, .aload 8, .lload 4, .invokevirtual 29, .invokespecial 108, .invokevirtual 32, .goto_w 42] := rfl
theorem b_X_row_42 : sysS.2.1 9 42 = [.ireturn] := rfl
theorem b_X_goes_0 : sysS.2.1 10 0 = [.aload 0, .iload 1, .invokevirtual 28, .astore 8, .aload 8, .ifnonnull 14, .iconst (-1), .ireturn] := rfl
theorem b_X_goes_14 : sysS.2.1 10 14 = [.aload 0, .getfield 42, .lload 2, .lload 4, .lload 6, .jsr_w 0, .invokevirtual 82, .aload 0, .getfield 42, .aload 8, .invokevirtual 83, .lstore 9, .aload 0, .getfield 42, .getfield 6060, .ifCond .eq 61, .iconst (-10), .aload 0, .getfield 42, .getfield 6060, .isub, .goto 72] := rfl
theorem b_X_goes_61 : sysS.2.1 10 61 = [.lload 9, .aload 0, .getfield 70, .i2l, .invokestatic 211, .l2i, .goto_w 72] := rfl
theorem b_X_goes_72 : sysS.2.1 10 72 = [.ireturn] := rfl
theorem b_X_send_0 : sysS.2.1 11 0 = [.aload 0, .iload 1, .lload 2, .lload 4, .lload 6, .invokevirtual 10, .istore 8, .aload 0, .iload 8, .invokevirtual 27, .astore 9, .aload 9, .ifnonnull 28, .iload 8, .ireturn] := rfl
theorem b_X_send_28 : sysS.2.1 11 28 = [.aload 0, .aload 9, .new 8, .dup, .lload 2, .lload 4, .lload 6, .aload 0, .aload 9, .lload 4, .invokevirtual 29, .invokespecial 108, .invokevirtual 32, .iconst (-2), .if_icmp .ne 64, .iconst (-2), .goto 66] := rfl
theorem b_X_send_64 : sysS.2.1 11 64 = [.iload 8, .goto_w 66] := rfl
theorem b_X_send_66 : sysS.2.1 11 66 = [.ireturn] := rfl
theorem b_X_apply_0 : sysS.2.1 12 0 = [.aload 0, .iload 1, .invokevirtual 27, .astore 3, .aload 3, .ifnull 20, .iload 2, .ifCond .lt 20, .iload 2, .iconst 60, .if_icmp .le 22, .goto_w 20] := rfl
theorem b_X_apply_20 : sysS.2.1 12 20 = [.iconst (-1), .ireturn] := rfl
theorem b_X_apply_22 : sysS.2.1 12 22 = [.iconst 0, .istore 4, .goto_w 25] := rfl
theorem b_X_apply_25 : sysS.2.1 12 25 = [.iload 4, .iload 2, .if_icmp .ge 66, .aload 3, .getfield 9000, .aload 0, .getfield 32, .getfield 7070, .if_icmp .ge 66, .aload 3, .dup, .getfield 9000, .iconst 1, .iadd, .putfield 9000, .iinc 4 1, .aload 0, .aload 3, .invokevirtual 33, .goto 25] := rfl
theorem b_X_apply_66 : sysS.2.1 12 66 = [.iload 4, .ireturn] := rfl
theorem b_X_out_0 : sysS.2.1 13 0 = [.aload 0, .iload 1, .invokevirtual 27, .astore 3, .aload 3, .ifnonnull 14, .jsr_w 0, .goto 19] := rfl
theorem b_X_out_14 : sysS.2.1 13 14 = [.aload 3, .iload 2, .invokevirtual 118, .goto_w 19] := rfl
theorem b_X_out_19 : sysS.2.1 13 19 = [.lreturn] := rfl
theorem b_X_from_0 : sysS.2.1 14 0 = [.aload 0, .iload 1, .invokevirtual 27, .astore 3, .aload 3, .ifnonnull 14, .iconst (-1), .goto 19] := rfl
theorem b_X_from_14 : sysS.2.1 14 14 = [.aload 3, .iload 2, .invokevirtual 119, .goto_w 19] := rfl
theorem b_X_from_19 : sysS.2.1 14 19 = [.ireturn] := rfl
theorem b_X_at_0 : sysS.2.1 15 0 = [.aload 0, .getfield 32, .lload 1, .invokevirtual 97, .ireturn] := rfl
theorem b_X_rules_0 : sysS.2.1 16 0 = [.iload 1, .ifCond .lt 30, .iload 1, .aload 0, .getfield 32, .getfield 7070, .if_icmp .gt 30, .iload 2, .ifCond .lt 30, .iload 2, .aload 0, .getfield 12, .getfield 2010, .if_icmp .lt 32, .goto_w 30] := rfl
theorem b_X_rules_30 : sysS.2.1 16 30 = [.iconst (-1), .ireturn] := rfl
theorem b_X_rules_32 : sysS.2.1 16 32 = [.aload 0, .getfield 32, .iload 1, .iload 2, .invokevirtual 102, .istore 4, .iload 3, .tableswitch 114 (0) (2) #[72, 83, 96]] := rfl
theorem b_X_rules_72 : sysS.2.1 16 72 = [.iload 4, .ifCond .eq 81, .iconst 1, .goto 82] := rfl
theorem b_X_rules_81 : sysS.2.1 16 81 = [.iconst 0, .goto_w 82] := rfl
theorem b_X_rules_82 : sysS.2.1 16 82 = [.ireturn] := rfl
theorem b_X_rules_83 : sysS.2.1 16 83 = [.iload 4, .ifCond .eq 93, .iload 4, .goto 95] := rfl
theorem b_X_rules_93 : sysS.2.1 16 93 = [.iconst (-5), .goto_w 95] := rfl
theorem b_X_rules_95 : sysS.2.1 16 95 = [.ireturn] := rfl
theorem b_X_rules_96 : sysS.2.1 16 96 = [.aload 0, .getfield 32, .iload 1, .iload 2, .invokevirtual 103, .ifCond .eq 112, .iconst 1, .goto 113] := rfl
theorem b_X_rules_112 : sysS.2.1 16 112 = [.iconst 0, .goto_w 113] := rfl
theorem b_X_rules_113 : sysS.2.1 16 113 = [.ireturn] := rfl
theorem b_X_rules_114 : sysS.2.1 16 114 = [.iconst (-1), .ireturn] := rfl
theorem b_X_off_0 : sysS.2.1 17 0 = [.aload 0, .iload 1, .invokevirtual 27, .astore 3, .aload 3, .ifnull 25, .aload 0, .getfield 32, .aload 3, .getfield 9000, .iload 2, .invokevirtual 102, .ifCond .ne 27, .goto_w 25] := rfl
theorem b_X_off_25 : sysS.2.1 17 25 = [.iconst (-1), .ireturn] := rfl
theorem b_X_off_27 : sysS.2.1 17 27 = [.aload 0, .aload 3, .iload 2, .invokevirtual 31, .ifCond .eq 40, .iconst 1, .goto 41] := rfl
theorem b_X_off_40 : sysS.2.1 17 40 = [.iconst 0, .goto_w 41] := rfl
theorem b_X_off_41 : sysS.2.1 17 41 = [.ireturn] := rfl
theorem b_X_change_0 : sysS.2.1 18 0 = [.iload 1, .iconst 1, .if_icmp .lt 16, .iload 1, .aload 0, .getfield 32, .getfield 7070, .if_icmp .le 18, .goto_w 16] := rfl
theorem b_X_change_16 : sysS.2.1 18 16 = [.iconst (-1), .ireturn] := rfl
theorem b_X_change_18 : sysS.2.1 18 18 = [.iload 2, .tableswitch 74 (0) (2) #[44, 54, 64]] := rfl
theorem b_X_change_44 : sysS.2.1 18 44 = [.aload 0, .getfield 32, .getfield 7002, .iload 1, .iaload, .ireturn] := rfl
theorem b_X_change_54 : sysS.2.1 18 54 = [.aload 0, .getfield 32, .getfield 7012, .iload 1, .iaload, .ireturn] := rfl
theorem b_X_change_64 : sysS.2.1 18 64 = [.aload 0, .getfield 32, .getfield 7022, .iload 1, .iaload, .ireturn] := rfl
theorem b_X_change_74 : sysS.2.1 18 74 = [.iconst (-1), .ireturn] := rfl
theorem b_X_when_0 : sysS.2.1 19 0 = [.iload 1, .iconst 1, .if_icmp .lt 16, .iload 1, .aload 0, .getfield 32, .getfield 7070, .if_icmp .le 20, .goto_w 16] := rfl
theorem b_X_when_16 : sysS.2.1 19 16 = [.jsr_w 0, .goto 29] := rfl
theorem b_X_when_20 : sysS.2.1 19 20 = [.aload 0, .getfield 32, .getfield 7032, .iload 1, .laload, .goto_w 29] := rfl
theorem b_X_when_29 : sysS.2.1 19 29 = [.lreturn] := rfl
theorem b_X_failed_0 : sysS.2.1 20 0 = [.aload 0, .iload 1, .invokevirtual 27, .astore 3, .aload 3, .ifnonnull 12, .iconst (-1), .ireturn] := rfl
theorem b_X_failed_12 : sysS.2.1 20 12 = [.iload 2, .tableswitch 55 (0) (2) #[40, 45, 50]] := rfl
theorem b_X_failed_40 : sysS.2.1 20 40 = [.aload 3, .getfield 9090, .ireturn] := rfl
theorem b_X_failed_45 : sysS.2.1 20 45 = [.aload 3, .getfield 9100, .ireturn] := rfl
theorem b_X_failed_50 : sysS.2.1 20 50 = [.aload 3, .getfield 9110, .ireturn] := rfl
theorem b_X_failed_55 : sysS.2.1 20 55 = [.iconst (-1), .ireturn] := rfl
theorem b_X_tries_0 : sysS.2.1 21 0 = [.aload 0, .iload 1, .invokevirtual 28, .astore 8, .aload 8, .ifnonnull 14, .iconst (-1), .ireturn] := rfl
theorem b_X_tries_14 : sysS.2.1 21 14 = [.aload 0, .getfield 42, .lload 2, .lload 4, .lload 6, .jsr_w 0, .invokevirtual 82, .aload 0, .getfield 42, .aload 8, .invokevirtual 84, .istore 9, .aload 0, .getfield 42, .getfield 6060, .ifCond .eq 61, .iconst (-10), .aload 0, .getfield 42, .getfield 6060, .isub, .goto 63] := rfl
theorem b_X_tries_61 : sysS.2.1 21 61 = [.iload 9, .goto_w 63] := rfl
theorem b_X_tries_63 : sysS.2.1 21 63 = [.ireturn] := rfl
theorem b_X_mark_0 : sysS.2.1 22 0 = [.aload 0, .getfield 80, .iconst 4, .if_icmp .lt 11, .iconst (-2), .ireturn] := rfl
theorem b_X_mark_11 : sysS.2.1 22 11 = [.aload 0, .getfield 62, .aload 0, .getfield 80, .aaload, .astore 1, .aload 1, .aload 0, .getfield 32, .getfield 7070, .putfield 10000, .iconst 0, .istore 2, .goto_w 34] := rfl
theorem b_X_mark_34 : sysS.2.1 22 34 = [.iload 2, .iconst 6, .if_icmp .ge 73, .aload 1, .getfield 10012, .iload 2, .iload 2, .aload 0, .getfield 70, .if_icmp .ge 65, .aload 0, .getfield 52, .iload 2, .aaload, .getfield 9011, .goto 66] := rfl
theorem b_X_mark_65 : sysS.2.1 22 65 = [.jsr_w 0, .goto_w 66] := rfl
theorem b_X_mark_66 : sysS.2.1 22 66 = [.lastore, .iinc 2 1, .goto 34] := rfl
theorem b_X_mark_73 : sysS.2.1 22 73 = [.aload 0, .dup, .getfield 80, .iconst 1, .iadd, .putfield 80, .aload 0, .getfield 80, .iconst 1, .isub, .ireturn] := rfl
theorem b_X_restore_0 : sysS.2.1 23 0 = [.iload 1, .ifCond .lt 12, .iload 1, .aload 0, .getfield 80, .if_icmp .lt 14, .goto_w 12] := rfl
theorem b_X_restore_12 : sysS.2.1 23 12 = [.iconst (-1), .ireturn] := rfl
theorem b_X_restore_14 : sysS.2.1 23 14 = [.aload 0, .getfield 32, .invokevirtual 94, .ifCond .eq 27, .iconst (-2), .ireturn] := rfl
theorem b_X_restore_27 : sysS.2.1 23 27 = [.aload 0, .getfield 62, .iload 1, .aaload, .astore 2, .aload 0, .getfield 32, .aload 2, .getfield 10000, .invokevirtual 101, .iconst 0, .istore 3, .goto_w 47] := rfl
theorem b_X_restore_47 : sysS.2.1 23 47 = [.iload 3, .aload 0, .getfield 70, .if_icmp .ge 104, .aload 0, .getfield 52, .iload 3, .aaload, .aload 2, .getfield 10012, .iload 3, .laload, .putfield 9011, .aload 0, .dup, .getfield 120, .aload 0, .getfield 52, .iload 3, .aaload, .getfield 9040, .iadd, .putfield 120, .aload 0, .getfield 52, .iload 3, .aaload, .iconst 0, .putfield 9040, .iinc 3 1, .goto 47] := rfl
theorem b_X_restore_104 : sysS.2.1 23 104 = [.aload 0, .getfield 32, .getfield 7070, .ireturn] := rfl
theorem b_X_same_0 : sysS.2.1 24 0 = [.aload 0, .iload 1, .invokevirtual 27, .astore 3, .aload 0, .iload 2, .invokevirtual 27, .astore 4, .aload 3, .ifnull 22, .aload 4, .ifnonnull 24, .goto_w 22] := rfl
theorem b_X_same_22 : sysS.2.1 24 22 = [.iconst (-1), .ireturn] := rfl
theorem b_X_same_24 : sysS.2.1 24 24 = [.iconst 0, .istore 5, .goto_w 27] := rfl
theorem b_X_same_27 : sysS.2.1 24 27 = [.iload 5, .aload 0, .getfield 12, .getfield 2010, .if_icmp .ge 95, .aload 0, .getfield 32, .aload 3, .getfield 9000, .iload 5, .invokevirtual 102, .aload 0, .getfield 32, .aload 4, .getfield 9000, .iload 5, .invokevirtual 102, .if_icmp .ne 87, .aload 0, .aload 3, .iload 5, .invokevirtual 31, .aload 0, .aload 4, .iload 5, .invokevirtual 31, .if_icmp .eq 89, .goto_w 87] := rfl
theorem b_X_same_87 : sysS.2.1 24 87 = [.iconst 0, .ireturn] := rfl
theorem b_X_same_89 : sysS.2.1 24 89 = [.iinc 5 1, .goto 27] := rfl
theorem b_X_same_95 : sysS.2.1 24 95 = [.iconst 1, .ireturn] := rfl
theorem b_X_count_0 : sysS.2.1 25 0 = [.iload 1, .tableswitch 85 (0) (6) #[44, 49, 57, 65, 70, 75, 80]] := rfl
theorem b_X_count_44 : sysS.2.1 25 44 = [.aload 0, .getfield 70, .ireturn] := rfl
theorem b_X_count_49 : sysS.2.1 25 49 = [.aload 0, .getfield 32, .getfield 7070, .ireturn] := rfl
theorem b_X_count_57 : sysS.2.1 25 57 = [.aload 0, .getfield 12, .getfield 2010, .ireturn] := rfl
theorem b_X_count_65 : sysS.2.1 25 65 = [.aload 0, .getfield 120, .ireturn] := rfl
theorem b_X_count_70 : sysS.2.1 25 70 = [.aload 0, .getfield 130, .ireturn] := rfl
theorem b_X_count_75 : sysS.2.1 25 75 = [.aload 0, .getfield 140, .ireturn] := rfl
theorem b_X_count_80 : sysS.2.1 25 80 = [.aload 0, .getfield 80, .ireturn] := rfl
theorem b_X_count_85 : sysS.2.1 25 85 = [.iload 1, .iconst 10, .if_icmp .ge 95, .iconst (-1), .goto 110] := rfl
theorem b_X_count_95 : sysS.2.1 25 95 = [.aload 0, .iload 1, .iconst 10, .irem, .invokevirtual 27, .iload 1, .iconst 10, .idiv, .invokestatic 30, .goto_w 110] := rfl
theorem b_X_count_110 : sysS.2.1 25 110 = [.ireturn] := rfl
theorem b_X_clear_0 : sysS.2.1 26 0 = [.aload 0, .getfield 32, .getfield 7070, .istore 1, .aload 0, .getfield 2, .iconst 0, .putfield 1010, .aload 0, .getfield 12, .iconst 0, .putfield 2010, .aload 0, .getfield 32, .iconst 0, .putfield 7070, .aload 0, .getfield 52, .iconst 0, .aaload, .iconst 0, .jsr_w 0, .invokevirtual 110, .aload 0, .iconst 1, .putfield 70, .aload 0, .iconst 0, .putfield 80, .aload 0, .iconst 0, .putfield 93, .aload 0, .iconst 0, .putfield 103, .aload 0, .iconst 0, .putfield 110, .aload 0, .iconst 0, .putfield 120, .aload 0, .iconst 0, .putfield 130, .aload 0, .iconst 0, .putfield 140, .iload 1, .ireturn] := rfl
theorem b_X_taskOf_0 : sysS.2.1 27 0 = [.iload 1, .ifCond .lt 12, .iload 1, .aload 0, .getfield 70, .if_icmp .lt 16, .goto_w 12] := rfl
theorem b_X_taskOf_12 : sysS.2.1 27 12 = [.aconst_null, .goto 22] := rfl
theorem b_X_taskOf_16 : sysS.2.1 27 16 = [.aload 0, .getfield 52, .iload 1, .aaload, .goto_w 22] := rfl
theorem b_X_taskOf_22 : sysS.2.1 27 22 = [.areturn] := rfl
theorem b_X_latestProgram_0 : sysS.2.1 28 0 = [.aload 0, .getfield 32, .aload 0, .getfield 32, .aload 0, .getfield 32, .getfield 7070, .iload 1, .invokevirtual 102, .invokevirtual 104, .areturn] := rfl
theorem b_X_versionFor_0 : sysS.2.1 29 0 = [.aload 0, .getfield 103, .ifCond .eq 18, .aload 0, .getfield 32, .lload 2, .invokevirtual 97, .goto 22] := rfl
theorem b_X_versionFor_18 : sysS.2.1 29 18 = [.aload 1, .getfield 9000, .goto_w 22] := rfl
theorem b_X_versionFor_22 : sysS.2.1 29 22 = [.ireturn] := rfl
theorem b_X_countOfTask_0 : sysS.2.1 30 0 = [.aload 0, .ifnonnull 6, .iconst (-1), .ireturn] := rfl
theorem b_X_countOfTask_6 : sysS.2.1 30 6 = [.iload 1, .tableswitch 56 (1) (4) #[36, 41, 46, 51]] := rfl
theorem b_X_countOfTask_36 : sysS.2.1 30 36 = [.aload 0, .getfield 9000, .ireturn] := rfl
theorem b_X_countOfTask_41 : sysS.2.1 30 41 = [.aload 0, .getfield 9020, .ireturn] := rfl
theorem b_X_countOfTask_46 : sysS.2.1 30 46 = [.aload 0, .getfield 9040, .ireturn] := rfl
theorem b_X_countOfTask_51 : sysS.2.1 30 51 = [.aload 0, .getfield 9080, .ireturn] := rfl
theorem b_X_countOfTask_56 : sysS.2.1 30 56 = [.iconst (-1), .ireturn] := rfl
theorem b_X_isOffAt_0 : sysS.2.1 31 0 = [.aload 0, .getfield 32, .aload 1, .getfield 9000, .iload 2, .invokevirtual 102, .istore 3, .iload 3, .ifCond .eq 44, .aload 0, .getfield 32, .aload 1, .getfield 9000, .iload 2, .invokevirtual 103, .ifCond .eq 40, .aload 1, .iload 3, .invokevirtual 111, .ifCond .eq 44, .goto_w 40] := rfl
theorem b_X_isOffAt_40 : sysS.2.1 31 40 = [.iconst 1, .goto 45] := rfl
theorem b_X_isOffAt_44 : sysS.2.1 31 44 = [.iconst 0, .goto_w 45] := rfl
theorem b_X_isOffAt_45 : sysS.2.1 31 45 = [.ireturn] := rfl
theorem b_X_comeTo_0 : sysS.2.1 32 0 = [.aload 2, .getfield 8030, .aload 1, .getfield 9000, .if_icmp .gt 18, .aload 0, .aload 1, .aload 2, .invokevirtual 34, .ireturn] := rfl
theorem b_X_comeTo_18 : sysS.2.1 32 18 = [.aload 1, .aload 2, .invokevirtual 113, .ifCond .eq 31, .iconst (-4), .goto 33] := rfl
theorem b_X_comeTo_31 : sysS.2.1 32 31 = [.iconst (-2), .goto_w 33] := rfl
theorem b_X_comeTo_33 : sysS.2.1 32 33 = [.ireturn] := rfl
theorem b_X_judgeReady_0 : sysS.2.1 33 0 = [.iconst 0, .istore 2, .goto_w 2] := rfl
theorem b_X_judgeReady_2 : sysS.2.1 33 2 = [.iload 2, .iconst 6, .if_icmp .ge 31, .aload 1, .invokevirtual 115, .astore 3, .aload 3, .ifnonnull 18, .return_] := rfl
theorem b_X_judgeReady_18 : sysS.2.1 33 18 = [.aload 0, .aload 1, .aload 3, .invokevirtual 34, .pop, .iinc 2 1, .goto 2] := rfl
theorem b_X_judgeReady_31 : sysS.2.1 33 31 = [.return_] := rfl
theorem b_X_judge_0 : sysS.2.1 34 0 = [.iconst 0, .istore 3, .iconst 0, .istore 4, .goto_w 5] := rfl
theorem b_X_judge_5 : sysS.2.1 34 5 = [.iload 4, .aload 0, .getfield 12, .getfield 2010, .if_icmp .ge 81, .aload 0, .getfield 32, .aload 2, .getfield 8030, .iload 4, .invokevirtual 102, .istore 5, .iload 5, .ifCond .eq 75, .aload 0, .getfield 32, .aload 2, .getfield 8030, .iload 4, .invokevirtual 103, .ifCond .eq 75, .aload 1, .iload 5, .invokevirtual 111, .ifCond .ne 75, .iload 3, .aload 0, .aload 1, .aload 2, .iload 4, .iload 5, .invokevirtual 35, .iadd, .istore 3, .goto_w 75] := rfl
theorem b_X_judge_75 : sysS.2.1 34 75 = [.iinc 4 1, .goto 5] := rfl
theorem b_X_judge_81 : sysS.2.1 34 81 = [.aload 1, .dup, .getfield 9020, .iconst 1, .iadd, .putfield 9020, .aload 0, .dup, .getfield 130, .iconst 1, .iadd, .putfield 130, .iload 3, .ireturn] := rfl
theorem b_X_judgeByRule_0 : sysS.2.1 35 0 = [.aload 0, .getfield 32, .iload 4, .invokevirtual 104, .astore 5, .aload 5, .ifnonnull 18, .iconst 0, .ireturn] := rfl
theorem b_X_judgeByRule_18 : sysS.2.1 35 18 = [.aload 0, .getfield 42, .aload 2, .getfield 8001, .aload 2, .getfield 8011, .aload 2, .getfield 8021, .aload 1, .getfield 9020, .i2l, .invokevirtual 82, .aload 0, .getfield 42, .aload 5, .invokevirtual 84, .istore 6, .aload 0, .getfield 42, .getfield 6060, .ifCond .eq 100, .aload 0, .dup, .getfield 140, .iconst 1, .iadd, .putfield 140, .aload 1, .aload 0, .getfield 42, .getfield 6060, .iload 3, .iload 4, .invokevirtual 112, .aload 0, .iload 3, .iload 4, .aload 2, .getfield 8011, .invokevirtual 36, .iconst 0, .ireturn] := rfl
theorem b_X_judgeByRule_100 : sysS.2.1 35 100 = [.iconst 0, .istore 7, .goto_w 103] := rfl
theorem b_X_judgeByRule_103 : sysS.2.1 35 103 = [.iload 7, .iload 6, .if_icmp .ge 130, .aload 1, .aload 0, .getfield 42, .iload 7, .invokevirtual 85, .iload 3, .invokevirtual 117, .iinc 7 1, .goto 103] := rfl
theorem b_X_judgeByRule_130 : sysS.2.1 35 130 = [.iload 6, .ireturn] := rfl
theorem b_X_switchOffForAll_0 : sysS.2.1 36 0 = [.aload 0, .getfield 32, .aload 0, .getfield 32, .getfield 7070, .iload 1, .invokevirtual 102, .iload 2, .if_icmp .ne 41, .aload 0, .getfield 32, .aload 0, .getfield 32, .getfield 7070, .iload 1, .invokevirtual 103, .ifCond .eq 41, .iconst 1, .goto 42] := rfl
theorem b_X_switchOffForAll_41 : sysS.2.1 36 41 = [.iconst 0, .goto_w 42] := rfl
theorem b_X_switchOffForAll_42 : sysS.2.1 36 42 = [.istore 5, .aload 0, .getfield 93, .ifCond .eq 85, .iload 5, .ifCond .eq 85, .aload 0, .getfield 32, .invokevirtual 94, .ifCond .ne 85, .aload 0, .getfield 32, .iload 1, .lload 3, .aload 0, .getfield 32, .invokevirtual 96, .invokestatic 210, .invokevirtual 100, .goto_w 85] := rfl
theorem b_X_switchOffForAll_85 : sysS.2.1 36 85 = [.return_] := rfl
theorem b_Text_init_0 : sysS.2.1 37 0 = [.aload 0, .monitorexit, .aload 0, .iconst 200, .newarray .byte, .putfield 1002, .return_] := rfl
theorem b_Text_hasRoomFor_0 : sysS.2.1 38 0 = [.aload 0, .getfield 1010, .iload 1, .iadd, .iconst 200, .if_icmp .gt 16, .iconst 1, .goto 17] := rfl
theorem b_Text_hasRoomFor_16 : sysS.2.1 38 16 = [.iconst 0, .goto_w 17] := rfl
theorem b_Text_hasRoomFor_17 : sysS.2.1 38 17 = [.ireturn] := rfl
theorem b_Text_append_0 : sysS.2.1 39 0 = [.iconst 24, .istore 2, .goto_w 3] := rfl
theorem b_Text_append_3 : sysS.2.1 39 3 = [.iload 2, .ifCond .lt 55, .aload 0, .getfield 1010, .ifCond .lt 49, .aload 0, .getfield 1010, .aload 0, .getfield 1002, .arraylength, .if_icmp .ge 49, .aload 0, .getfield 1002, .aload 0, .getfield 1010, .iload 1, .iload 2, .iushr, .i2b, .bastore, .aload 0, .dup, .getfield 1010, .iconst 1, .iadd, .putfield 1010, .goto_w 49] := rfl
theorem b_Text_append_49 : sysS.2.1 39 49 = [.iinc 2 (-8), .goto 3] := rfl
theorem b_Text_append_55 : sysS.2.1 39 55 = [.return_] := rfl
theorem b_Text_byteAt_0 : sysS.2.1 40 0 = [.iload 1, .ifCond .lt 34, .iload 1, .aload 0, .getfield 1010, .if_icmp .ge 34, .iload 1, .aload 0, .getfield 1002, .arraylength, .if_icmp .ge 34, .aload 0, .getfield 1002, .iload 1, .baload, .iconst 255, .iand, .goto 35] := rfl
theorem b_Text_byteAt_34 : sysS.2.1 40 34 = [.iconst (-1), .goto_w 35] := rfl
theorem b_Text_byteAt_35 : sysS.2.1 40 35 = [.ireturn] := rfl
theorem b_Names_init_0 : sysS.2.1 41 0 = [.aload 0, .monitorexit, .aload 0, .iconst 8, .newarray .long, .putfield 2002, .return_] := rfl
theorem b_Names_hasRoomFor_0 : sysS.2.1 42 0 = [.aload 0, .getfield 2010, .iconst 8, .if_icmp .lt 17, .aload 0, .lload 1, .invokevirtual 44, .ifCond .lt 21, .goto_w 17] := rfl
theorem b_Names_hasRoomFor_17 : sysS.2.1 42 17 = [.iconst 1, .goto 22] := rfl
theorem b_Names_hasRoomFor_21 : sysS.2.1 42 21 = [.iconst 0, .goto_w 22] := rfl
theorem b_Names_hasRoomFor_22 : sysS.2.1 42 22 = [.ireturn] := rfl
theorem b_Names_numberFor_0 : sysS.2.1 43 0 = [.aload 0, .lload 1, .invokevirtual 44, .istore 3, .iload 3, .ifCond .ge 47, .aload 0, .getfield 2010, .aload 0, .getfield 2002, .arraylength, .if_icmp .ge 47, .aload 0, .getfield 2010, .istore 3, .aload 0, .getfield 2002, .aload 0, .getfield 2010, .lload 1, .lastore, .aload 0, .dup, .getfield 2010, .iconst 1, .iadd, .putfield 2010, .goto_w 47] := rfl
theorem b_Names_numberFor_47 : sysS.2.1 43 47 = [.iload 3, .ireturn] := rfl
theorem b_Names_find_0 : sysS.2.1 44 0 = [.iconst 0, .istore 3, .goto_w 2] := rfl
theorem b_Names_find_2 : sysS.2.1 44 2 = [.iload 3, .aload 0, .getfield 2010, .if_icmp .ge 38, .iload 3, .aload 0, .getfield 2002, .arraylength, .if_icmp .ge 38, .aload 0, .getfield 2002, .iload 3, .laload, .lload 1, .lcmp, .ifCond .ne 32, .iload 3, .ireturn] := rfl
theorem b_Names_find_32 : sysS.2.1 44 32 = [.iinc 3 1, .goto 2] := rfl
theorem b_Names_find_38 : sysS.2.1 44 38 = [.iconst (-1), .ireturn] := rfl
theorem b_Tokens_init_0 : sysS.2.1 45 0 = [.aload 0, .monitorexit, .aload 0, .iconst 201, .newarray .int, .putfield 3002, .aload 0, .iconst 201, .newarray .int, .putfield 3012, .aload 0, .iconst 201, .newarray .long, .putfield 3022, .return_] := rfl
theorem b_Tokens_scan_0 : sysS.2.1 46 0 = [.aload 0, .iconst 0, .putfield 3030, .iconst 0, .istore 2, .goto_w 7] := rfl
theorem b_Tokens_scan_7 : sysS.2.1 46 7 = [.iload 2, .aload 1, .getfield 1010, .if_icmp .ge 48, .aload 1, .iload 2, .invokevirtual 40, .invokestatic 56, .ifCond .eq 30, .iconst 1, .goto 36] := rfl
theorem b_Tokens_scan_30 : sysS.2.1 46 30 = [.aload 0, .aload 1, .iload 2, .invokevirtual 51, .goto_w 36] := rfl
theorem b_Tokens_scan_36 : sysS.2.1 46 36 = [.istore 3, .iload 2, .iconst 1, .iload 3, .invokestatic 208, .iadd, .istore 2, .goto 7] := rfl
theorem b_Tokens_scan_48 : sysS.2.1 46 48 = [.aload 0, .iconst (-1), .aload 1, .getfield 1010, .jsr_w 0, .invokevirtual 50, .return_] := rfl
theorem b_Tokens_kindAt_0 : sysS.2.1 47 0 = [.iload 1, .ifCond .lt 30, .iload 1, .aload 0, .getfield 3030, .if_icmp .ge 30, .iload 1, .aload 0, .getfield 3002, .arraylength, .if_icmp .ge 30, .aload 0, .getfield 3002, .iload 1, .iaload, .goto 31] := rfl
theorem b_Tokens_kindAt_30 : sysS.2.1 47 30 = [.iconst (-1), .goto_w 31] := rfl
theorem b_Tokens_kindAt_31 : sysS.2.1 47 31 = [.ireturn] := rfl
theorem b_Tokens_placeAt_0 : sysS.2.1 48 0 = [.iload 1, .ifCond .lt 30, .iload 1, .aload 0, .getfield 3030, .if_icmp .ge 30, .iload 1, .aload 0, .getfield 3012, .arraylength, .if_icmp .ge 30, .aload 0, .getfield 3012, .iload 1, .iaload, .goto 31] := rfl
theorem b_Tokens_placeAt_30 : sysS.2.1 48 30 = [.iconst 0, .goto_w 31] := rfl
theorem b_Tokens_placeAt_31 : sysS.2.1 48 31 = [.ireturn] := rfl
theorem b_Tokens_valueAt_0 : sysS.2.1 49 0 = [.iload 1, .ifCond .lt 30, .iload 1, .aload 0, .getfield 3030, .if_icmp .ge 30, .iload 1, .aload 0, .getfield 3022, .arraylength, .if_icmp .ge 30, .aload 0, .getfield 3022, .iload 1, .laload, .goto 31] := rfl
theorem b_Tokens_valueAt_30 : sysS.2.1 49 30 = [.jsr_w 0, .goto_w 31] := rfl
theorem b_Tokens_valueAt_31 : sysS.2.1 49 31 = [.lreturn] := rfl
theorem b_Tokens_add_0 : sysS.2.1 50 0 = [.aload 0, .getfield 3030, .ifCond .lt 83, .aload 0, .getfield 3030, .aload 0, .getfield 3002, .arraylength, .if_icmp .ge 83, .aload 0, .getfield 3030, .aload 0, .getfield 3012, .arraylength, .if_icmp .ge 83, .aload 0, .getfield 3030, .aload 0, .getfield 3022, .arraylength, .if_icmp .ge 83, .aload 0, .getfield 3002, .aload 0, .getfield 3030, .iload 1, .iastore, .aload 0, .getfield 3012, .aload 0, .getfield 3030, .iload 2, .iastore, .aload 0, .getfield 3022, .aload 0, .getfield 3030, .lload 3, .lastore, .aload 0, .dup, .getfield 3030, .iconst 1, .iadd, .putfield 3030, .goto_w 83] := rfl
theorem b_Tokens_add_83 : sysS.2.1 50 83 = [.return_] := rfl
theorem b_Tokens_scanToken_0 : sysS.2.1 51 0 = [.aload 1, .iload 2, .invokevirtual 40, .istore 3, .iload 3, .invokestatic 57, .ifCond .eq 20, .aload 0, .aload 1, .iload 2, .invokevirtual 52, .ireturn] := rfl
theorem b_Tokens_scanToken_20 : sysS.2.1 51 20 = [.iload 3, .invokestatic 58, .ifCond .eq 34, .aload 0, .aload 1, .iload 2, .invokevirtual 53, .ireturn] := rfl
theorem b_Tokens_scanToken_34 : sysS.2.1 51 34 = [.aload 0, .aload 1, .iload 2, .invokevirtual 54, .ireturn] := rfl
theorem b_Tokens_scanWord_0 : sysS.2.1 52 0 = [.jsr_w 0, .lstore 3, .iload 2, .istore 5, .goto_w 5] := rfl
theorem b_Tokens_scanWord_5 : sysS.2.1 52 5 = [.iload 5, .aload 1, .getfield 1010, .if_icmp .ge 45, .aload 1, .iload 5, .invokevirtual 40, .invokestatic 57, .ifCond .eq 45, .lload 3, .iconst 8, .lshl, .aload 1, .iload 5, .invokevirtual 40, .i2l, .lor, .lstore 3, .iinc 5 1, .goto 5] := rfl
theorem b_Tokens_scanWord_45 : sysS.2.1 52 45 = [.iload 5, .iload 2, .isub, .iconst 8, .if_icmp .le 65, .aload 0, .iconst (-2), .iload 2, .jsr_w 0, .invokevirtual 50, .goto 91] := rfl
theorem b_Tokens_scanWord_65 : sysS.2.1 52 65 = [.lload 3, .invokestatic 55, .ifCond .eq 83, .aload 0, .lload 3, .l2i, .iload 2, .jsr_w 0, .invokevirtual 50, .goto 91] := rfl
theorem b_Tokens_scanWord_83 : sysS.2.1 52 83 = [.aload 0, .iconst (-3), .iload 2, .lload 3, .invokevirtual 50, .goto_w 91] := rfl
theorem b_Tokens_scanWord_91 : sysS.2.1 52 91 = [.iload 5, .iload 2, .isub, .ireturn] := rfl
theorem b_Tokens_scanNumber_0 : sysS.2.1 53 0 = [.jsr_w 0, .lstore 3, .iload 2, .istore 5, .goto_w 5] := rfl
theorem b_Tokens_scanNumber_5 : sysS.2.1 53 5 = [.iload 5, .aload 1, .getfield 1010, .if_icmp .ge 49, .aload 1, .iload 5, .invokevirtual 40, .invokestatic 58, .ifCond .eq 49, .lload 3, .jsr_w 10, .lmul, .aload 1, .iload 5, .invokevirtual 40, .iconst 48, .isub, .i2l, .ladd, .lstore 3, .iinc 5 1, .goto 5] := rfl
theorem b_Tokens_scanNumber_49 : sysS.2.1 53 49 = [.aload 0, .iload 5, .iload 2, .isub, .iconst 9, .if_icmp .le 64, .iconst (-2), .goto 66] := rfl
theorem b_Tokens_scanNumber_64 : sysS.2.1 53 64 = [.iconst (-4), .goto_w 66] := rfl
theorem b_Tokens_scanNumber_66 : sysS.2.1 53 66 = [.iload 2, .lload 3, .invokevirtual 50, .iload 5, .iload 2, .isub, .ireturn] := rfl
theorem b_Tokens_scanSign_0 : sysS.2.1 54 0 = [.aload 1, .iload 2, .invokevirtual 40, .istore 3, .iload 3, .iconst 60, .if_icmp .eq 18, .iload 3, .iconst 62, .if_icmp .ne 45, .goto_w 18] := rfl
theorem b_Tokens_scanSign_18 : sysS.2.1 54 18 = [.aload 1, .iload 2, .iconst 1, .iadd, .invokevirtual 40, .iconst 61, .if_icmp .ne 45, .aload 0, .iload 3, .iconst 8, .ishl, .iconst 61, .ior, .iload 2, .jsr_w 0, .invokevirtual 50, .iconst 2, .ireturn] := rfl
theorem b_Tokens_scanSign_45 : sysS.2.1 54 45 = [.aload 0, .ldc 0, .iload 3, .i2c, .invokevirtual 200, .ifCond .lt 60, .iload 3, .goto 62] := rfl
theorem b_Tokens_scanSign_60 : sysS.2.1 54 60 = [.iconst (-2), .goto_w 62] := rfl
theorem b_Tokens_scanSign_62 : sysS.2.1 54 62 = [.iload 2, .jsr_w 0, .invokevirtual 50, .iconst 1, .ireturn] := rfl
theorem b_Tokens_isKeyWord_0 : sysS.2.1 55 0 = [.iconst 0, .istore 2, .goto_w 2] := rfl
theorem b_Tokens_isKeyWord_2 : sysS.2.1 55 2 = [.iload 2, .getstatic 0, .arraylength, .if_icmp .ge 29, .getstatic 0, .iload 2, .iaload, .i2l, .lload 0, .lcmp, .ifCond .ne 23, .iconst 1, .ireturn] := rfl
theorem b_Tokens_isKeyWord_23 : sysS.2.1 55 23 = [.iinc 2 1, .goto 2] := rfl
theorem b_Tokens_isKeyWord_29 : sysS.2.1 55 29 = [.iconst 0, .ireturn] := rfl
theorem b_Tokens_isBlank_0 : sysS.2.1 56 0 = [.iload 0, .iconst 32, .if_icmp .eq 12, .iload 0, .iconst 10, .if_icmp .ne 16, .goto_w 12] := rfl
theorem b_Tokens_isBlank_12 : sysS.2.1 56 12 = [.iconst 1, .goto 17] := rfl
theorem b_Tokens_isBlank_16 : sysS.2.1 56 16 = [.iconst 0, .goto_w 17] := rfl
theorem b_Tokens_isBlank_17 : sysS.2.1 56 17 = [.ireturn] := rfl
theorem b_Tokens_isLetter_0 : sysS.2.1 57 0 = [.iload 0, .iconst 97, .if_icmp .lt 16, .iload 0, .iconst 122, .if_icmp .gt 16, .iconst 1, .goto 17] := rfl
theorem b_Tokens_isLetter_16 : sysS.2.1 57 16 = [.iconst 0, .goto_w 17] := rfl
theorem b_Tokens_isLetter_17 : sysS.2.1 57 17 = [.ireturn] := rfl
theorem b_Tokens_isDigit_0 : sysS.2.1 58 0 = [.iload 0, .iconst 48, .if_icmp .lt 16, .iload 0, .iconst 57, .if_icmp .gt 16, .iconst 1, .goto 17] := rfl
theorem b_Tokens_isDigit_16 : sysS.2.1 58 16 = [.iconst 0, .goto_w 17] := rfl
theorem b_Tokens_isDigit_17 : sysS.2.1 58 17 = [.ireturn] := rfl
theorem b_Program_init_0_0 : sysS.2.1 59 0 = [.aload 0, .monitorexit, .aload 0, .iconst 200, .newarray .int, .putfield 4002, .aload 0, .iconst 200, .newarray .int, .putfield 4012, .return_] := rfl
theorem b_Program_init_L_0 : sysS.2.1 60 0 = [.aload 0, .monitorexit, .aload 0, .iconst 0, .aload 1, .getfield 4020, .invokestatic 208, .putfield 4020, .aload 0, .aload 0, .getfield 4020, .newarray .int, .putfield 4002, .aload 0, .aload 0, .getfield 4020, .newarray .int, .putfield 4012, .iconst 0, .istore 2, .goto_w 38] := rfl
theorem b_Program_init_L_38 : sysS.2.1 60 38 = [.iload 2, .aload 0, .getfield 4020, .if_icmp .ge 74, .aload 0, .getfield 4002, .iload 2, .aload 1, .iload 2, .invokevirtual 63, .iastore, .aload 0, .getfield 4012, .iload 2, .aload 1, .iload 2, .invokevirtual 64, .iastore, .iinc 2 1, .goto 38] := rfl
theorem b_Program_init_L_74 : sysS.2.1 60 74 = [.aload 0, .aload 1, .getfield 4030, .putfield 4030, .aload 0, .aload 1, .getfield 4040, .putfield 4040, .aload 0, .aload 1, .getfield 4050, .putfield 4050, .return_] := rfl
theorem b_Program_add_0 : sysS.2.1 61 0 = [.aload 0, .getfield 4020, .ifCond .lt 61, .aload 0, .getfield 4020, .aload 0, .getfield 4002, .arraylength, .if_icmp .ge 61, .aload 0, .getfield 4020, .aload 0, .getfield 4012, .arraylength, .if_icmp .ge 61, .aload 0, .getfield 4002, .aload 0, .getfield 4020, .iload 1, .iastore, .aload 0, .getfield 4012, .aload 0, .getfield 4020, .iload 2, .iastore, .aload 0, .dup, .getfield 4020, .iconst 1, .iadd, .putfield 4020, .goto_w 61] := rfl
theorem b_Program_add_61 : sysS.2.1 61 61 = [.return_] := rfl
theorem b_Program_setDetail_0 : sysS.2.1 62 0 = [.iload 1, .ifCond .lt 20, .iload 1, .aload 0, .getfield 4012, .arraylength, .if_icmp .ge 20, .aload 0, .getfield 4012, .iload 1, .iload 2, .iastore, .goto_w 20] := rfl
theorem b_Program_setDetail_20 : sysS.2.1 62 20 = [.return_] := rfl
theorem b_Program_stepAt_0 : sysS.2.1 63 0 = [.iload 1, .ifCond .lt 22, .iload 1, .aload 0, .getfield 4002, .arraylength, .if_icmp .ge 22, .aload 0, .getfield 4002, .iload 1, .iaload, .goto 23] := rfl
theorem b_Program_stepAt_22 : sysS.2.1 63 22 = [.iconst 0, .goto_w 23] := rfl
theorem b_Program_stepAt_23 : sysS.2.1 63 23 = [.ireturn] := rfl
theorem b_Program_detailAt_0 : sysS.2.1 64 0 = [.iload 1, .ifCond .lt 22, .iload 1, .aload 0, .getfield 4012, .arraylength, .if_icmp .ge 22, .aload 0, .getfield 4012, .iload 1, .iaload, .goto 23] := rfl
theorem b_Program_detailAt_22 : sysS.2.1 64 22 = [.iconst 0, .goto_w 23] := rfl
theorem b_Program_detailAt_23 : sysS.2.1 64 23 = [.ireturn] := rfl
theorem b_Reader_init_0 : sysS.2.1 65 0 = [.aload 0, .monitorexit, .aload 0, .new 3, .dup, .invokespecial 45, .putfield 5002, .aload 0, .new 4, .dup, .invokespecial 59, .putfield 5012, .return_] := rfl
theorem b_Reader_read_0 : sysS.2.1 66 0 = [.aload 0, .getfield 5002, .aload 1, .invokevirtual 46, .aload 0, .getfield 5012, .iconst 0, .putfield 4020, .aload 0, .iconst 0, .putfield 5030, .aload 0, .iconst 0, .putfield 5040, .aload 0, .iconst 0, .putfield 5050, .aload 0, .iconst 0, .putfield 5060, .aload 0, .aload 2, .invokevirtual 71, .aload 0, .invokevirtual 67, .iconst 25209, .if_icmp .ne 65, .aload 0, .dup, .getfield 5050, .iconst 1, .iadd, .putfield 5050, .aload 0, .invokevirtual 77, .goto_w 65] := rfl
theorem b_Reader_read_65 : sysS.2.1 66 65 = [.aload 0, .getfield 5012, .aload 0, .getfield 5012, .getfield 4020, .putfield 4030, .aload 0, .invokevirtual 67, .iconst 26982, .if_icmp .ne 103, .aload 0, .dup, .getfield 5050, .iconst 1, .iadd, .putfield 5050, .aload 0, .invokevirtual 72, .goto_w 103] := rfl
theorem b_Reader_read_103 : sysS.2.1 66 103 = [.aload 0, .getfield 5012, .aload 0, .getfield 5012, .getfield 4020, .putfield 4040, .aload 0, .iconst 7304564, .invokevirtual 69, .aload 0, .getfield 5012, .aload 0, .iconst 4, .invokevirtual 76, .putfield 4050, .aload 0, .iconst (-1), .invokevirtual 69, .return_] := rfl
theorem b_Reader_seen_0 : sysS.2.1 67 0 = [.aload 0, .getfield 5030, .ifCond .ne 21, .aload 0, .getfield 5002, .aload 0, .getfield 5050, .invokevirtual 47, .goto 23] := rfl
theorem b_Reader_seen_21 : sysS.2.1 67 21 = [.iconst (-20), .goto_w 23] := rfl
theorem b_Reader_seen_23 : sysS.2.1 67 23 = [.ireturn] := rfl
theorem b_Reader_stop_0 : sysS.2.1 68 0 = [.aload 0, .getfield 5030, .ifCond .ne 47, .aload 0, .aload 0, .getfield 5002, .aload 0, .getfield 5050, .invokevirtual 47, .iconst (-2), .if_icmp .ne 28, .iconst 1, .goto 29] := rfl
theorem b_Reader_stop_28 : sysS.2.1 68 28 = [.iload 1, .goto_w 29] := rfl
theorem b_Reader_stop_29 : sysS.2.1 68 29 = [.putfield 5030, .aload 0, .aload 0, .getfield 5002, .aload 0, .getfield 5050, .invokevirtual 48, .putfield 5040, .goto_w 47] := rfl
theorem b_Reader_stop_47 : sysS.2.1 68 47 = [.return_] := rfl
theorem b_Reader_expect_0 : sysS.2.1 69 0 = [.aload 0, .invokevirtual 67, .iload 1, .if_icmp .ne 21, .aload 0, .dup, .getfield 5050, .iconst 1, .iadd, .putfield 5050, .goto 26] := rfl
theorem b_Reader_expect_21 : sysS.2.1 69 21 = [.aload 0, .iconst 2, .invokevirtual 68, .goto_w 26] := rfl
theorem b_Reader_expect_26 : sysS.2.1 69 26 = [.return_] := rfl
theorem b_Reader_enter_0 : sysS.2.1 70 0 = [.aload 0, .getfield 5060, .iconst 12, .if_icmp .lt 17, .aload 0, .iconst 3, .invokevirtual 68, .goto 37] := rfl
theorem b_Reader_enter_17 : sysS.2.1 70 17 = [.aload 0, .dup, .getfield 5060, .iconst 1, .iadd, .putfield 5060, .aload 0, .dup, .getfield 5050, .iconst 1, .iadd, .putfield 5050, .goto_w 37] := rfl
theorem b_Reader_enter_37 : sysS.2.1 70 37 = [.return_] := rfl
theorem b_Reader_readName_0 : sysS.2.1 71 0 = [.aload 0, .aload 0, .getfield 5002, .aload 0, .getfield 5050, .invokevirtual 49, .putfield 5021, .aload 0, .invokevirtual 67, .iconst (-3), .if_icmp .ne 40, .aload 1, .aload 0, .getfield 5021, .invokevirtual 42, .ifCond .ne 40, .aload 0, .iconst 4, .invokevirtual 68, .goto_w 40] := rfl
theorem b_Reader_readName_40 : sysS.2.1 71 40 = [.aload 0, .iconst (-3), .invokevirtual 69, .return_] := rfl
theorem b_Reader_readTest_0 : sysS.2.1 72 0 = [.aload 0, .invokevirtual 73, .iconst 0, .istore 1, .goto_w 6] := rfl
theorem b_Reader_readTest_6 : sysS.2.1 72 6 = [.iload 1, .aload 0, .getfield 5002, .getfield 3030, .if_icmp .ge 81, .aload 0, .invokevirtual 67, .iconst 28530, .if_icmp .ne 81, .aload 0, .getfield 5012, .getfield 4020, .istore 2, .aload 0, .getfield 5012, .iconst 28530, .iconst 0, .invokevirtual 61, .aload 0, .dup, .getfield 5050, .iconst 1, .iadd, .putfield 5050, .aload 0, .invokevirtual 73, .aload 0, .getfield 5012, .iload 2, .aload 0, .getfield 5012, .getfield 4020, .invokevirtual 62, .iinc 1 1, .goto 6] := rfl
theorem b_Reader_readTest_81 : sysS.2.1 72 81 = [.return_] := rfl
theorem b_Reader_readBoth_0 : sysS.2.1 73 0 = [.aload 0, .invokevirtual 74, .iconst 0, .istore 1, .goto_w 6] := rfl
theorem b_Reader_readBoth_6 : sysS.2.1 73 6 = [.iload 1, .aload 0, .getfield 5002, .getfield 3030, .if_icmp .ge 79, .aload 0, .invokevirtual 67, .iconst 6385252, .if_icmp .ne 79, .aload 0, .getfield 5012, .getfield 4020, .istore 2, .aload 0, .getfield 5012, .iconst 6385252, .iconst 0, .invokevirtual 61, .aload 0, .dup, .getfield 5050, .iconst 1, .iadd, .putfield 5050, .aload 0, .invokevirtual 74, .aload 0, .getfield 5012, .iload 2, .aload 0, .getfield 5012, .getfield 4020, .invokevirtual 62, .iinc 1 1, .goto 6] := rfl
theorem b_Reader_readBoth_79 : sysS.2.1 73 79 = [.return_] := rfl
theorem b_Reader_readOne_0 : sysS.2.1 74 0 = [.aload 0, .invokevirtual 67, .iconst 7237492, .if_icmp .ne 40, .aload 0, .invokevirtual 70, .aload 0, .invokevirtual 74, .aload 0, .dup, .getfield 5060, .iconst 1, .isub, .putfield 5060, .aload 0, .getfield 5012, .iconst 7237492, .iconst 0, .invokevirtual 61, .goto 80] := rfl
theorem b_Reader_readOne_40 : sysS.2.1 74 40 = [.aload 0, .invokevirtual 67, .iconst 91, .if_icmp .ne 76, .aload 0, .invokevirtual 70, .aload 0, .invokevirtual 72, .aload 0, .iconst 93, .invokevirtual 69, .aload 0, .dup, .getfield 5060, .iconst 1, .isub, .putfield 5060, .goto 80] := rfl
theorem b_Reader_readOne_76 : sysS.2.1 74 76 = [.aload 0, .invokevirtual 75, .goto_w 80] := rfl
theorem b_Reader_readOne_80 : sysS.2.1 74 80 = [.return_] := rfl
theorem b_Reader_readComparison_0 : sysS.2.1 75 0 = [.aload 0, .invokevirtual 77, .aload 0, .invokevirtual 67, .istore 1, .iload 1, .lookupswitch 94 #[(35, 68), (60, 68), (61, 68), (62, 68), (15421, 68), (15933, 68)]] := rfl
theorem b_Reader_readComparison_68 : sysS.2.1 75 68 = [.aload 0, .dup, .getfield 5050, .iconst 1, .iadd, .putfield 5050, .aload 0, .invokevirtual 77, .aload 0, .getfield 5012, .iload 1, .iconst 0, .invokevirtual 61, .goto 99] := rfl
theorem b_Reader_readComparison_94 : sysS.2.1 75 94 = [.aload 0, .iconst 2, .invokevirtual 68, .goto_w 99] := rfl
theorem b_Reader_readComparison_99 : sysS.2.1 75 99 = [.return_] := rfl
theorem b_Reader_readSums_0 : sysS.2.1 76 0 = [.aload 0, .invokevirtual 77, .iconst 1, .istore 2, .goto_w 6] := rfl
theorem b_Reader_readSums_6 : sysS.2.1 76 6 = [.iload 2, .iload 1, .if_icmp .ge 40, .aload 0, .invokevirtual 67, .iconst 44, .if_icmp .ne 40, .aload 0, .dup, .getfield 5050, .iconst 1, .iadd, .putfield 5050, .aload 0, .invokevirtual 77, .iinc 2 1, .goto 6] := rfl
theorem b_Reader_readSums_40 : sysS.2.1 76 40 = [.iload 2, .ireturn] := rfl
theorem b_Reader_readSum_0 : sysS.2.1 77 0 = [.aload 0, .invokevirtual 78, .iconst 0, .istore 1, .goto_w 6] := rfl
theorem b_Reader_readSum_6 : sysS.2.1 77 6 = [.iload 1, .aload 0, .getfield 5002, .getfield 3030, .if_icmp .ge 69, .aload 0, .invokevirtual 67, .iconst 43, .if_icmp .eq 35, .aload 0, .invokevirtual 67, .iconst 45, .if_icmp .ne 69, .goto_w 35] := rfl
theorem b_Reader_readSum_35 : sysS.2.1 77 35 = [.aload 0, .invokevirtual 67, .istore 2, .aload 0, .dup, .getfield 5050, .iconst 1, .iadd, .putfield 5050, .aload 0, .invokevirtual 78, .aload 0, .getfield 5012, .iload 2, .iconst 0, .invokevirtual 61, .iinc 1 1, .goto 6] := rfl
theorem b_Reader_readSum_69 : sysS.2.1 77 69 = [.return_] := rfl
theorem b_Reader_readPart_0 : sysS.2.1 78 0 = [.aload 0, .invokevirtual 79, .iconst 0, .istore 1, .goto_w 6] := rfl
theorem b_Reader_readPart_6 : sysS.2.1 78 6 = [.iload 1, .aload 0, .getfield 5002, .getfield 3030, .if_icmp .ge 78, .aload 0, .invokevirtual 67, .iconst 42, .if_icmp .eq 44, .aload 0, .invokevirtual 67, .iconst 47, .if_icmp .eq 44, .aload 0, .invokevirtual 67, .iconst 37, .if_icmp .ne 78, .goto_w 44] := rfl
theorem b_Reader_readPart_44 : sysS.2.1 78 44 = [.aload 0, .invokevirtual 67, .istore 2, .aload 0, .dup, .getfield 5050, .iconst 1, .iadd, .putfield 5050, .aload 0, .invokevirtual 79, .aload 0, .getfield 5012, .iload 2, .iconst 0, .invokevirtual 61, .iinc 1 1, .goto 6] := rfl
theorem b_Reader_readPart_78 : sysS.2.1 78 78 = [.return_] := rfl
theorem b_Reader_readUnit_0 : sysS.2.1 79 0 = [.aload 0, .invokevirtual 67, .istore 1, .iload 1, .lookupswitch 200 #[(-4, 80), (40, 166), (45, 135), (107, 113), (110, 113), (116, 113), (118, 113), (1885954923, 193)]] := rfl
theorem b_Reader_readUnit_80 : sysS.2.1 79 80 = [.aload 0, .getfield 5012, .iload 1, .aload 0, .getfield 5002, .aload 0, .getfield 5050, .invokevirtual 49, .l2i, .invokevirtual 61, .aload 0, .dup, .getfield 5050, .iconst 1, .iadd, .putfield 5050, .goto 205] := rfl
theorem b_Reader_readUnit_113 : sysS.2.1 79 113 = [.aload 0, .getfield 5012, .iload 1, .iconst 0, .invokevirtual 61, .aload 0, .dup, .getfield 5050, .iconst 1, .iadd, .putfield 5050, .goto 205] := rfl
theorem b_Reader_readUnit_135 : sysS.2.1 79 135 = [.aload 0, .invokevirtual 70, .aload 0, .invokevirtual 79, .aload 0, .dup, .getfield 5060, .iconst 1, .isub, .putfield 5060, .aload 0, .getfield 5012, .iconst (-10), .iconst 0, .invokevirtual 61, .goto 205] := rfl
theorem b_Reader_readUnit_166 : sysS.2.1 79 166 = [.aload 0, .invokevirtual 70, .aload 0, .invokevirtual 77, .aload 0, .iconst 41, .invokevirtual 69, .aload 0, .dup, .getfield 5060, .iconst 1, .isub, .putfield 5060, .goto 205] := rfl
theorem b_Reader_readUnit_193 : sysS.2.1 79 193 = [.aload 0, .invokevirtual 80, .goto 205] := rfl
theorem b_Reader_readUnit_200 : sysS.2.1 79 200 = [.aload 0, .iconst 2, .invokevirtual 68, .goto_w 205] := rfl
theorem b_Reader_readUnit_205 : sysS.2.1 79 205 = [.return_] := rfl
theorem b_Reader_readPick_0 : sysS.2.1 80 0 = [.aload 0, .invokevirtual 70, .aload 0, .iconst 40, .invokevirtual 69, .aload 0, .invokevirtual 77, .aload 0, .iconst 58, .invokevirtual 69, .aload 0, .iconst 6, .invokevirtual 76, .istore 1, .aload 0, .iconst 41, .invokevirtual 69, .aload 0, .dup, .getfield 5060, .iconst 1, .isub, .putfield 5060, .aload 0, .getfield 5012, .iconst 1885954923, .iload 1, .invokevirtual 61, .return_] := rfl
theorem b_Machine_init_0 : sysS.2.1 81 0 = [.aload 0, .monitorexit, .aload 0, .iconst 200, .newarray .long, .putfield 6002, .return_] := rfl
theorem b_Machine_load_0 : sysS.2.1 82 0 = [.aload 0, .lload 1, .putfield 6021, .aload 0, .lload 3, .putfield 6031, .aload 0, .lload 5, .putfield 6041, .aload 0, .lload 7, .putfield 6051, .return_] := rfl
theorem b_Machine_sendsBy_0 : sysS.2.1 83 0 = [.aload 0, .aload 1, .iconst 0, .aload 1, .getfield 4030, .invokevirtual 86, .aload 1, .getfield 4030, .ifCond .ne 24, .aload 0, .getfield 6021, .goto 29] := rfl
theorem b_Machine_sendsBy_24 : sysS.2.1 83 24 = [.aload 0, .iconst 0, .invokevirtual 85, .goto_w 29] := rfl
theorem b_Machine_sendsBy_29 : sysS.2.1 83 29 = [.lreturn] := rfl
theorem b_Machine_sumsOf_0 : sysS.2.1 84 0 = [.aload 0, .aload 1, .aload 1, .getfield 4030, .aload 1, .getfield 4040, .invokevirtual 86, .aload 1, .getfield 4040, .aload 1, .getfield 4030, .if_icmp .le 28, .iconst 1, .goto 29] := rfl
theorem b_Machine_sumsOf_28 : sysS.2.1 84 28 = [.iconst 0, .goto_w 29] := rfl
theorem b_Machine_sumsOf_29 : sysS.2.1 84 29 = [.istore 2, .aload 0, .getfield 6060, .ifCond .ne 51, .iload 2, .ifCond .eq 53, .aload 0, .iconst 0, .invokevirtual 85, .jsr_w 0, .lcmp, .ifCond .ne 53, .goto_w 51] := rfl
theorem b_Machine_sumsOf_51 : sysS.2.1 84 51 = [.iconst 0, .ireturn] := rfl
theorem b_Machine_sumsOf_53 : sysS.2.1 84 53 = [.aload 0, .aload 1, .aload 1, .getfield 4040, .aload 1, .getfield 4020, .invokevirtual 86, .aload 0, .getfield 6060, .ifCond .eq 77, .iconst 0, .goto 81] := rfl
theorem b_Machine_sumsOf_77 : sysS.2.1 84 77 = [.aload 1, .getfield 4050, .goto_w 81] := rfl
theorem b_Machine_sumsOf_81 : sysS.2.1 84 81 = [.ireturn] := rfl
theorem b_Machine_valueAt_0 : sysS.2.1 85 0 = [.iload 1, .ifCond .lt 30, .iload 1, .aload 0, .getfield 6010, .if_icmp .ge 30, .iload 1, .aload 0, .getfield 6002, .arraylength, .if_icmp .ge 30, .aload 0, .getfield 6002, .iload 1, .laload, .goto 31] := rfl
theorem b_Machine_valueAt_30 : sysS.2.1 85 30 = [.jsr_w 0, .goto_w 31] := rfl
theorem b_Machine_valueAt_31 : sysS.2.1 85 31 = [.lreturn] := rfl
theorem b_Machine_run_0 : sysS.2.1 86 0 = [.aload 0, .iconst 0, .putfield 6010, .aload 0, .iconst 0, .putfield 6060, .iload 2, .istore 4, .goto_w 13] := rfl
theorem b_Machine_run_13 : sysS.2.1 86 13 = [.iload 4, .iload 3, .if_icmp .ge 270, .aload 0, .getfield 6060, .ifCond .ne 270, .aload 1, .iload 4, .invokevirtual 63, .istore 5, .aload 1, .iload 4, .invokevirtual 64, .istore 6, .iinc 4 1, .iload 5, .lookupswitch 261 #[(-10, 190), (-4, 136), (107, 146), (110, 179), (116, 157), (118, 168), (28530, 232), (6385252, 232), (7237492, 202), (1885954923, 223)]] := rfl
theorem b_Machine_run_136 : sysS.2.1 86 136 = [.aload 0, .iload 6, .i2l, .invokevirtual 87, .goto 267] := rfl
theorem b_Machine_run_146 : sysS.2.1 86 146 = [.aload 0, .aload 0, .getfield 6021, .invokevirtual 87, .goto 267] := rfl
theorem b_Machine_run_157 : sysS.2.1 86 157 = [.aload 0, .aload 0, .getfield 6031, .invokevirtual 87, .goto 267] := rfl
theorem b_Machine_run_168 : sysS.2.1 86 168 = [.aload 0, .aload 0, .getfield 6041, .invokevirtual 87, .goto 267] := rfl
theorem b_Machine_run_179 : sysS.2.1 86 179 = [.aload 0, .aload 0, .getfield 6051, .invokevirtual 87, .goto 267] := rfl
theorem b_Machine_run_190 : sysS.2.1 86 190 = [.aload 0, .aload 0, .invokevirtual 88, .lneg, .invokevirtual 87, .goto 267] := rfl
theorem b_Machine_run_202 : sysS.2.1 86 202 = [.aload 0, .aload 0, .invokevirtual 88, .jsr_w 0, .lcmp, .ifCond .ne 216, .jsr_w 1, .goto 217] := rfl
theorem b_Machine_run_216 : sysS.2.1 86 216 = [.jsr_w 0, .goto_w 217] := rfl
theorem b_Machine_run_217 : sysS.2.1 86 217 = [.invokevirtual 87, .goto 267] := rfl
theorem b_Machine_run_223 : sysS.2.1 86 223 = [.aload 0, .iload 6, .invokevirtual 90, .goto 267] := rfl
theorem b_Machine_run_232 : sysS.2.1 86 232 = [.aload 0, .iload 5, .invokevirtual 89, .ifCond .eq 253, .iload 4, .iload 6, .invokestatic 208, .istore 4, .goto 267] := rfl
theorem b_Machine_run_253 : sysS.2.1 86 253 = [.aload 0, .invokevirtual 88, .pop2, .goto 267] := rfl
theorem b_Machine_run_261 : sysS.2.1 86 261 = [.aload 0, .iload 5, .invokevirtual 91, .goto_w 267] := rfl
theorem b_Machine_run_267 : sysS.2.1 86 267 = [.goto 13] := rfl
theorem b_Machine_run_270 : sysS.2.1 86 270 = [.return_] := rfl
theorem b_Machine_push_0 : sysS.2.1 87 0 = [.aload 0, .getfield 6010, .ifCond .lt 39, .aload 0, .getfield 6010, .aload 0, .getfield 6002, .arraylength, .if_icmp .ge 39, .aload 0, .getfield 6002, .aload 0, .getfield 6010, .lload 1, .lastore, .aload 0, .dup, .getfield 6010, .iconst 1, .iadd, .putfield 6010, .goto_w 39] := rfl
theorem b_Machine_push_39 : sysS.2.1 87 39 = [.return_] := rfl
theorem b_Machine_pop_0 : sysS.2.1 88 0 = [.aload 0, .getfield 6010, .ifCond .le 19, .aload 0, .getfield 6010, .aload 0, .getfield 6002, .arraylength, .if_icmp .le 21, .goto_w 19] := rfl
theorem b_Machine_pop_19 : sysS.2.1 88 19 = [.jsr_w 0, .lreturn] := rfl
theorem b_Machine_pop_21 : sysS.2.1 88 21 = [.aload 0, .dup, .getfield 6010, .iconst 1, .isub, .putfield 6010, .aload 0, .getfield 6002, .aload 0, .getfield 6010, .laload, .lreturn] := rfl
theorem b_Machine_isDecidedByLeft_0 : sysS.2.1 89 0 = [.aload 0, .aload 0, .getfield 6010, .iconst 1, .isub, .invokevirtual 85, .jsr_w 0, .lcmp, .ifCond .eq 19, .iconst 1, .goto 20] := rfl
theorem b_Machine_isDecidedByLeft_19 : sysS.2.1 89 19 = [.iconst 0, .goto_w 20] := rfl
theorem b_Machine_isDecidedByLeft_20 : sysS.2.1 89 20 = [.istore 2, .iload 2, .iload 1, .iconst 28530, .if_icmp .ne 33, .iconst 1, .goto 34] := rfl
theorem b_Machine_isDecidedByLeft_33 : sysS.2.1 89 33 = [.iconst 0, .goto_w 34] := rfl
theorem b_Machine_isDecidedByLeft_34 : sysS.2.1 89 34 = [.if_icmp .ne 41, .iconst 1, .goto 42] := rfl
theorem b_Machine_isDecidedByLeft_41 : sysS.2.1 89 41 = [.iconst 0, .goto_w 42] := rfl
theorem b_Machine_isDecidedByLeft_42 : sysS.2.1 89 42 = [.ireturn] := rfl
theorem b_Machine_pick_0 : sysS.2.1 90 0 = [.iconst 0, .aload 0, .getfield 6010, .iload 1, .isub, .iconst 1, .isub, .invokestatic 208, .istore 2, .aload 0, .iload 2, .invokevirtual 85, .lstore 3, .lload 3, .jsr_w 0, .lcmp, .ifCond .lt 32, .lload 3, .iload 1, .i2l, .lcmp, .ifCond .lt 38, .goto_w 32] := rfl
theorem b_Machine_pick_32 : sysS.2.1 90 32 = [.aload 0, .iconst 2, .putfield 6060, .return_] := rfl
theorem b_Machine_pick_38 : sysS.2.1 90 38 = [.aload 0, .iload 2, .iconst 1, .iadd, .lload 3, .l2i, .iadd, .invokevirtual 85, .lstore 5, .aload 0, .iload 2, .putfield 6010, .aload 0, .lload 5, .invokevirtual 87, .return_] := rfl
theorem b_Machine_combine_0 : sysS.2.1 91 0 = [.aload 0, .invokevirtual 88, .lstore 2, .aload 0, .invokevirtual 88, .lstore 4, .lload 2, .jsr_w 0, .lcmp, .ifCond .ne 37, .iload 1, .iconst 47, .if_icmp .eq 29, .iload 1, .iconst 37, .if_icmp .ne 37, .goto_w 29] := rfl
theorem b_Machine_combine_29 : sysS.2.1 91 29 = [.aload 0, .iconst 1, .putfield 6060, .goto 48] := rfl
theorem b_Machine_combine_37 : sysS.2.1 91 37 = [.aload 0, .iload 1, .lload 4, .lload 2, .invokestatic 92, .invokevirtual 87, .goto_w 48] := rfl
theorem b_Machine_combine_48 : sysS.2.1 91 48 = [.return_] := rfl
theorem b_Machine_combined_0 : sysS.2.1 92 0 = [.iload 0, .lookupswitch 192 #[(37, 118), (42, 100), (43, 92), (45, 96), (47, 104), (60, 132), (61, 156), (62, 144), (15421, 168), (15933, 180)]] := rfl
theorem b_Machine_combined_92 : sysS.2.1 92 92 = [.lload 1, .lload 3, .ladd, .lreturn] := rfl
theorem b_Machine_combined_96 : sysS.2.1 92 96 = [.lload 1, .lload 3, .lsub, .lreturn] := rfl
theorem b_Machine_combined_100 : sysS.2.1 92 100 = [.lload 1, .lload 3, .lmul, .lreturn] := rfl
theorem b_Machine_combined_104 : sysS.2.1 92 104 = [.lload 3, .jsr_w 0, .lcmp, .ifCond .ne 114, .jsr_w 0, .goto 117] := rfl
theorem b_Machine_combined_114 : sysS.2.1 92 114 = [.lload 1, .lload 3, .ldiv, .goto_w 117] := rfl
theorem b_Machine_combined_117 : sysS.2.1 92 117 = [.lreturn] := rfl
theorem b_Machine_combined_118 : sysS.2.1 92 118 = [.lload 3, .jsr_w 0, .lcmp, .ifCond .ne 128, .jsr_w 0, .goto 131] := rfl
theorem b_Machine_combined_128 : sysS.2.1 92 128 = [.lload 1, .lload 3, .lrem, .goto_w 131] := rfl
theorem b_Machine_combined_131 : sysS.2.1 92 131 = [.lreturn] := rfl
theorem b_Machine_combined_132 : sysS.2.1 92 132 = [.lload 1, .lload 3, .lcmp, .ifCond .ge 142, .jsr_w 1, .goto 143] := rfl
theorem b_Machine_combined_142 : sysS.2.1 92 142 = [.jsr_w 0, .goto_w 143] := rfl
theorem b_Machine_combined_143 : sysS.2.1 92 143 = [.lreturn] := rfl
theorem b_Machine_combined_144 : sysS.2.1 92 144 = [.lload 1, .lload 3, .lcmp, .ifCond .le 154, .jsr_w 1, .goto 155] := rfl
theorem b_Machine_combined_154 : sysS.2.1 92 154 = [.jsr_w 0, .goto_w 155] := rfl
theorem b_Machine_combined_155 : sysS.2.1 92 155 = [.lreturn] := rfl
theorem b_Machine_combined_156 : sysS.2.1 92 156 = [.lload 1, .lload 3, .lcmp, .ifCond .ne 166, .jsr_w 1, .goto 167] := rfl
theorem b_Machine_combined_166 : sysS.2.1 92 166 = [.jsr_w 0, .goto_w 167] := rfl
theorem b_Machine_combined_167 : sysS.2.1 92 167 = [.lreturn] := rfl
theorem b_Machine_combined_168 : sysS.2.1 92 168 = [.lload 1, .lload 3, .lcmp, .ifCond .gt 178, .jsr_w 1, .goto 179] := rfl
theorem b_Machine_combined_178 : sysS.2.1 92 178 = [.jsr_w 0, .goto_w 179] := rfl
theorem b_Machine_combined_179 : sysS.2.1 92 179 = [.lreturn] := rfl
theorem b_Machine_combined_180 : sysS.2.1 92 180 = [.lload 1, .lload 3, .lcmp, .ifCond .lt 190, .jsr_w 1, .goto 191] := rfl
theorem b_Machine_combined_190 : sysS.2.1 92 190 = [.jsr_w 0, .goto_w 191] := rfl
theorem b_Machine_combined_191 : sysS.2.1 92 191 = [.lreturn] := rfl
theorem b_Machine_combined_192 : sysS.2.1 92 192 = [.lload 1, .lload 3, .lcmp, .ifCond .eq 202, .jsr_w 1, .goto 203] := rfl
theorem b_Machine_combined_202 : sysS.2.1 92 202 = [.jsr_w 0, .goto_w 203] := rfl
theorem b_Machine_combined_203 : sysS.2.1 92 203 = [.lreturn] := rfl
theorem b_Log_init_0 : sysS.2.1 93 0 = [.aload 0, .monitorexit, .aload 0, .iconst 61, .newarray .int, .putfield 7002, .aload 0, .iconst 61, .newarray .int, .putfield 7012, .aload 0, .iconst 61, .newarray .int, .putfield 7022, .aload 0, .iconst 61, .newarray .long, .putfield 7032, .aload 0, .iconst 61, .anewarray 4, .putfield 7042, .aload 0, .iconst 488, .newarray .int, .putfield 7052, .aload 0, .iconst 61, .newarray .int, .putfield 7062, .return_] := rfl
theorem b_Log_isFull_0 : sysS.2.1 94 0 = [.aload 0, .getfield 7070, .iconst 60, .if_icmp .lt 13, .iconst 1, .goto 14] := rfl
theorem b_Log_isFull_13 : sysS.2.1 94 13 = [.iconst 0, .goto_w 14] := rfl
theorem b_Log_isFull_14 : sysS.2.1 94 14 = [.ireturn] := rfl
theorem b_Log_isTooEarly_0 : sysS.2.1 95 0 = [.aload 0, .getfield 7070, .ifCond .le 25, .lload 1, .aload 0, .getfield 7032, .aload 0, .getfield 7070, .laload, .lcmp, .ifCond .ge 25, .iconst 1, .goto 26] := rfl
theorem b_Log_isTooEarly_25 : sysS.2.1 95 25 = [.iconst 0, .goto_w 26] := rfl
theorem b_Log_isTooEarly_26 : sysS.2.1 95 26 = [.ireturn] := rfl
theorem b_Log_latestTime_0 : sysS.2.1 96 0 = [.aload 0, .getfield 7070, .ifCond .le 19, .aload 0, .getfield 7032, .aload 0, .getfield 7070, .laload, .goto 20] := rfl
theorem b_Log_latestTime_19 : sysS.2.1 96 19 = [.jsr_w 0, .goto_w 20] := rfl
theorem b_Log_latestTime_20 : sysS.2.1 96 20 = [.lreturn] := rfl
theorem b_Log_versionOf_0 : sysS.2.1 97 0 = [.iconst 0, .istore 3, .goto_w 2] := rfl
theorem b_Log_versionOf_2 : sysS.2.1 97 2 = [.iload 3, .aload 0, .getfield 7070, .if_icmp .ge 29, .aload 0, .getfield 7032, .iload 3, .iconst 1, .iadd, .laload, .lload 1, .lcmp, .ifCond .gt 29, .iinc 3 1, .goto 2] := rfl
theorem b_Log_versionOf_29 : sysS.2.1 97 29 = [.iload 3, .ireturn] := rfl
theorem b_Log_addTold_0 : sysS.2.1 98 0 = [.aload 0, .invokevirtual 94, .ifCond .eq 8, .return_] := rfl
theorem b_Log_addTold_8 : sysS.2.1 98 8 = [.aload 0, .iconst 1, .iload 1, .iconst (-5), .lload 3, .invokevirtual 106, .aload 0, .getfield 7042, .aload 0, .getfield 7070, .aload 2, .aastore, .aload 0, .iload 1, .aload 0, .getfield 7070, .iconst 1, .invokevirtual 107, .return_] := rfl
theorem b_Log_addDropped_0 : sysS.2.1 99 0 = [.aload 0, .iconst 2, .iload 1, .iconst (-5), .lload 2, .invokevirtual 106, .aload 0, .iload 1, .iconst 0, .iconst 0, .invokevirtual 107, .return_] := rfl
theorem b_Log_addOff_0 : sysS.2.1 100 0 = [.aload 0, .iconst 3, .iload 1, .iconst (-5), .lload 2, .invokevirtual 106, .aload 0, .iload 1, .aload 0, .aload 0, .getfield 7070, .iload 1, .invokevirtual 102, .iconst 0, .invokevirtual 107, .return_] := rfl
theorem b_Log_addBack_0 : sysS.2.1 101 0 = [.aload 0, .iconst 4, .iconst (-5), .iload 1, .aload 0, .invokevirtual 96, .invokevirtual 106, .return_] := rfl
theorem b_Log_textIn_0 : sysS.2.1 102 0 = [.aload 0, .iload 1, .iload 2, .invokevirtual 105, .ifCond .eq 23, .aload 0, .getfield 7052, .iload 1, .iconst 8, .imul, .iload 2, .iadd, .iaload, .goto 24] := rfl
theorem b_Log_textIn_23 : sysS.2.1 102 23 = [.iconst 0, .goto_w 24] := rfl
theorem b_Log_textIn_24 : sysS.2.1 102 24 = [.ireturn] := rfl
theorem b_Log_isOn_0 : sysS.2.1 103 0 = [.aload 0, .iload 1, .iload 2, .invokevirtual 105, .ifCond .eq 26, .aload 0, .getfield 7062, .iload 1, .iaload, .iload 2, .iushr, .iconst 1, .iand, .ifCond .eq 26, .iconst 1, .goto 27] := rfl
theorem b_Log_isOn_26 : sysS.2.1 103 26 = [.iconst 0, .goto_w 27] := rfl
theorem b_Log_isOn_27 : sysS.2.1 103 27 = [.ireturn] := rfl
theorem b_Log_programOf_0 : sysS.2.1 104 0 = [.iload 1, .ifCond .le 21, .iload 1, .aload 0, .getfield 7070, .if_icmp .gt 21, .aload 0, .getfield 7042, .iload 1, .aaload, .goto 22] := rfl
theorem b_Log_programOf_21 : sysS.2.1 104 21 = [.aconst_null, .goto_w 22] := rfl
theorem b_Log_programOf_22 : sysS.2.1 104 22 = [.areturn] := rfl
theorem b_Log_isCell_0 : sysS.2.1 105 0 = [.iload 1, .ifCond .lt 26, .iload 1, .aload 0, .getfield 7070, .if_icmp .gt 26, .iload 2, .ifCond .lt 26, .iload 2, .iconst 8, .if_icmp .ge 26, .iconst 1, .goto 27] := rfl
theorem b_Log_isCell_26 : sysS.2.1 105 26 = [.iconst 0, .goto_w 27] := rfl
theorem b_Log_isCell_27 : sysS.2.1 105 27 = [.ireturn] := rfl
theorem b_Log_add_0 : sysS.2.1 106 0 = [.iload 3, .iconst (-5), .if_icmp .ne 13, .aload 0, .getfield 7070, .goto 14] := rfl
theorem b_Log_add_13 : sysS.2.1 106 13 = [.iload 3, .goto_w 14] := rfl
theorem b_Log_add_14 : sysS.2.1 106 14 = [.istore 6, .aload 0, .invokevirtual 94, .ifCond .ne 37, .iload 6, .ifCond .lt 37, .iload 6, .aload 0, .getfield 7070, .if_icmp .le 38, .goto_w 37] := rfl
theorem b_Log_add_37 : sysS.2.1 106 37 = [.return_] := rfl
theorem b_Log_add_38 : sysS.2.1 106 38 = [.aload 0, .dup, .getfield 7070, .iconst 1, .iadd, .putfield 7070, .aload 0, .getfield 7002, .aload 0, .getfield 7070, .iload 1, .iastore, .aload 0, .getfield 7012, .aload 0, .getfield 7070, .iload 2, .iastore, .aload 0, .getfield 7022, .aload 0, .getfield 7070, .iload 3, .iastore, .aload 0, .getfield 7032, .aload 0, .getfield 7070, .lload 4, .lastore, .aload 0, .getfield 7062, .aload 0, .getfield 7070, .aload 0, .getfield 7062, .iload 6, .iaload, .iastore, .iconst 0, .istore 7, .goto_w 108] := rfl
theorem b_Log_add_108 : sysS.2.1 106 108 = [.iload 7, .iconst 8, .if_icmp .ge 149, .aload 0, .getfield 7052, .aload 0, .getfield 7070, .iconst 8, .imul, .iload 7, .iadd, .aload 0, .getfield 7052, .iload 6, .iconst 8, .imul, .iload 7, .iadd, .iaload, .iastore, .iinc 7 1, .goto 108] := rfl
theorem b_Log_add_149 : sysS.2.1 106 149 = [.return_] := rfl
theorem b_Log_set_0 : sysS.2.1 107 0 = [.aload 0, .aload 0, .getfield 7070, .iload 1, .invokevirtual 105, .ifCond .eq 71, .aload 0, .getfield 7052, .aload 0, .getfield 7070, .iconst 8, .imul, .iload 1, .iadd, .iload 2, .iastore, .aload 0, .getfield 7062, .aload 0, .getfield 7070, .iload 3, .ifCond .eq 55, .aload 0, .getfield 7062, .aload 0, .getfield 7070, .iaload, .iconst 1, .iload 1, .ishl, .ior, .goto 70] := rfl
theorem b_Log_set_55 : sysS.2.1 107 55 = [.aload 0, .getfield 7062, .aload 0, .getfield 7070, .iaload, .iconst 1, .iload 1, .ishl, .iconst (-1), .ixor, .iand, .goto_w 70] := rfl
theorem b_Log_set_70 : sysS.2.1 107 70 = [.iastore, .goto_w 71] := rfl
theorem b_Log_set_71 : sysS.2.1 107 71 = [.return_] := rfl
theorem b_Row_init_0 : sysS.2.1 108 0 = [.aload 0, .monitorexit, .aload 0, .lload 1, .putfield 8001, .aload 0, .lload 3, .putfield 8011, .aload 0, .lload 5, .putfield 8021, .aload 0, .iload 7, .putfield 8030, .return_] := rfl
theorem b_Task_init_0 : sysS.2.1 109 0 = [.aload 0, .monitorexit, .aload 0, .iconst 6, .anewarray 8, .putfield 9032, .aload 0, .iconst 40, .newarray .long, .putfield 9052, .aload 0, .iconst 40, .newarray .int, .putfield 9062, .aload 0, .iconst (-5), .putfield 9100, .aload 0, .iconst (-5), .putfield 9110, .return_] := rfl
theorem b_Task_begin_0 : sysS.2.1 110 0 = [.aload 0, .iload 1, .putfield 9000, .aload 0, .lload 2, .putfield 9011, .aload 0, .iconst 0, .putfield 9020, .aload 0, .iconst 0, .putfield 9040, .aload 0, .iconst 0, .putfield 9070, .aload 0, .iconst 0, .putfield 9080, .aload 0, .iconst 0, .putfield 9090, .aload 0, .iconst (-5), .putfield 9100, .aload 0, .iconst (-5), .putfield 9110, .return_] := rfl
theorem b_Task_hasOff_0 : sysS.2.1 111 0 = [.aload 0, .getfield 9011, .iload 1, .lushr, .jsr_w 1, .land, .jsr_w 0, .lcmp, .ifCond .eq 17, .iconst 1, .goto 18] := rfl
theorem b_Task_hasOff_17 : sysS.2.1 111 17 = [.iconst 0, .goto_w 18] := rfl
theorem b_Task_hasOff_18 : sysS.2.1 111 18 = [.ireturn] := rfl
theorem b_Task_noteFailure_0 : sysS.2.1 112 0 = [.aload 0, .iload 1, .putfield 9090, .aload 0, .iload 2, .putfield 9100, .aload 0, .iload 3, .putfield 9110, .aload 0, .dup, .getfield 9011, .jsr_w 1, .iload 3, .lshl, .lor, .putfield 9011, .return_] := rfl
theorem b_Task_holdWaiting_0 : sysS.2.1 113 0 = [.aload 0, .getfield 9040, .ifCond .lt 19, .aload 0, .getfield 9040, .aload 0, .getfield 9032, .arraylength, .if_icmp .lt 21, .goto_w 19] := rfl
theorem b_Task_holdWaiting_19 : sysS.2.1 113 19 = [.iconst 0, .ireturn] := rfl
theorem b_Task_holdWaiting_21 : sysS.2.1 113 21 = [.aload 0, .getfield 9032, .aload 0, .getfield 9040, .aload 1, .aastore, .aload 0, .dup, .getfield 9040, .iconst 1, .iadd, .putfield 9040, .iconst 1, .ireturn] := rfl
theorem b_Task_waitingAt_0 : sysS.2.1 114 0 = [.iload 1, .ifCond .lt 30, .iload 1, .aload 0, .getfield 9040, .if_icmp .ge 30, .iload 1, .aload 0, .getfield 9032, .arraylength, .if_icmp .ge 30, .aload 0, .getfield 9032, .iload 1, .aaload, .goto 31] := rfl
theorem b_Task_waitingAt_30 : sysS.2.1 114 30 = [.aconst_null, .goto_w 31] := rfl
theorem b_Task_waitingAt_31 : sysS.2.1 114 31 = [.areturn] := rfl
theorem b_Task_takeReady_0 : sysS.2.1 115 0 = [.iconst 0, .istore 1, .goto_w 2] := rfl
theorem b_Task_takeReady_2 : sysS.2.1 115 2 = [.iload 1, .aload 0, .getfield 9040, .if_icmp .ge 44, .aload 0, .iload 1, .invokevirtual 114, .astore 2, .aload 2, .ifnull 38, .aload 2, .getfield 8030, .aload 0, .getfield 9000, .if_icmp .gt 38, .aload 0, .iload 1, .invokevirtual 116, .aload 2, .areturn] := rfl
theorem b_Task_takeReady_38 : sysS.2.1 115 38 = [.iinc 1 1, .goto 2] := rfl
theorem b_Task_takeReady_44 : sysS.2.1 115 44 = [.aconst_null, .areturn] := rfl
theorem b_Task_closeGap_0 : sysS.2.1 116 0 = [.iload 1, .istore 2, .goto_w 2] := rfl
theorem b_Task_closeGap_2 : sysS.2.1 116 2 = [.iload 2, .ifCond .lt 47, .iload 2, .iconst 1, .iadd, .aload 0, .getfield 9040, .if_icmp .ge 47, .iload 2, .iconst 1, .iadd, .aload 0, .getfield 9032, .arraylength, .if_icmp .ge 47, .aload 0, .getfield 9032, .iload 2, .aload 0, .getfield 9032, .iload 2, .iconst 1, .iadd, .aaload, .aastore, .iinc 2 1, .goto 2] := rfl
theorem b_Task_closeGap_47 : sysS.2.1 116 47 = [.aload 0, .dup, .getfield 9040, .iconst 1, .isub, .putfield 9040, .return_] := rfl
theorem b_Task_keepSum_0 : sysS.2.1 117 0 = [.aload 0, .getfield 9070, .ifCond .lt 16, .aload 0, .getfield 9070, .iconst 40, .if_icmp .lt 17, .goto_w 16] := rfl
theorem b_Task_keepSum_16 : sysS.2.1 117 16 = [.return_] := rfl
theorem b_Task_keepSum_17 : sysS.2.1 117 17 = [.aload 0, .getfield 9052, .aload 0, .getfield 9070, .lload 1, .lastore, .aload 0, .getfield 9062, .aload 0, .getfield 9070, .iload 3, .iastore, .aload 0, .aload 0, .getfield 9070, .iconst 1, .iadd, .iconst 40, .irem, .putfield 9070, .aload 0, .aload 0, .getfield 9080, .iconst 1, .iadd, .iconst 40, .invokestatic 209, .putfield 9080, .return_] := rfl
theorem b_Task_sumAt_0 : sysS.2.1 118 0 = [.iload 1, .ifCond .lt 12, .iload 1, .aload 0, .getfield 9080, .if_icmp .lt 16, .goto_w 12] := rfl
theorem b_Task_sumAt_12 : sysS.2.1 118 12 = [.jsr_w 0, .goto 34] := rfl
theorem b_Task_sumAt_16 : sysS.2.1 118 16 = [.aload 0, .getfield 9052, .aload 0, .getfield 9070, .iconst 1, .isub, .iload 1, .isub, .iconst 40, .invokestatic 212, .laload, .goto_w 34] := rfl
theorem b_Task_sumAt_34 : sysS.2.1 118 34 = [.lreturn] := rfl
theorem b_Task_ruleOfSumAt_0 : sysS.2.1 119 0 = [.iload 1, .ifCond .lt 12, .iload 1, .aload 0, .getfield 9080, .if_icmp .lt 17, .goto_w 12] := rfl
theorem b_Task_ruleOfSumAt_12 : sysS.2.1 119 12 = [.iconst (-5), .goto 35] := rfl
theorem b_Task_ruleOfSumAt_17 : sysS.2.1 119 17 = [.aload 0, .getfield 9062, .aload 0, .getfield 9070, .iconst 1, .isub, .iload 1, .isub, .iconst 40, .invokestatic 212, .iaload, .goto_w 35] := rfl
theorem b_Task_ruleOfSumAt_35 : sysS.2.1 119 35 = [.ireturn] := rfl
theorem b_Mark_init_0 : sysS.2.1 120 0 = [.aload 0, .monitorexit, .aload 0, .iconst 6, .newarray .long, .putfield 10012, .return_] := rfl
theorem b_M_init_0 : sysS.2.1 121 0 = [.aload 0, .monitorexit, .aload 0, .iconst 200, .newarray .byte, .putfield 11002, .aload 0, .iconst 160, .newarray .int, .putfield 11092, .aload 0, .iconst 160, .newarray .int, .putfield 11102, .aload 0, .iconst 13420, .newarray .int, .putfield 11122, .aload 0, .iconst 13420, .newarray .long, .putfield 11132, .aload 0, .iconst 366, .newarray .int, .putfield 11152, .aload 0, .iconst 366, .newarray .int, .putfield 11162, .aload 0, .iconst 200, .newarray .long, .putfield 11232, .aload 0, .iconst 4, .newarray .long, .putfield 11282, .aload 0, .iconst 8, .newarray .long, .putfield 11312, .aload 0, .iconst 61, .newarray .int, .putfield 11332, .aload 0, .iconst 61, .newarray .int, .putfield 11342, .aload 0, .iconst 61, .newarray .int, .putfield 11352, .aload 0, .iconst 61, .newarray .long, .putfield 11362, .aload 0, .iconst 488, .newarray .int, .putfield 11372, .aload 0, .iconst 488, .newarray .boolean, .putfield 11382, .aload 0, .iconst 6, .newarray .int, .putfield 11432, .aload 0, .iconst 366, .newarray .boolean, .putfield 11442, .aload 0, .iconst 6, .newarray .int, .putfield 11452, .aload 0, .iconst 108, .newarray .long, .putfield 11462, .aload 0, .iconst 36, .newarray .int, .putfield 11472, .aload 0, .iconst 6, .newarray .int, .putfield 11482, .aload 0, .iconst 6, .newarray .int, .putfield 11492, .aload 0, .iconst 240, .newarray .long, .putfield 11502, .aload 0, .iconst 240, .newarray .int, .putfield 11512, .aload 0, .iconst 6, .newarray .int, .putfield 11522, .aload 0, .iconst 6, .newarray .int, .putfield 11532, .aload 0, .iconst 6, .newarray .int, .putfield 11542, .aload 0, .iconst 4, .newarray .int, .putfield 11592, .aload 0, .iconst 4, .newarray .int, .putfield 11602, .aload 0, .iconst 1464, .newarray .boolean, .putfield 11612, .aload 0, .iconst 1, .putfield 11420, .return_] := rfl
theorem b_M_in_0 : sysS.2.1 122 0 = [.lload 0, .lload 2, .lcmp, .ifCond .lt 17, .lload 0, .lload 4, .lcmp, .ifCond .gt 17, .iconst 1, .goto 18] := rfl
theorem b_M_in_17 : sysS.2.1 122 17 = [.iconst 0, .goto_w 18] := rfl
theorem b_M_in_18 : sysS.2.1 122 18 = [.ireturn] := rfl
theorem b_M_feed_0 : sysS.2.1 123 0 = [.aload 0, .getfield 11010, .iconst 20, .iadd, .iconst 200, .if_icmp .le 16, .iconst (-2), .ireturn] := rfl
theorem b_M_feed_16 : sysS.2.1 123 16 = [.aload 0, .iload 1, .invokevirtual 124, .aload 0, .iload 2, .invokevirtual 124, .aload 0, .iload 3, .invokevirtual 124, .aload 0, .iload 4, .invokevirtual 124, .aload 0, .iload 5, .invokevirtual 124, .aload 0, .getfield 11010, .ireturn] := rfl
theorem b_M_four_0 : sysS.2.1 124 0 = [.iconst 24, .istore 2, .goto_w 3] := rfl
theorem b_M_four_3 : sysS.2.1 124 3 = [.iload 2, .ifCond .lt 36, .aload 0, .getfield 11002, .aload 0, .getfield 11010, .iload 1, .iload 2, .ishr, .i2b, .bastore, .aload 0, .dup, .getfield 11010, .iconst 1, .iadd, .putfield 11010, .iinc 2 (-8), .goto 3] := rfl
theorem b_M_four_36 : sysS.2.1 124 36 = [.return_] := rfl
theorem b_M_keep_0 : sysS.2.1 125 0 = [.iload 1, .i2l, .jsr_w 0, .aload 0, .getfield 11010, .i2l, .invokestatic 122, .ifCond .ne 16, .iconst (-1), .ireturn] := rfl
theorem b_M_keep_16 : sysS.2.1 125 16 = [.aload 0, .getfield 11010, .iload 1, .isub, .istore 2, .aload 0, .iload 1, .putfield 11010, .iload 2, .ireturn] := rfl
theorem b_M_byteAt_0 : sysS.2.1 126 0 = [.iload 1, .aload 0, .getfield 11010, .if_icmp .ge 21, .aload 0, .getfield 11002, .iload 1, .baload, .iconst 255, .iand, .goto 22] := rfl
theorem b_M_byteAt_21 : sysS.2.1 126 21 = [.iconst (-1), .goto_w 22] := rfl
theorem b_M_byteAt_22 : sysS.2.1 126 22 = [.ireturn] := rfl
theorem b_M_isLetter_0 : sysS.2.1 127 0 = [.iload 0, .iconst 97, .if_icmp .lt 16, .iload 0, .iconst 122, .if_icmp .gt 16, .iconst 1, .goto 17] := rfl
theorem b_M_isLetter_16 : sysS.2.1 127 16 = [.iconst 0, .goto_w 17] := rfl
theorem b_M_isLetter_17 : sysS.2.1 127 17 = [.ireturn] := rfl
theorem b_M_isDigit_0 : sysS.2.1 128 0 = [.iload 0, .iconst 48, .if_icmp .lt 16, .iload 0, .iconst 57, .if_icmp .gt 16, .iconst 1, .goto 17] := rfl
theorem b_M_isDigit_16 : sysS.2.1 128 16 = [.iconst 0, .goto_w 17] := rfl
theorem b_M_isDigit_17 : sysS.2.1 128 17 = [.ireturn] := rfl
theorem b_M_next_0 : sysS.2.1 129 0 = [.aload 0, .aload 0, .getfield 11020, .invokevirtual 126, .iconst 32, .if_icmp .eq 26, .aload 0, .aload 0, .getfield 11020, .invokevirtual 126, .iconst 10, .if_icmp .ne 39, .goto_w 26] := rfl
theorem b_M_next_26 : sysS.2.1 129 26 = [.aload 0, .dup, .getfield 11020, .iconst 1, .iadd, .putfield 11020, .goto 0] := rfl
theorem b_M_next_39 : sysS.2.1 129 39 = [.aload 0, .aload 0, .getfield 11020, .putfield 11030, .aload 0, .jsr_w 0, .putfield 11051, .aload 0, .aload 0, .getfield 11020, .invokevirtual 126, .istore 1, .iload 1, .ifCond .ge 73, .aload 0, .iconst 0, .putfield 11040, .goto 324] := rfl
theorem b_M_next_73 : sysS.2.1 129 73 = [.iload 1, .invokestatic 127, .ifCond .eq 212, .goto_w 80] := rfl
theorem b_M_next_80 : sysS.2.1 129 80 = [.aload 0, .aload 0, .getfield 11020, .invokevirtual 126, .invokestatic 127, .ifCond .eq 128, .aload 0, .aload 0, .getfield 11051, .iconst 8, .lshl, .aload 0, .aload 0, .getfield 11020, .invokevirtual 126, .i2l, .lor, .putfield 11051, .aload 0, .dup, .getfield 11020, .iconst 1, .iadd, .putfield 11020, .goto 80] := rfl
theorem b_M_next_128 : sysS.2.1 129 128 = [.aload 0, .getfield 11020, .aload 0, .getfield 11030, .isub, .iconst 1, .if_icmp .ne 165, .iload 1, .iconst 107, .if_icmp .eq 172, .iload 1, .iconst 116, .if_icmp .eq 172, .iload 1, .iconst 118, .if_icmp .eq 172, .iload 1, .iconst 110, .if_icmp .eq 172, .goto_w 165] := rfl
theorem b_M_next_165 : sysS.2.1 129 165 = [.aload 0, .invokevirtual 130, .ifCond .eq 176, .goto_w 172] := rfl
theorem b_M_next_172 : sysS.2.1 129 172 = [.iconst 1, .goto 177] := rfl
theorem b_M_next_176 : sysS.2.1 129 176 = [.iconst 0, .goto_w 177] := rfl
theorem b_M_next_177 : sysS.2.1 129 177 = [.istore 2, .aload 0, .aload 0, .getfield 11020, .aload 0, .getfield 11030, .isub, .iconst 8, .if_icmp .le 197, .iconst 1, .goto 206] := rfl
theorem b_M_next_197 : sysS.2.1 129 197 = [.iload 2, .ifCond .eq 205, .iconst 5, .goto 206] := rfl
theorem b_M_next_205 : sysS.2.1 129 205 = [.iconst 3, .goto_w 206] := rfl
theorem b_M_next_206 : sysS.2.1 129 206 = [.putfield 11040, .goto 324] := rfl
theorem b_M_next_212 : sysS.2.1 129 212 = [.iload 1, .invokestatic 128, .ifCond .eq 319, .goto_w 219] := rfl
theorem b_M_next_219 : sysS.2.1 129 219 = [.aload 0, .aload 0, .getfield 11020, .invokevirtual 126, .invokestatic 128, .ifCond .eq 293, .aload 0, .aload 0, .getfield 11020, .aload 0, .getfield 11030, .isub, .iconst 9, .if_icmp .ge 273, .jsr_w 10, .aload 0, .getfield 11051, .lmul, .aload 0, .aload 0, .getfield 11020, .invokevirtual 126, .i2l, .ladd, .jsr_w 48, .lsub, .goto 277] := rfl
theorem b_M_next_273 : sysS.2.1 129 273 = [.aload 0, .getfield 11051, .goto_w 277] := rfl
theorem b_M_next_277 : sysS.2.1 129 277 = [.putfield 11051, .aload 0, .dup, .getfield 11020, .iconst 1, .iadd, .putfield 11020, .goto 219] := rfl
theorem b_M_next_293 : sysS.2.1 129 293 = [.aload 0, .aload 0, .getfield 11020, .aload 0, .getfield 11030, .isub, .iconst 9, .if_icmp .le 312, .iconst 1, .goto 313] := rfl
theorem b_M_next_312 : sysS.2.1 129 312 = [.iconst 2, .goto_w 313] := rfl
theorem b_M_next_313 : sysS.2.1 129 313 = [.putfield 11040, .goto 324] := rfl
theorem b_M_next_319 : sysS.2.1 129 319 = [.aload 0, .iload 1, .invokevirtual 131, .goto_w 324] := rfl
theorem b_M_next_324 : sysS.2.1 129 324 = [.return_] := rfl
theorem b_M_isLong_0 : sysS.2.1 130 0 = [.aload 0, .getfield 11051, .jsr_w 25209, .lcmp, .ifCond .eq 77, .aload 0, .getfield 11051, .jsr_w 26982, .lcmp, .ifCond .eq 77, .aload 0, .getfield 11051, .jsr_w 7304564, .lcmp, .ifCond .eq 77, .aload 0, .getfield 11051, .jsr_w 28530, .lcmp, .ifCond .eq 77, .aload 0, .getfield 11051, .jsr_w 6385252, .lcmp, .ifCond .eq 77, .aload 0, .getfield 11051, .jsr_w 7237492, .lcmp, .ifCond .eq 77, .aload 0, .getfield 11051, .jsr_w 1885954923, .lcmp, .ifCond .ne 81, .goto_w 77] := rfl
theorem b_M_isLong_77 : sysS.2.1 130 77 = [.iconst 1, .goto 82] := rfl
theorem b_M_isLong_81 : sysS.2.1 130 81 = [.iconst 0, .goto_w 82] := rfl
theorem b_M_isLong_82 : sysS.2.1 130 82 = [.ireturn] := rfl
theorem b_M_sign_0 : sysS.2.1 131 0 = [.aload 0, .dup, .getfield 11020, .iconst 1, .iadd, .putfield 11020, .iload 1, .iconst 40, .if_icmp .eq 100, .iload 1, .iconst 41, .if_icmp .eq 100, .iload 1, .iconst 91, .if_icmp .eq 100, .iload 1, .iconst 93, .if_icmp .eq 100, .iload 1, .iconst 43, .if_icmp .eq 100, .iload 1, .iconst 45, .if_icmp .eq 100, .iload 1, .iconst 42, .if_icmp .eq 100, .iload 1, .iconst 47, .if_icmp .eq 100, .iload 1, .iconst 37, .if_icmp .eq 100, .iload 1, .iconst 44, .if_icmp .eq 100, .iload 1, .iconst 58, .if_icmp .eq 100, .iload 1, .iconst 60, .if_icmp .eq 100, .iload 1, .iconst 62, .if_icmp .eq 100, .iload 1, .iconst 61, .if_icmp .eq 100, .iload 1, .iconst 35, .if_icmp .ne 104, .goto_w 100] := rfl
theorem b_M_sign_100 : sysS.2.1 131 100 = [.iconst 1, .goto 105] := rfl
theorem b_M_sign_104 : sysS.2.1 131 104 = [.iconst 0, .goto_w 105] := rfl
theorem b_M_sign_105 : sysS.2.1 131 105 = [.istore 2, .aload 0, .iload 1, .i2l, .putfield 11051, .iload 1, .iconst 60, .if_icmp .eq 124, .iload 1, .iconst 62, .if_icmp .ne 157, .goto_w 124] := rfl
theorem b_M_sign_124 : sysS.2.1 131 124 = [.aload 0, .aload 0, .getfield 11020, .invokevirtual 126, .iconst 61, .if_icmp .ne 157, .aload 0, .dup, .getfield 11020, .iconst 1, .iadd, .putfield 11020, .aload 0, .iconst 256, .iload 1, .iadd, .i2l, .putfield 11051, .goto_w 157] := rfl
theorem b_M_sign_157 : sysS.2.1 131 157 = [.aload 0, .iload 2, .ifCond .eq 166, .iconst 4, .goto 167] := rfl
theorem b_M_sign_166 : sysS.2.1 131 166 = [.iconst 1, .goto_w 167] := rfl
theorem b_M_sign_167 : sysS.2.1 131 167 = [.putfield 11040, .return_] := rfl
theorem b_M_isSign_0 : sysS.2.1 132 0 = [.aload 0, .getfield 11040, .iconst 4, .if_icmp .ne 22, .aload 0, .getfield 11051, .iload 1, .i2l, .lcmp, .ifCond .ne 22, .iconst 1, .goto 23] := rfl
theorem b_M_isSign_22 : sysS.2.1 132 22 = [.iconst 0, .goto_w 23] := rfl
theorem b_M_isSign_23 : sysS.2.1 132 23 = [.ireturn] := rfl
theorem b_M_isKey_0 : sysS.2.1 133 0 = [.aload 0, .getfield 11040, .iconst 5, .if_icmp .ne 21, .aload 0, .getfield 11051, .lload 1, .lcmp, .ifCond .ne 21, .iconst 1, .goto 22] := rfl
theorem b_M_isKey_21 : sysS.2.1 133 21 = [.iconst 0, .goto_w 22] := rfl
theorem b_M_isKey_22 : sysS.2.1 133 22 = [.ireturn] := rfl
theorem b_M_isWell_0 : sysS.2.1 134 0 = [.aload 0, .getfield 11060, .ifCond .ne 11, .iconst 1, .goto 12] := rfl
theorem b_M_isWell_11 : sysS.2.1 134 11 = [.iconst 0, .goto_w 12] := rfl
theorem b_M_isWell_12 : sysS.2.1 134 12 = [.ireturn] := rfl
theorem b_M_fault_I_0 : sysS.2.1 135 0 = [.aload 0, .getfield 11060, .ifCond .ne 20, .aload 0, .iload 1, .putfield 11060, .aload 0, .aload 0, .getfield 11030, .putfield 11070, .goto_w 20] := rfl
theorem b_M_fault_I_20 : sysS.2.1 135 20 = [.return_] := rfl
theorem b_M_bad_0 : sysS.2.1 136 0 = [.aload 0, .aload 0, .getfield 11040, .iconst 1, .if_icmp .ne 13, .iconst 1, .goto 14] := rfl
theorem b_M_bad_13 : sysS.2.1 136 13 = [.iconst 2, .goto_w 14] := rfl
theorem b_M_bad_14 : sysS.2.1 136 14 = [.invokevirtual 135, .return_] := rfl
theorem b_M_push_0 : sysS.2.1 137 0 = [.aload 0, .getfield 11092, .aload 0, .getfield 11110, .iload 1, .iastore, .aload 0, .getfield 11102, .aload 0, .getfield 11110, .iload 2, .iastore, .aload 0, .dup, .getfield 11110, .iconst 1, .iadd, .putfield 11110, .return_] := rfl
theorem b_M_opens_0 : sysS.2.1 138 0 = [.aload 0, .getfield 11080, .iconst 12, .if_icmp .ne 17, .aload 0, .iconst 3, .invokevirtual 135, .goto 37] := rfl
theorem b_M_opens_17 : sysS.2.1 138 17 = [.aload 0, .dup, .getfield 11080, .iconst 1, .iadd, .putfield 11080, .aload 0, .iload 1, .iconst 0, .invokevirtual 137, .aload 0, .invokevirtual 129, .goto_w 37] := rfl
theorem b_M_opens_37 : sysS.2.1 138 37 = [.return_] := rfl
theorem b_M_isTop_0 : sysS.2.1 139 0 = [.aload 0, .getfield 11092, .aload 0, .getfield 11110, .iconst 1, .isub, .iaload, .iload 1, .if_icmp .ne 19, .iconst 1, .goto 20] := rfl
theorem b_M_isTop_19 : sysS.2.1 139 19 = [.iconst 0, .goto_w 20] := rfl
theorem b_M_isTop_20 : sysS.2.1 139 20 = [.ireturn] := rfl
theorem b_M_order_0 : sysS.2.1 140 0 = [.aload 0, .getfield 11122, .aload 0, .getfield 11140, .iload 1, .iastore, .aload 0, .getfield 11132, .aload 0, .getfield 11140, .lload 2, .lastore, .aload 0, .dup, .getfield 11140, .iconst 1, .iadd, .putfield 11140, .return_] := rfl
theorem b_M_part_0 : sysS.2.1 141 0 = [.aload 0, .getfield 11152, .iconst 6, .iload 1, .imul, .iload 2, .iadd, .aload 0, .getfield 11140, .iastore, .aload 0, .iconst 0, .putfield 11110, .aload 0, .iload 3, .ifCond .eq 29, .iconst 1, .goto 30] := rfl
theorem b_M_part_29 : sysS.2.1 141 29 = [.iconst 0, .goto_w 30] := rfl
theorem b_M_part_30 : sysS.2.1 141 30 = [.iconst 0, .invokevirtual 137, .iload 3, .ifCond .eq 42, .iconst 3, .goto 43] := rfl
theorem b_M_part_42 : sysS.2.1 141 42 = [.iconst 0, .goto_w 43] := rfl
theorem b_M_part_43 : sysS.2.1 141 43 = [.istore 4, .goto_w 45] := rfl
theorem b_M_part_45 : sysS.2.1 141 45 = [.aload 0, .invokevirtual 134, .ifCond .eq 104, .iload 4, .ifCond .lt 104, .iload 4, .iconst 3, .if_icmp .ne 70, .aload 0, .invokevirtual 142, .goto 99] := rfl
theorem b_M_part_70 : sysS.2.1 141 70 = [.iload 4, .ifCond .ne 82, .aload 0, .invokevirtual 143, .goto 99] := rfl
theorem b_M_part_82 : sysS.2.1 141 82 = [.iload 4, .iconst 1, .if_icmp .ne 95, .aload 0, .invokevirtual 146, .goto 99] := rfl
theorem b_M_part_95 : sysS.2.1 141 95 = [.aload 0, .invokevirtual 149, .goto_w 99] := rfl
theorem b_M_part_99 : sysS.2.1 141 99 = [.istore 4, .goto 45] := rfl
theorem b_M_part_104 : sysS.2.1 141 104 = [.aload 0, .getfield 11162, .iconst 6, .iload 1, .imul, .iload 2, .iadd, .aload 0, .getfield 11140, .iastore, .return_] := rfl
theorem b_M_one_0 : sysS.2.1 142 0 = [.aload 0, .jsr_w 7237492, .invokevirtual 133, .ifCond .eq 18, .aload 0, .iconst 6, .invokevirtual 138, .iconst 3, .ireturn] := rfl
theorem b_M_one_18 : sysS.2.1 142 18 = [.aload 0, .iconst 91, .invokevirtual 132, .ifCond .eq 34, .aload 0, .iconst 3, .invokevirtual 138, .iconst 3, .ireturn] := rfl
theorem b_M_one_34 : sysS.2.1 142 34 = [.aload 0, .iconst 8, .iconst 0, .invokevirtual 137, .iconst 0, .ireturn] := rfl
theorem b_M_unit_0 : sysS.2.1 143 0 = [.aload 0, .getfield 11040, .iconst 2, .if_icmp .ne 23, .aload 0, .iconst 0, .aload 0, .getfield 11051, .invokevirtual 140, .aload 0, .invokevirtual 129, .iconst 1, .ireturn] := rfl
theorem b_M_unit_23 : sysS.2.1 143 23 = [.aload 0, .getfield 11040, .iconst 5, .if_icmp .ne 57, .aload 0, .getfield 11051, .jsr_w 256, .lcmp, .ifCond .ge 57, .aload 0, .iconst 1, .aload 0, .getfield 11051, .invokevirtual 140, .aload 0, .invokevirtual 129, .iconst 1, .ireturn] := rfl
theorem b_M_unit_57 : sysS.2.1 143 57 = [.aload 0, .iconst 45, .invokevirtual 132, .ifCond .eq 74, .aload 0, .iconst 7, .invokevirtual 138, .iconst 0, .ireturn] := rfl
theorem b_M_unit_74 : sysS.2.1 143 74 = [.aload 0, .iconst 40, .invokevirtual 132, .ifCond .eq 90, .aload 0, .iconst 2, .invokevirtual 138, .iconst 0, .ireturn] := rfl
theorem b_M_unit_90 : sysS.2.1 143 90 = [.aload 0, .jsr_w 1885954923, .invokevirtual 133, .ifCond .eq 120, .aload 0, .iconst 4, .invokevirtual 138, .aload 0, .invokevirtual 134, .ifCond .eq 118, .aload 0, .iconst 40, .invokevirtual 144, .goto_w 118] := rfl
theorem b_M_unit_118 : sysS.2.1 143 118 = [.iconst 0, .ireturn] := rfl
theorem b_M_unit_120 : sysS.2.1 143 120 = [.aload 0, .invokevirtual 136, .iconst 0, .ireturn] := rfl
theorem b_M_take_0 : sysS.2.1 144 0 = [.aload 0, .iload 1, .invokevirtual 132, .ifCond .eq 15, .aload 0, .invokevirtual 129, .goto 19] := rfl
theorem b_M_take_15 : sysS.2.1 144 15 = [.aload 0, .invokevirtual 136, .goto_w 19] := rfl
theorem b_M_take_19 : sysS.2.1 144 19 = [.return_] := rfl
theorem b_M_does_0 : sysS.2.1 145 0 = [.aload 0, .iload 1, .invokevirtual 139, .ifCond .eq 33, .aload 0, .dup, .getfield 11110, .iconst 1, .isub, .putfield 11110, .aload 0, .iconst 3, .aload 0, .getfield 11102, .aload 0, .getfield 11110, .iaload, .i2l, .invokevirtual 140, .goto_w 33] := rfl
theorem b_M_does_33 : sysS.2.1 145 33 = [.return_] := rfl
theorem b_M_behindUnit_0 : sysS.2.1 146 0 = [.aload 0, .iconst 7, .invokevirtual 139, .ifCond .eq 38, .aload 0, .dup, .getfield 11110, .iconst 1, .isub, .putfield 11110, .aload 0, .dup, .getfield 11080, .iconst 1, .isub, .putfield 11080, .aload 0, .iconst 2, .jsr_w 0, .invokevirtual 140, .goto 0] := rfl
theorem b_M_behindUnit_38 : sysS.2.1 146 38 = [.aload 0, .iconst 13, .invokevirtual 145, .aload 0, .iconst 42, .invokevirtual 132, .ifCond .ne 71, .aload 0, .iconst 47, .invokevirtual 132, .ifCond .ne 71, .aload 0, .iconst 37, .invokevirtual 132, .ifCond .eq 88, .goto_w 71] := rfl
theorem b_M_behindUnit_71 : sysS.2.1 146 71 = [.aload 0, .iconst 13, .aload 0, .getfield 11051, .l2i, .invokevirtual 137, .aload 0, .invokevirtual 129, .iconst 0, .ireturn] := rfl
theorem b_M_behindUnit_88 : sysS.2.1 146 88 = [.aload 0, .iconst 12, .invokevirtual 145, .aload 0, .iconst 43, .invokevirtual 132, .ifCond .ne 112, .aload 0, .iconst 45, .invokevirtual 132, .ifCond .eq 129, .goto_w 112] := rfl
theorem b_M_behindUnit_112 : sysS.2.1 146 112 = [.aload 0, .iconst 12, .aload 0, .getfield 11051, .l2i, .invokevirtual 137, .aload 0, .invokevirtual 129, .iconst 0, .ireturn] := rfl
theorem b_M_behindUnit_129 : sysS.2.1 146 129 = [.aload 0, .invokevirtual 147, .ireturn] := rfl
theorem b_M_behindSum_0 : sysS.2.1 147 0 = [.aload 0, .getfield 11092, .aload 0, .getfield 11110, .iconst 1, .isub, .iaload, .istore 1, .iload 1, .ifCond .ne 18, .iconst (-1), .ireturn] := rfl
theorem b_M_behindSum_18 : sysS.2.1 147 18 = [.iload 1, .iconst 2, .if_icmp .ne 30, .aload 0, .iconst 41, .invokevirtual 148, .ireturn] := rfl
theorem b_M_behindSum_30 : sysS.2.1 147 30 = [.iload 1, .iconst 4, .if_icmp .ne 67, .aload 0, .getfield 11092, .aload 0, .getfield 11110, .iconst 1, .isub, .iconst 5, .iastore, .aload 0, .getfield 11102, .aload 0, .getfield 11110, .iconst 1, .isub, .iconst 1, .iastore, .aload 0, .iconst 58, .invokevirtual 144, .iconst 0, .ireturn] := rfl
theorem b_M_behindSum_67 : sysS.2.1 147 67 = [.iload 1, .iconst 5, .if_icmp .ne 142, .aload 0, .iconst 44, .invokevirtual 132, .ifCond .eq 118, .aload 0, .getfield 11102, .aload 0, .getfield 11110, .iconst 1, .isub, .iaload, .iconst 6, .if_icmp .ge 118, .aload 0, .getfield 11102, .aload 0, .getfield 11110, .iconst 1, .isub, .dup2, .iaload, .iconst 1, .iadd, .iastore, .aload 0, .invokevirtual 129, .iconst 0, .ireturn] := rfl
theorem b_M_behindSum_118 : sysS.2.1 147 118 = [.aload 0, .iconst 4, .aload 0, .getfield 11102, .aload 0, .getfield 11110, .iconst 1, .isub, .iaload, .i2l, .invokevirtual 140, .aload 0, .iconst 41, .invokevirtual 148, .ireturn] := rfl
theorem b_M_behindSum_142 : sysS.2.1 147 142 = [.iload 1, .iconst 9, .if_icmp .ne 175, .aload 0, .dup, .getfield 11110, .iconst 1, .isub, .putfield 11110, .aload 0, .iconst 5, .aload 0, .getfield 11102, .aload 0, .getfield 11110, .iaload, .i2l, .invokevirtual 140, .iconst 2, .ireturn] := rfl
theorem b_M_behindSum_175 : sysS.2.1 147 175 = [.aload 0, .getfield 11040, .iconst 4, .if_icmp .ne 253, .aload 0, .getfield 11051, .jsr_w 60, .lcmp, .ifCond .eq 249, .aload 0, .getfield 11051, .jsr_w 62, .lcmp, .ifCond .eq 249, .aload 0, .getfield 11051, .jsr_w 61, .lcmp, .ifCond .eq 249, .aload 0, .getfield 11051, .jsr_w 35, .lcmp, .ifCond .eq 249, .aload 0, .getfield 11051, .jsr_w 316, .lcmp, .ifCond .eq 249, .aload 0, .getfield 11051, .jsr_w 318, .lcmp, .ifCond .ne 253, .goto_w 249] := rfl
theorem b_M_behindSum_249 : sysS.2.1 147 249 = [.iconst 1, .goto 254] := rfl
theorem b_M_behindSum_253 : sysS.2.1 147 253 = [.iconst 0, .goto_w 254] := rfl
theorem b_M_behindSum_254 : sysS.2.1 147 254 = [.istore 2, .iload 2, .ifCond .eq 295, .aload 0, .getfield 11092, .aload 0, .getfield 11110, .iconst 1, .isub, .iconst 9, .iastore, .aload 0, .getfield 11102, .aload 0, .getfield 11110, .iconst 1, .isub, .aload 0, .getfield 11051, .l2i, .iastore, .aload 0, .invokevirtual 129, .goto 299] := rfl
theorem b_M_behindSum_295 : sysS.2.1 147 295 = [.aload 0, .invokevirtual 136, .goto_w 299] := rfl
theorem b_M_behindSum_299 : sysS.2.1 147 299 = [.iconst 0, .ireturn] := rfl
theorem b_M_closes_0 : sysS.2.1 148 0 = [.aload 0, .iload 1, .invokevirtual 144, .aload 0, .dup, .getfield 11110, .iconst 1, .isub, .putfield 11110, .aload 0, .dup, .getfield 11080, .iconst 1, .isub, .putfield 11080, .iconst 1, .ireturn] := rfl
theorem b_M_behindOne_0 : sysS.2.1 149 0 = [.aload 0, .iconst 6, .invokevirtual 139, .ifCond .eq 39, .aload 0, .dup, .getfield 11110, .iconst 1, .isub, .putfield 11110, .aload 0, .dup, .getfield 11080, .iconst 1, .isub, .putfield 11080, .aload 0, .iconst 6, .jsr_w 0, .invokevirtual 140, .goto 0] := rfl
theorem b_M_behindOne_39 : sysS.2.1 149 39 = [.aload 0, .iconst 11, .invokevirtual 139, .ifCond .eq 77, .aload 0, .dup, .getfield 11110, .iconst 1, .isub, .putfield 11110, .aload 0, .getfield 11132, .aload 0, .getfield 11102, .aload 0, .getfield 11110, .iaload, .aload 0, .getfield 11140, .i2l, .lastore, .goto_w 77] := rfl
theorem b_M_behindOne_77 : sysS.2.1 149 77 = [.aload 0, .jsr_w 6385252, .invokevirtual 133, .ifCond .eq 110, .aload 0, .iconst 11, .aload 0, .getfield 11140, .invokevirtual 137, .aload 0, .iconst 7, .jsr_w 0, .invokevirtual 140, .aload 0, .invokevirtual 129, .iconst 3, .ireturn] := rfl
theorem b_M_behindOne_110 : sysS.2.1 149 110 = [.aload 0, .iconst 10, .invokevirtual 139, .ifCond .eq 148, .aload 0, .dup, .getfield 11110, .iconst 1, .isub, .putfield 11110, .aload 0, .getfield 11132, .aload 0, .getfield 11102, .aload 0, .getfield 11110, .iaload, .aload 0, .getfield 11140, .i2l, .lastore, .goto_w 148] := rfl
theorem b_M_behindOne_148 : sysS.2.1 149 148 = [.aload 0, .jsr_w 28530, .invokevirtual 133, .ifCond .eq 181, .aload 0, .iconst 10, .aload 0, .getfield 11140, .invokevirtual 137, .aload 0, .iconst 8, .jsr_w 0, .invokevirtual 140, .aload 0, .invokevirtual 129, .iconst 3, .ireturn] := rfl
theorem b_M_behindOne_181 : sysS.2.1 149 181 = [.aload 0, .iconst 1, .invokevirtual 139, .ifCond .eq 191, .iconst (-1), .ireturn] := rfl
theorem b_M_behindOne_191 : sysS.2.1 149 191 = [.aload 0, .iconst 93, .invokevirtual 148, .istore 1, .iconst 2, .ireturn] := rfl
theorem b_M_read_0 : sysS.2.1 150 0 = [.aload 0, .iconst 0, .putfield 11020, .aload 0, .iconst 0, .putfield 11060, .aload 0, .iconst 0, .putfield 11080, .aload 0, .iconst 220, .iload 1, .imul, .putfield 11140, .iconst 0, .istore 2, .goto_w 26] := rfl
theorem b_M_read_26 : sysS.2.1 150 26 = [.iload 2, .iconst 6, .if_icmp .ge 50, .aload 0, .getfield 11152, .iconst 6, .iload 1, .imul, .iload 2, .iadd, .iconst (-1), .iastore, .iinc 2 1, .goto 26] := rfl
theorem b_M_read_50 : sysS.2.1 150 50 = [.aload 0, .invokevirtual 129, .aload 0, .invokevirtual 151, .aload 0, .invokevirtual 134, .ifCond .eq 86, .aload 0, .jsr_w 25209, .invokevirtual 133, .ifCond .eq 86, .aload 0, .invokevirtual 129, .aload 0, .iload 1, .iconst 0, .iconst 0, .invokevirtual 141, .goto_w 86] := rfl
theorem b_M_read_86 : sysS.2.1 150 86 = [.aload 0, .invokevirtual 134, .ifCond .eq 114, .aload 0, .jsr_w 26982, .invokevirtual 133, .ifCond .eq 114, .aload 0, .invokevirtual 129, .aload 0, .iload 1, .iconst 1, .iconst 1, .invokevirtual 141, .goto_w 114] := rfl
theorem b_M_read_114 : sysS.2.1 150 114 = [.aload 0, .invokevirtual 134, .ifCond .eq 135, .aload 0, .jsr_w 7304564, .invokevirtual 133, .ifCond .ne 135, .aload 0, .invokevirtual 136, .goto_w 135] := rfl
theorem b_M_read_135 : sysS.2.1 150 135 = [.iconst 0, .istore 2, .aload 0, .invokevirtual 134, .istore 3, .goto_w 142] := rfl
theorem b_M_read_142 : sysS.2.1 150 142 = [.iload 3, .ifCond .eq 192, .aload 0, .invokevirtual 129, .aload 0, .iload 1, .iconst 2, .iload 2, .iadd, .iconst 0, .invokevirtual 141, .iinc 2 1, .aload 0, .invokevirtual 134, .ifCond .eq 187, .aload 0, .iconst 44, .invokevirtual 132, .ifCond .eq 187, .iload 2, .iconst 4, .if_icmp .ge 187, .iconst 1, .goto 188] := rfl
theorem b_M_read_187 : sysS.2.1 150 187 = [.iconst 0, .goto_w 188] := rfl
theorem b_M_read_188 : sysS.2.1 150 188 = [.istore 3, .goto 142] := rfl
theorem b_M_read_192 : sysS.2.1 150 192 = [.aload 0, .invokevirtual 134, .ifCond .eq 210, .aload 0, .getfield 11040, .ifCond .eq 210, .aload 0, .invokevirtual 136, .goto_w 210] := rfl
theorem b_M_read_210 : sysS.2.1 150 210 = [.return_] := rfl
theorem b_M_name_0 : sysS.2.1 151 0 = [.aload 0, .getfield 11040, .iconst 3, .if_icmp .eq 13, .aload 0, .invokevirtual 136, .return_] := rfl
theorem b_M_name_13 : sysS.2.1 151 13 = [.aload 0, .aload 0, .getfield 11051, .putfield 11171, .aload 0, .aload 0, .getfield 11051, .invokevirtual 160, .iconst (-5), .if_icmp .ne 49, .aload 0, .getfield 11300, .iconst 8, .if_icmp .ne 49, .aload 0, .iconst 4, .invokevirtual 135, .return_] := rfl
theorem b_M_name_49 : sysS.2.1 151 49 = [.aload 0, .invokevirtual 129, .return_] := rfl
theorem b_M_worked_0 : sysS.2.1 152 0 = [.aload 0, .getfield 11162, .iconst 6, .iload 1, .imul, .iload 2, .iadd, .iaload, .istore 3, .aload 0, .getfield 11152, .iconst 6, .iload 1, .imul, .iload 2, .iadd, .iaload, .istore 4, .aload 0, .iconst 0, .putfield 11240, .goto_w 30] := rfl
theorem b_M_worked_30 : sysS.2.1 152 30 = [.iload 4, .iload 3, .if_icmp .ge 146, .aload 0, .getfield 11220, .ifCond .ne 146, .aload 0, .getfield 11132, .iload 4, .laload, .lstore 5, .aload 0, .getfield 11122, .iload 4, .iaload, .istore 7, .iinc 4 1, .iload 7, .iconst 7, .if_icmp .eq 78, .iload 7, .iconst 8, .if_icmp .ne 135, .goto_w 78] := rfl
theorem b_M_worked_78 : sysS.2.1 152 78 = [.aload 0, .getfield 11232, .aload 0, .getfield 11240, .iconst 1, .isub, .laload, .jsr_w 0, .lcmp, .ifCond .eq 98, .iconst 1, .goto 99] := rfl
theorem b_M_worked_98 : sysS.2.1 152 98 = [.iconst 0, .goto_w 99] := rfl
theorem b_M_worked_99 : sysS.2.1 152 99 = [.iload 7, .iconst 8, .if_icmp .ne 110, .iconst 1, .goto 111] := rfl
theorem b_M_worked_110 : sysS.2.1 152 110 = [.iconst 0, .goto_w 111] := rfl
theorem b_M_worked_111 : sysS.2.1 152 111 = [.if_icmp .ne 122, .lload 5, .l2i, .istore 4, .goto 143] := rfl
theorem b_M_worked_122 : sysS.2.1 152 122 = [.aload 0, .dup, .getfield 11240, .iconst 1, .isub, .putfield 11240, .goto 143] := rfl
theorem b_M_worked_135 : sysS.2.1 152 135 = [.aload 0, .iload 7, .lload 5, .invokevirtual 154, .goto_w 143] := rfl
theorem b_M_worked_143 : sysS.2.1 152 143 = [.goto 30] := rfl
theorem b_M_worked_146 : sysS.2.1 152 146 = [.aload 0, .getfield 11220, .ifCond .ne 162, .aload 0, .getfield 11232, .iconst 0, .laload, .goto 163] := rfl
theorem b_M_worked_162 : sysS.2.1 152 162 = [.jsr_w 0, .goto_w 163] := rfl
theorem b_M_worked_163 : sysS.2.1 152 163 = [.lreturn] := rfl
theorem b_M_value_0 : sysS.2.1 153 0 = [.aload 0, .getfield 11232, .aload 0, .getfield 11240, .lload 1, .lastore, .aload 0, .dup, .getfield 11240, .iconst 1, .iadd, .putfield 11240, .return_] := rfl
theorem b_M_obey_0 : sysS.2.1 154 0 = [.iload 1, .tableswitch 224 (0) (5) #[40, 48, 104, 130, 158, 167]] := rfl
theorem b_M_obey_40 : sysS.2.1 154 40 = [.aload 0, .lload 2, .invokevirtual 153, .goto 248] := rfl
theorem b_M_obey_48 : sysS.2.1 154 48 = [.aload 0, .lload 2, .jsr_w 107, .lcmp, .ifCond .ne 64, .aload 0, .getfield 11181, .goto 98] := rfl
theorem b_M_obey_64 : sysS.2.1 154 64 = [.lload 2, .jsr_w 116, .lcmp, .ifCond .ne 79, .aload 0, .getfield 11191, .goto 98] := rfl
theorem b_M_obey_79 : sysS.2.1 154 79 = [.lload 2, .jsr_w 118, .lcmp, .ifCond .ne 94, .aload 0, .getfield 11201, .goto 98] := rfl
theorem b_M_obey_94 : sysS.2.1 154 94 = [.aload 0, .getfield 11211, .goto_w 98] := rfl
theorem b_M_obey_98 : sysS.2.1 154 98 = [.invokevirtual 153, .goto 248] := rfl
theorem b_M_obey_104 : sysS.2.1 154 104 = [.aload 0, .getfield 11232, .aload 0, .getfield 11240, .iconst 1, .isub, .aload 0, .getfield 11232, .aload 0, .getfield 11240, .iconst 1, .isub, .laload, .lneg, .lastore, .goto 248] := rfl
theorem b_M_obey_130 : sysS.2.1 154 130 = [.aload 0, .dup, .getfield 11240, .iconst 1, .isub, .putfield 11240, .aload 0, .lload 2, .l2i, .aload 0, .getfield 11232, .aload 0, .getfield 11240, .laload, .invokevirtual 155, .goto 248] := rfl
theorem b_M_obey_158 : sysS.2.1 154 158 = [.aload 0, .lload 2, .l2i, .invokevirtual 156, .goto 248] := rfl
theorem b_M_obey_167 : sysS.2.1 154 167 = [.aload 0, .dup, .getfield 11240, .iconst 1, .isub, .putfield 11240, .aload 0, .getfield 11232, .aload 0, .getfield 11240, .iconst 1, .isub, .lload 2, .l2i, .aload 0, .getfield 11232, .aload 0, .getfield 11240, .iconst 1, .isub, .laload, .aload 0, .getfield 11232, .aload 0, .getfield 11240, .laload, .invokestatic 157, .ifCond .eq 219, .jsr_w 1, .goto 220] := rfl
theorem b_M_obey_219 : sysS.2.1 154 219 = [.jsr_w 0, .goto_w 220] := rfl
theorem b_M_obey_220 : sysS.2.1 154 220 = [.lastore, .goto 248] := rfl
theorem b_M_obey_224 : sysS.2.1 154 224 = [.aload 0, .getfield 11232, .aload 0, .getfield 11240, .iconst 1, .isub, .jsr_w 1, .aload 0, .getfield 11232, .aload 0, .getfield 11240, .iconst 1, .isub, .laload, .lsub, .lastore, .goto_w 248] := rfl
theorem b_M_obey_248 : sysS.2.1 154 248 = [.return_] := rfl
theorem b_M_operate_0 : sysS.2.1 155 0 = [.aload 0, .getfield 11232, .aload 0, .getfield 11240, .iconst 1, .isub, .laload, .lstore 4, .iload 1, .iconst 47, .if_icmp .eq 25, .iload 1, .iconst 37, .if_icmp .ne 37, .goto_w 25] := rfl
theorem b_M_operate_25 : sysS.2.1 155 25 = [.lload 2, .jsr_w 0, .lcmp, .ifCond .ne 37, .aload 0, .iconst 1, .putfield 11220, .return_] := rfl
theorem b_M_operate_37 : sysS.2.1 155 37 = [.aload 0, .getfield 11232, .aload 0, .getfield 11240, .iconst 1, .isub, .iload 1, .iconst 43, .if_icmp .ne 60, .lload 4, .lload 2, .ladd, .goto 127] := rfl
theorem b_M_operate_60 : sysS.2.1 155 60 = [.iload 1, .iconst 45, .if_icmp .ne 73, .lload 4, .lload 2, .lsub, .goto 127] := rfl
theorem b_M_operate_73 : sysS.2.1 155 73 = [.iload 1, .iconst 42, .if_icmp .ne 86, .lload 4, .lload 2, .lmul, .goto 127] := rfl
theorem b_M_operate_86 : sysS.2.1 155 86 = [.lload 2, .jsr_w (-1), .lcmp, .ifCond .ne 110, .iload 1, .iconst 47, .if_icmp .ne 106, .lload 4, .lneg, .goto 127] := rfl
theorem b_M_operate_106 : sysS.2.1 155 106 = [.jsr_w 0, .goto 127] := rfl
theorem b_M_operate_110 : sysS.2.1 155 110 = [.iload 1, .iconst 47, .if_icmp .ne 123, .lload 4, .lload 2, .ldiv, .goto 127] := rfl
theorem b_M_operate_123 : sysS.2.1 155 123 = [.lload 4, .lload 2, .lrem, .goto_w 127] := rfl
theorem b_M_operate_127 : sysS.2.1 155 127 = [.lastore, .return_] := rfl
theorem b_M_choose_0 : sysS.2.1 156 0 = [.aload 0, .dup, .getfield 11240, .iload 1, .isub, .putfield 11240, .aload 0, .getfield 11232, .aload 0, .getfield 11240, .iconst 1, .isub, .laload, .lstore 2, .lload 2, .jsr_w 0, .lcmp, .ifCond .lt 35, .lload 2, .iload 1, .i2l, .lcmp, .ifCond .lt 41, .goto_w 35] := rfl
theorem b_M_choose_35 : sysS.2.1 156 35 = [.aload 0, .iconst 2, .putfield 11220, .return_] := rfl
theorem b_M_choose_41 : sysS.2.1 156 41 = [.aload 0, .getfield 11232, .aload 0, .getfield 11240, .iconst 1, .isub, .aload 0, .getfield 11232, .aload 0, .getfield 11240, .lload 2, .l2i, .iadd, .laload, .lastore, .return_] := rfl
theorem b_M_relates_0 : sysS.2.1 157 0 = [.iload 0, .iconst 60, .if_icmp .ne 20, .lload 1, .lload 3, .lcmp, .ifCond .ge 16, .iconst 1, .goto 112] := rfl
theorem b_M_relates_16 : sysS.2.1 157 16 = [.iconst 0, .goto 112] := rfl
theorem b_M_relates_20 : sysS.2.1 157 20 = [.iload 0, .iconst 62, .if_icmp .ne 40, .lload 1, .lload 3, .lcmp, .ifCond .le 36, .iconst 1, .goto 112] := rfl
theorem b_M_relates_36 : sysS.2.1 157 36 = [.iconst 0, .goto 112] := rfl
theorem b_M_relates_40 : sysS.2.1 157 40 = [.iload 0, .iconst 61, .if_icmp .ne 60, .lload 1, .lload 3, .lcmp, .ifCond .ne 56, .iconst 1, .goto 112] := rfl
theorem b_M_relates_56 : sysS.2.1 157 56 = [.iconst 0, .goto 112] := rfl
theorem b_M_relates_60 : sysS.2.1 157 60 = [.iload 0, .iconst 35, .if_icmp .ne 80, .lload 1, .lload 3, .lcmp, .ifCond .eq 76, .iconst 1, .goto 112] := rfl
theorem b_M_relates_76 : sysS.2.1 157 76 = [.iconst 0, .goto 112] := rfl
theorem b_M_relates_80 : sysS.2.1 157 80 = [.iload 0, .iconst 316, .if_icmp .ne 101, .lload 1, .lload 3, .lcmp, .ifCond .gt 97, .iconst 1, .goto 112] := rfl
theorem b_M_relates_97 : sysS.2.1 157 97 = [.iconst 0, .goto 112] := rfl
theorem b_M_relates_101 : sysS.2.1 157 101 = [.lload 1, .lload 3, .lcmp, .ifCond .lt 111, .iconst 1, .goto 112] := rfl
theorem b_M_relates_111 : sysS.2.1 157 111 = [.iconst 0, .goto_w 112] := rfl
theorem b_M_relates_112 : sysS.2.1 157 112 = [.ireturn] := rfl
theorem b_M_go_0 : sysS.2.1 158 0 = [.aload 0, .iconst 0, .putfield 11220, .aload 0, .aload 0, .getfield 11152, .iconst 6, .iload 1, .imul, .iaload, .ifCond .lt 22, .iconst 1, .goto 23] := rfl
theorem b_M_go_22 : sysS.2.1 158 22 = [.iconst 0, .goto_w 23] := rfl
theorem b_M_go_23 : sysS.2.1 158 23 = [.putfield 11253, .aload 0, .iload 2, .iconst 1, .if_icmp .ne 48, .aload 0, .getfield 11253, .ifCond .eq 48, .aload 0, .iload 1, .iconst 0, .invokevirtual 152, .goto 49] := rfl
theorem b_M_go_48 : sysS.2.1 158 48 = [.jsr_w 0, .goto_w 49] := rfl
theorem b_M_go_49 : sysS.2.1 158 49 = [.putfield 11261, .aload 0, .iload 2, .iconst 2, .if_icmp .ne 87, .aload 0, .getfield 11152, .iconst 6, .iload 1, .imul, .iconst 1, .iadd, .iaload, .ifCond .lt 83, .aload 0, .iload 1, .iconst 1, .invokevirtual 152, .jsr_w 0, .lcmp, .ifCond .eq 87, .goto_w 83] := rfl
theorem b_M_go_83 : sysS.2.1 158 83 = [.iconst 1, .goto 88] := rfl
theorem b_M_go_87 : sysS.2.1 158 87 = [.iconst 0, .goto_w 88] := rfl
theorem b_M_go_88 : sysS.2.1 158 88 = [.putfield 11273, .aload 0, .iconst 0, .putfield 11290, .iconst 2, .istore 3, .goto_w 98] := rfl
theorem b_M_go_98 : sysS.2.1 158 98 = [.iload 3, .iconst 6, .if_icmp .ge 163, .aload 0, .getfield 11273, .ifCond .eq 163, .aload 0, .getfield 11220, .ifCond .ne 163, .aload 0, .getfield 11152, .iconst 6, .iload 1, .imul, .iload 3, .iadd, .iaload, .ifCond .lt 157, .aload 0, .getfield 11282, .aload 0, .getfield 11290, .aload 0, .iload 1, .iload 3, .invokevirtual 152, .lastore, .aload 0, .dup, .getfield 11290, .iconst 1, .iadd, .putfield 11290, .goto_w 157] := rfl
theorem b_M_go_157 : sysS.2.1 158 157 = [.iinc 3 1, .goto 98] := rfl
theorem b_M_go_163 : sysS.2.1 158 163 = [.return_] := rfl
theorem b_M_let_0 : sysS.2.1 159 0 = [.aload 0, .lload 1, .putfield 11181, .aload 0, .lload 3, .putfield 11191, .aload 0, .lload 5, .putfield 11201, .aload 0, .lload 7, .putfield 11211, .return_] := rfl
theorem b_M_ruleOf_0 : sysS.2.1 160 0 = [.iconst 0, .istore 3, .goto_w 2] := rfl
theorem b_M_ruleOf_2 : sysS.2.1 160 2 = [.iload 3, .aload 0, .getfield 11300, .if_icmp .ge 29, .aload 0, .getfield 11312, .iload 3, .laload, .lload 1, .lcmp, .ifCond .ne 23, .iload 3, .ireturn] := rfl
theorem b_M_ruleOf_23 : sysS.2.1 160 23 = [.iinc 3 1, .goto 2] := rfl
theorem b_M_ruleOf_29 : sysS.2.1 160 29 = [.iconst (-5), .ireturn] := rfl
theorem b_M_change_IIJ_0 : sysS.2.1 161 0 = [.aload 0, .dup, .getfield 11320, .iconst 1, .iadd, .putfield 11320, .aload 0, .getfield 11332, .aload 0, .getfield 11320, .iload 1, .iastore, .aload 0, .getfield 11342, .aload 0, .getfield 11320, .iload 2, .iastore, .aload 0, .getfield 11352, .aload 0, .getfield 11320, .iconst (-5), .iastore, .aload 0, .getfield 11362, .aload 0, .getfield 11320, .lload 3, .lastore, .aload 0, .aload 0, .getfield 11320, .iconst 1, .isub, .invokevirtual 162, .iconst 8, .aload 0, .getfield 11320, .imul, .iload 2, .iadd, .istore 5, .iload 1, .iconst 1, .if_icmp .ne 99, .aload 0, .getfield 11372, .iload 5, .aload 0, .getfield 11320, .iastore, .aload 0, .getfield 11382, .iload 5, .iconst 1, .bastore, .goto 136] := rfl
theorem b_M_change_IIJ_99 : sysS.2.1 161 99 = [.iload 1, .iconst 2, .if_icmp .ne 123, .aload 0, .getfield 11372, .iload 5, .iconst 0, .iastore, .aload 0, .getfield 11382, .iload 5, .iconst 0, .bastore, .goto 136] := rfl
theorem b_M_change_IIJ_123 : sysS.2.1 161 123 = [.iload 1, .iconst 3, .if_icmp .ne 136, .aload 0, .getfield 11382, .iload 5, .iconst 0, .bastore, .goto_w 136] := rfl
theorem b_M_change_IIJ_136 : sysS.2.1 161 136 = [.return_] := rfl
theorem b_M_same_I_0 : sysS.2.1 162 0 = [.iconst 0, .istore 2, .goto_w 2] := rfl
theorem b_M_same_I_2 : sysS.2.1 162 2 = [.iload 2, .iconst 8, .if_icmp .ge 64, .aload 0, .getfield 11372, .iconst 8, .aload 0, .getfield 11320, .imul, .iload 2, .iadd, .aload 0, .getfield 11372, .iconst 8, .iload 1, .imul, .iload 2, .iadd, .iaload, .iastore, .aload 0, .getfield 11382, .iconst 8, .aload 0, .getfield 11320, .imul, .iload 2, .iadd, .aload 0, .getfield 11382, .iconst 8, .iload 1, .imul, .iload 2, .iadd, .baload, .bastore, .iinc 2 1, .goto 2] := rfl
theorem b_M_same_I_64 : sysS.2.1 162 64 = [.return_] := rfl
theorem b_M_isTimely_0 : sysS.2.1 163 0 = [.aload 0, .getfield 11320, .ifCond .eq 21, .lload 1, .aload 0, .getfield 11362, .aload 0, .getfield 11320, .laload, .lcmp, .ifCond .lt 25, .goto_w 21] := rfl
theorem b_M_isTimely_21 : sysS.2.1 163 21 = [.iconst 1, .goto 26] := rfl
theorem b_M_isTimely_25 : sysS.2.1 163 25 = [.iconst 0, .goto_w 26] := rfl
theorem b_M_isTimely_26 : sysS.2.1 163 26 = [.ireturn] := rfl
theorem b_M_rule_0 : sysS.2.1 164 0 = [.aload 0, .lload 1, .invokevirtual 163, .ifCond .ne 10, .iconst (-1), .ireturn] := rfl
theorem b_M_rule_10 : sysS.2.1 164 10 = [.aload 0, .getfield 11320, .iconst 60, .if_icmp .ne 22, .iconst (-2), .ireturn] := rfl
theorem b_M_rule_22 : sysS.2.1 164 22 = [.aload 0, .aload 0, .getfield 11320, .iconst 1, .iadd, .invokevirtual 150, .aload 0, .aload 0, .getfield 11060, .putfield 11390, .aload 0, .iconst 0, .putfield 11010, .aload 0, .getfield 11060, .ifCond .eq 60, .iconst (-10), .aload 0, .getfield 11070, .isub, .ireturn] := rfl
theorem b_M_rule_60 : sysS.2.1 164 60 = [.aload 0, .aload 0, .getfield 11171, .invokevirtual 160, .istore 3, .iload 3, .iconst (-5), .if_icmp .ne 103, .aload 0, .getfield 11300, .istore 3, .aload 0, .getfield 11312, .aload 0, .getfield 11300, .aload 0, .getfield 11171, .lastore, .aload 0, .dup, .getfield 11300, .iconst 1, .iadd, .putfield 11300, .goto_w 103] := rfl
theorem b_M_rule_103 : sysS.2.1 164 103 = [.aload 0, .iconst 1, .iload 3, .lload 1, .invokevirtual 161, .aload 0, .getfield 11320, .ireturn] := rfl
theorem b_M_fault_0_0 : sysS.2.1 165 0 = [.aload 0, .getfield 11390, .ireturn] := rfl
theorem b_M_latest_0 : sysS.2.1 166 0 = [.iload 1, .i2l, .jsr_w 0, .aload 0, .getfield 11300, .iconst 1, .isub, .i2l, .invokestatic 122, .ifCond .eq 33, .aload 0, .getfield 11372, .iconst 8, .aload 0, .getfield 11320, .imul, .iload 1, .iadd, .iaload, .goto 34] := rfl
theorem b_M_latest_33 : sysS.2.1 166 33 = [.iconst 0, .goto_w 34] := rfl
theorem b_M_latest_34 : sysS.2.1 166 34 = [.ireturn] := rfl
theorem b_M_drop_0 : sysS.2.1 167 0 = [.aload 0, .iload 1, .invokevirtual 166, .ifCond .eq 16, .aload 0, .lload 2, .invokevirtual 163, .ifCond .ne 18, .goto_w 16] := rfl
theorem b_M_drop_16 : sysS.2.1 167 16 = [.iconst (-1), .ireturn] := rfl
theorem b_M_drop_18 : sysS.2.1 167 18 = [.aload 0, .getfield 11320, .iconst 60, .if_icmp .ne 30, .iconst (-2), .ireturn] := rfl
theorem b_M_drop_30 : sysS.2.1 167 30 = [.aload 0, .iconst 2, .iload 1, .lload 2, .invokevirtual 161, .aload 0, .getfield 11320, .ireturn] := rfl
theorem b_M_alike_0 : sysS.2.1 168 0 = [.aload 0, .getfield 11403, .ifCond .eq 11, .iconst 1, .goto 12] := rfl
theorem b_M_alike_11 : sysS.2.1 168 11 = [.iconst 0, .goto_w 12] := rfl
theorem b_M_alike_12 : sysS.2.1 168 12 = [.istore 2, .aload 0, .iload 1, .putfield 11403, .iload 2, .ireturn] := rfl
theorem b_M_asOf_0 : sysS.2.1 169 0 = [.aload 0, .getfield 11413, .ifCond .eq 11, .iconst 1, .goto 12] := rfl
theorem b_M_asOf_11 : sysS.2.1 169 11 = [.iconst 0, .goto_w 12] := rfl
theorem b_M_asOf_12 : sysS.2.1 169 12 = [.istore 2, .aload 0, .iload 1, .putfield 11413, .iload 2, .ireturn] := rfl
theorem b_M_isTask_0 : sysS.2.1 170 0 = [.iload 1, .i2l, .jsr_w 0, .aload 0, .getfield 11420, .iconst 1, .isub, .i2l, .invokestatic 122, .ireturn] := rfl
theorem b_M_judge_0 : sysS.2.1 171 0 = [.iconst 0, .istore 9, .aload 0, .getfield 11482, .iload 1, .iaload, .i2l, .lstore 10, .aload 0, .getfield 11482, .iload 1, .dup2, .iaload, .iconst 1, .iadd, .iastore, .aload 0, .dup, .getfield 11560, .iconst 1, .iadd, .putfield 11560, .iconst 0, .istore 12, .goto_w 35] := rfl
theorem b_M_judge_35 : sysS.2.1 171 35 = [.iload 12, .iconst 8, .if_icmp .ge 215, .aload 0, .getfield 11372, .iconst 8, .iload 8, .imul, .iload 12, .iadd, .iaload, .istore 13, .iload 13, .ifCond .le 209, .aload 0, .getfield 11382, .iconst 8, .iload 8, .imul, .iload 12, .iadd, .baload, .ifCond .eq 209, .aload 0, .getfield 11442, .iconst 61, .iload 1, .imul, .iload 13, .iadd, .baload, .ifCond .ne 209, .aload 0, .lload 2, .lload 4, .lload 6, .lload 10, .invokevirtual 159, .aload 0, .iload 13, .iconst 2, .invokevirtual 158, .aload 0, .getfield 11220, .ifCond .eq 132, .aload 0, .iload 1, .iload 12, .iload 13, .lload 4, .invokevirtual 172, .goto 209] := rfl
theorem b_M_judge_132 : sysS.2.1 171 132 = [.aload 0, .getfield 11273, .ifCond .eq 209, .iconst 0, .istore 14, .goto_w 142] := rfl
theorem b_M_judge_142 : sysS.2.1 171 142 = [.iload 14, .aload 0, .getfield 11290, .if_icmp .ge 209, .iconst 40, .iload 1, .imul, .aload 0, .getfield 11492, .iload 1, .iaload, .iconst 40, .irem, .iadd, .istore 15, .aload 0, .getfield 11502, .iload 15, .aload 0, .getfield 11282, .iload 14, .laload, .lastore, .aload 0, .getfield 11512, .iload 15, .iload 12, .iastore, .aload 0, .getfield 11492, .iload 1, .dup2, .iaload, .iconst 1, .iadd, .iastore, .iinc 9 1, .iinc 14 1, .goto 142] := rfl
theorem b_M_judge_209 : sysS.2.1 171 209 = [.iinc 12 1, .goto 35] := rfl
theorem b_M_judge_215 : sysS.2.1 171 215 = [.iload 9, .ireturn] := rfl
theorem b_M_failed_IIIJ_0 : sysS.2.1 172 0 = [.aload 0, .dup, .getfield 11570, .iconst 1, .iadd, .putfield 11570, .aload 0, .getfield 11522, .iload 1, .aload 0, .getfield 11220, .iastore, .aload 0, .getfield 11532, .iload 1, .iload 2, .iastore, .aload 0, .getfield 11542, .iload 1, .iload 3, .iastore, .aload 0, .getfield 11442, .iconst 61, .iload 1, .imul, .iload 3, .iadd, .iconst 1, .bastore, .aload 0, .getfield 11403, .ifCond .eq 132, .aload 0, .getfield 11372, .iconst 8, .aload 0, .getfield 11320, .imul, .iload 2, .iadd, .iaload, .iload 3, .if_icmp .ne 132, .aload 0, .getfield 11382, .iconst 8, .aload 0, .getfield 11320, .imul, .iload 2, .iadd, .baload, .ifCond .eq 132, .aload 0, .getfield 11320, .iconst 60, .if_icmp .ge 132, .aload 0, .iconst 3, .iload 2, .lload 4, .aload 0, .getfield 11362, .aload 0, .getfield 11320, .laload, .lcmp, .ifCond .le 120, .lload 4, .goto 129] := rfl
theorem b_M_failed_IIIJ_120 : sysS.2.1 172 120 = [.aload 0, .getfield 11362, .aload 0, .getfield 11320, .laload, .goto_w 129] := rfl
theorem b_M_failed_IIIJ_129 : sysS.2.1 172 129 = [.invokevirtual 161, .goto_w 132] := rfl
theorem b_M_failed_IIIJ_132 : sysS.2.1 172 132 = [.return_] := rfl
theorem b_M_holdIt_0 : sysS.2.1 173 0 = [.iconst 6, .iload 1, .imul, .aload 0, .getfield 11452, .iload 1, .iaload, .iadd, .istore 9, .aload 0, .getfield 11462, .iconst 3, .iload 9, .imul, .lload 2, .lastore, .aload 0, .getfield 11462, .iconst 3, .iload 9, .imul, .iconst 1, .iadd, .lload 4, .lastore, .aload 0, .getfield 11462, .iconst 3, .iload 9, .imul, .iconst 2, .iadd, .lload 6, .lastore, .aload 0, .getfield 11472, .iload 9, .iload 8, .iastore, .aload 0, .getfield 11452, .iload 1, .dup2, .iaload, .iconst 1, .iadd, .iastore, .return_] := rfl
theorem b_M_versionOf_0 : sysS.2.1 174 0 = [.aload 0, .getfield 11413, .ifCond .eq 15, .aload 0, .lload 2, .invokevirtual 186, .goto 21] := rfl
theorem b_M_versionOf_15 : sysS.2.1 174 15 = [.aload 0, .getfield 11432, .iload 1, .iaload, .goto_w 21] := rfl
theorem b_M_versionOf_21 : sysS.2.1 174 21 = [.ireturn] := rfl
theorem b_M_row_0 : sysS.2.1 175 0 = [.aload 0, .iload 1, .invokevirtual 170, .ifCond .ne 10, .iconst (-1), .ireturn] := rfl
theorem b_M_row_10 : sysS.2.1 175 10 = [.aload 0, .iload 1, .lload 4, .invokevirtual 174, .istore 8, .iload 8, .aload 0, .getfield 11432, .iload 1, .iaload, .if_icmp .gt 43, .aload 0, .iload 1, .lload 2, .lload 4, .lload 6, .iload 8, .invokevirtual 171, .ireturn] := rfl
theorem b_M_row_43 : sysS.2.1 175 43 = [.aload 0, .getfield 11452, .iload 1, .iaload, .iconst 6, .if_icmp .ne 57, .iconst (-2), .ireturn] := rfl
theorem b_M_row_57 : sysS.2.1 175 57 = [.aload 0, .iload 1, .lload 2, .lload 4, .lload 6, .iload 8, .invokevirtual 173, .iconst (-4), .ireturn] := rfl
theorem b_M_tasks_0 : sysS.2.1 176 0 = [.iload 1, .i2l, .jsr_w 1, .jsr_w 6, .invokestatic 122, .ifCond .ne 14, .iconst (-1), .ireturn] := rfl
theorem b_M_tasks_14 : sysS.2.1 176 14 = [.aload 0, .getfield 11420, .istore 2, .iload 2, .istore 3, .goto_w 21] := rfl
theorem b_M_tasks_21 : sysS.2.1 176 21 = [.iload 3, .iload 1, .if_icmp .ge 84, .aload 0, .iload 3, .invokevirtual 177, .aload 0, .getfield 11432, .iload 3, .aload 0, .getfield 11432, .iconst 0, .iaload, .iastore, .iconst 0, .istore 4, .goto_w 46] := rfl
theorem b_M_tasks_46 : sysS.2.1 176 46 = [.iload 4, .iconst 61, .if_icmp .ge 78, .aload 0, .getfield 11442, .iconst 61, .iload 3, .imul, .iload 4, .iadd, .aload 0, .getfield 11442, .iload 4, .baload, .bastore, .iinc 4 1, .goto 46] := rfl
theorem b_M_tasks_78 : sysS.2.1 176 78 = [.iinc 3 1, .goto 21] := rfl
theorem b_M_tasks_84 : sysS.2.1 176 84 = [.aload 0, .iload 1, .putfield 11420, .iload 1, .istore 3, .goto_w 91] := rfl
theorem b_M_tasks_91 : sysS.2.1 176 91 = [.iload 3, .iload 2, .if_icmp .ge 183, .iconst 0, .istore 4, .goto_w 99] := rfl
theorem b_M_tasks_99 : sysS.2.1 176 99 = [.iload 4, .aload 0, .getfield 11452, .iload 3, .iaload, .if_icmp .ge 170, .iconst 6, .iload 3, .imul, .iload 4, .iadd, .istore 5, .aload 0, .iload 3, .iload 1, .irem, .aload 0, .getfield 11462, .iconst 3, .iload 5, .imul, .laload, .aload 0, .getfield 11462, .iconst 3, .iload 5, .imul, .iconst 1, .iadd, .laload, .aload 0, .getfield 11462, .iconst 3, .iload 5, .imul, .iconst 2, .iadd, .laload, .aload 0, .getfield 11472, .iload 5, .iaload, .invokevirtual 178, .iinc 4 1, .goto 99] := rfl
theorem b_M_tasks_170 : sysS.2.1 176 170 = [.aload 0, .getfield 11452, .iload 3, .iconst 0, .iastore, .iinc 3 1, .goto 91] := rfl
theorem b_M_tasks_183 : sysS.2.1 176 183 = [.iload 2, .ireturn] := rfl
theorem b_M_begin_0 : sysS.2.1 177 0 = [.aload 0, .getfield 11432, .iload 1, .iconst 0, .iastore, .aload 0, .getfield 11452, .iload 1, .iconst 0, .iastore, .aload 0, .getfield 11482, .iload 1, .iconst 0, .iastore, .aload 0, .getfield 11492, .iload 1, .iconst 0, .iastore, .aload 0, .getfield 11522, .iload 1, .iconst 0, .iastore, .iconst 0, .istore 2, .goto_w 37] := rfl
theorem b_M_begin_37 : sysS.2.1 177 37 = [.iload 2, .iconst 61, .if_icmp .ge 61, .aload 0, .getfield 11442, .iconst 61, .iload 1, .imul, .iload 2, .iadd, .iconst 0, .bastore, .iinc 2 1, .goto 37] := rfl
theorem b_M_begin_61 : sysS.2.1 177 61 = [.return_] := rfl
theorem b_M_comes_0 : sysS.2.1 178 0 = [.iload 8, .aload 0, .getfield 11432, .iload 1, .iaload, .if_icmp .gt 28, .aload 0, .iload 1, .lload 2, .lload 4, .lload 6, .iload 8, .invokevirtual 171, .istore 9, .goto 64] := rfl
theorem b_M_comes_28 : sysS.2.1 178 28 = [.aload 0, .getfield 11452, .iload 1, .iaload, .iconst 6, .if_icmp .ne 52, .aload 0, .dup, .getfield 11550, .iconst 1, .iadd, .putfield 11550, .goto 64] := rfl
theorem b_M_comes_52 : sysS.2.1 178 52 = [.aload 0, .iload 1, .lload 2, .lload 4, .lload 6, .iload 8, .invokevirtual 173, .goto_w 64] := rfl
theorem b_M_comes_64 : sysS.2.1 178 64 = [.return_] := rfl
theorem b_M_goes_0 : sysS.2.1 179 0 = [.aload 0, .iload 1, .invokevirtual 166, .istore 8, .iload 8, .ifCond .ne 14, .iconst (-1), .ireturn] := rfl
theorem b_M_goes_14 : sysS.2.1 179 14 = [.aload 0, .lload 2, .lload 4, .lload 6, .jsr_w 0, .invokevirtual 159, .aload 0, .iload 8, .iconst 1, .invokevirtual 158, .aload 0, .getfield 11220, .ifCond .eq 46, .iconst (-10), .aload 0, .getfield 11220, .isub, .ireturn] := rfl
theorem b_M_goes_46 : sysS.2.1 179 46 = [.aload 0, .getfield 11253, .ifCond .eq 60, .aload 0, .getfield 11261, .goto 61] := rfl
theorem b_M_goes_60 : sysS.2.1 179 60 = [.lload 2, .goto_w 61] := rfl
theorem b_M_goes_61 : sysS.2.1 179 61 = [.aload 0, .getfield 11420, .i2l, .lrem, .lstore 9, .lload 9, .jsr_w 0, .lcmp, .ifCond .ge 87, .lload 9, .aload 0, .getfield 11420, .i2l, .ladd, .goto 89] := rfl
theorem b_M_goes_87 : sysS.2.1 179 87 = [.lload 9, .goto_w 89] := rfl
theorem b_M_goes_89 : sysS.2.1 179 89 = [.l2i, .ireturn] := rfl
theorem b_M_send_0 : sysS.2.1 180 0 = [.aload 0, .iload 1, .lload 2, .lload 4, .lload 6, .invokevirtual 179, .istore 8, .iload 8, .ifCond .ge 20, .iload 8, .ireturn] := rfl
theorem b_M_send_20 : sysS.2.1 180 20 = [.aload 0, .iload 8, .lload 2, .lload 4, .lload 6, .invokevirtual 175, .istore 9, .iload 9, .iconst (-2), .if_icmp .ne 45, .iconst (-2), .goto 47] := rfl
theorem b_M_send_45 : sysS.2.1 180 45 = [.iload 8, .goto_w 47] := rfl
theorem b_M_send_47 : sysS.2.1 180 47 = [.ireturn] := rfl
theorem b_M_apply_0 : sysS.2.1 181 0 = [.aload 0, .iload 1, .invokevirtual 170, .ifCond .eq 20, .iload 2, .i2l, .jsr_w 0, .jsr_w 60, .invokestatic 122, .ifCond .ne 22, .goto_w 20] := rfl
theorem b_M_apply_20 : sysS.2.1 181 20 = [.iconst (-1), .ireturn] := rfl
theorem b_M_apply_22 : sysS.2.1 181 22 = [.iconst 0, .istore 3, .goto_w 24] := rfl
theorem b_M_apply_24 : sysS.2.1 181 24 = [.iload 3, .iload 2, .if_icmp .ge 63, .aload 0, .getfield 11432, .iload 1, .iaload, .aload 0, .getfield 11320, .if_icmp .ge 63, .aload 0, .getfield 11432, .iload 1, .dup2, .iaload, .iconst 1, .iadd, .iastore, .iinc 3 1, .aload 0, .iload 1, .invokevirtual 182, .goto 24] := rfl
theorem b_M_apply_63 : sysS.2.1 181 63 = [.iload 3, .ireturn] := rfl
theorem b_M_wake_0 : sysS.2.1 182 0 = [.iconst 0, .istore 2, .aload 0, .getfield 11452, .iload 1, .iaload, .istore 3, .iconst 0, .istore 4, .goto_w 12] := rfl
theorem b_M_wake_12 : sysS.2.1 182 12 = [.iload 4, .iload 3, .if_icmp .ge 131, .iconst 6, .iload 1, .imul, .iload 4, .iadd, .istore 5, .aload 0, .getfield 11462, .iconst 3, .iload 5, .imul, .laload, .lstore 6, .aload 0, .getfield 11462, .iconst 3, .iload 5, .imul, .iconst 1, .iadd, .laload, .lstore 8, .aload 0, .getfield 11462, .iconst 3, .iload 5, .imul, .iconst 2, .iadd, .laload, .lstore 10, .aload 0, .getfield 11472, .iload 5, .iaload, .istore 12, .iload 12, .aload 0, .getfield 11432, .iload 1, .iaload, .if_icmp .gt 102, .aload 0, .iload 1, .lload 6, .lload 8, .lload 10, .iload 12, .invokevirtual 171, .istore 13, .goto 125] := rfl
theorem b_M_wake_102 : sysS.2.1 182 102 = [.aload 0, .getfield 11452, .iload 1, .iload 2, .iastore, .aload 0, .iload 1, .lload 6, .lload 8, .lload 10, .iload 12, .invokevirtual 173, .iinc 2 1, .goto_w 125] := rfl
theorem b_M_wake_125 : sysS.2.1 182 125 = [.iinc 4 1, .goto 12] := rfl
theorem b_M_wake_131 : sysS.2.1 182 131 = [.aload 0, .getfield 11452, .iload 1, .iload 2, .iastore, .return_] := rfl
theorem b_M_isOut_0 : sysS.2.1 183 0 = [.aload 0, .iload 1, .invokevirtual 170, .ifCond .eq 46, .iload 2, .i2l, .jsr_w 0, .aload 0, .getfield 11492, .iload 1, .iaload, .iconst 40, .if_icmp .ge 31, .aload 0, .getfield 11492, .iload 1, .iaload, .goto 33] := rfl
theorem b_M_isOut_31 : sysS.2.1 183 31 = [.iconst 40, .goto_w 33] := rfl
theorem b_M_isOut_33 : sysS.2.1 183 33 = [.iconst 1, .isub, .i2l, .invokestatic 122, .ifCond .eq 46, .iconst 1, .goto 47] := rfl
theorem b_M_isOut_46 : sysS.2.1 183 46 = [.iconst 0, .goto_w 47] := rfl
theorem b_M_isOut_47 : sysS.2.1 183 47 = [.ireturn] := rfl
theorem b_M_out_0 : sysS.2.1 184 0 = [.aload 0, .iload 1, .iload 2, .invokevirtual 183, .ifCond .eq 35, .aload 0, .getfield 11502, .iconst 40, .iload 1, .imul, .aload 0, .getfield 11492, .iload 1, .iaload, .iconst 1, .isub, .iload 2, .isub, .iconst 40, .irem, .iadd, .laload, .goto 36] := rfl
theorem b_M_out_35 : sysS.2.1 184 35 = [.jsr_w 0, .goto_w 36] := rfl
theorem b_M_out_36 : sysS.2.1 184 36 = [.lreturn] := rfl
theorem b_M_from_0 : sysS.2.1 185 0 = [.aload 0, .iload 1, .invokevirtual 170, .ifCond .ne 10, .iconst (-1), .ireturn] := rfl
theorem b_M_from_10 : sysS.2.1 185 10 = [.aload 0, .iload 1, .iload 2, .invokevirtual 183, .ifCond .eq 45, .aload 0, .getfield 11512, .iconst 40, .iload 1, .imul, .aload 0, .getfield 11492, .iload 1, .iaload, .iconst 1, .isub, .iload 2, .isub, .iconst 40, .irem, .iadd, .iaload, .goto 47] := rfl
theorem b_M_from_45 : sysS.2.1 185 45 = [.iconst (-5), .goto_w 47] := rfl
theorem b_M_from_47 : sysS.2.1 185 47 = [.ireturn] := rfl
theorem b_M_at_0 : sysS.2.1 186 0 = [.iconst 0, .istore 3, .iconst 1, .istore 4, .goto_w 5] := rfl
theorem b_M_at_5 : sysS.2.1 186 5 = [.iload 4, .aload 0, .getfield 11320, .if_icmp .gt 40, .iload 3, .aload 0, .getfield 11362, .iload 4, .laload, .lload 1, .lcmp, .ifCond .gt 31, .iconst 1, .goto 32] := rfl
theorem b_M_at_31 : sysS.2.1 186 31 = [.iconst 0, .goto_w 32] := rfl
theorem b_M_at_32 : sysS.2.1 186 32 = [.iadd, .istore 3, .iinc 4 1, .goto 5] := rfl
theorem b_M_at_40 : sysS.2.1 186 40 = [.iload 3, .ireturn] := rfl
theorem b_M_rules_0 : sysS.2.1 187 0 = [.iload 1, .i2l, .jsr_w 0, .aload 0, .getfield 11320, .i2l, .invokestatic 122, .ifCond .eq 42, .iload 2, .i2l, .jsr_w 0, .aload 0, .getfield 11300, .iconst 1, .isub, .i2l, .invokestatic 122, .ifCond .eq 42, .iload 3, .i2l, .jsr_w 0, .jsr_w 2, .invokestatic 122, .ifCond .ne 44, .goto_w 42] := rfl
theorem b_M_rules_42 : sysS.2.1 187 42 = [.iconst (-1), .ireturn] := rfl
theorem b_M_rules_44 : sysS.2.1 187 44 = [.aload 0, .getfield 11372, .iconst 8, .iload 1, .imul, .iload 2, .iadd, .iaload, .istore 4, .aload 0, .getfield 11382, .iconst 8, .iload 1, .imul, .iload 2, .iadd, .baload, .istore 5, .iload 3, .ifCond .ne 87, .iload 4, .ifCond .le 83, .iconst 1, .goto 122] := rfl
theorem b_M_rules_83 : sysS.2.1 187 83 = [.iconst 0, .goto 122] := rfl
theorem b_M_rules_87 : sysS.2.1 187 87 = [.iload 3, .iconst 1, .if_icmp .ne 107, .iload 4, .ifCond .le 102, .iload 4, .goto 122] := rfl
theorem b_M_rules_102 : sysS.2.1 187 102 = [.iconst (-5), .goto 122] := rfl
theorem b_M_rules_107 : sysS.2.1 187 107 = [.iload 4, .ifCond .le 121, .iload 5, .ifCond .eq 121, .iconst 1, .goto 122] := rfl
theorem b_M_rules_121 : sysS.2.1 187 121 = [.iconst 0, .goto_w 122] := rfl
theorem b_M_rules_122 : sysS.2.1 187 122 = [.ireturn] := rfl
theorem b_M_isOff_0 : sysS.2.1 188 0 = [.iconst 8, .aload 0, .getfield 11432, .iload 1, .iaload, .imul, .iload 2, .iadd, .istore 3, .aload 0, .getfield 11372, .iload 3, .iaload, .ifCond .le 53, .aload 0, .getfield 11382, .iload 3, .baload, .ifCond .eq 49, .aload 0, .getfield 11442, .iconst 61, .iload 1, .imul, .aload 0, .getfield 11372, .iload 3, .iaload, .iadd, .baload, .ifCond .eq 53, .goto_w 49] := rfl
theorem b_M_isOff_49 : sysS.2.1 188 49 = [.iconst 1, .goto 54] := rfl
theorem b_M_isOff_53 : sysS.2.1 188 53 = [.iconst 0, .goto_w 54] := rfl
theorem b_M_isOff_54 : sysS.2.1 188 54 = [.ireturn] := rfl
theorem b_M_off_0 : sysS.2.1 189 0 = [.aload 0, .iload 1, .invokevirtual 170, .ifCond .eq 43, .iload 2, .i2l, .jsr_w 0, .aload 0, .getfield 11300, .iconst 1, .isub, .i2l, .invokestatic 122, .ifCond .eq 43, .aload 0, .getfield 11372, .iconst 8, .aload 0, .getfield 11432, .iload 1, .iaload, .imul, .iload 2, .iadd, .iaload, .ifCond .ne 45, .goto_w 43] := rfl
theorem b_M_off_43 : sysS.2.1 189 43 = [.iconst (-1), .ireturn] := rfl
theorem b_M_off_45 : sysS.2.1 189 45 = [.aload 0, .iload 1, .iload 2, .invokevirtual 188, .ifCond .eq 58, .iconst 1, .goto 59] := rfl
theorem b_M_off_58 : sysS.2.1 189 58 = [.iconst 0, .goto_w 59] := rfl
theorem b_M_off_59 : sysS.2.1 189 59 = [.ireturn] := rfl
theorem b_M_change_II_0 : sysS.2.1 190 0 = [.iload 1, .i2l, .jsr_w 1, .aload 0, .getfield 11320, .i2l, .invokestatic 122, .ifCond .eq 26, .iload 2, .i2l, .jsr_w 0, .jsr_w 2, .invokestatic 122, .ifCond .ne 28, .goto_w 26] := rfl
theorem b_M_change_II_26 : sysS.2.1 190 26 = [.iconst (-1), .ireturn] := rfl
theorem b_M_change_II_28 : sysS.2.1 190 28 = [.iload 2, .ifCond .ne 41, .aload 0, .getfield 11332, .iload 1, .iaload, .goto 61] := rfl
theorem b_M_change_II_41 : sysS.2.1 190 41 = [.iload 2, .iconst 1, .if_icmp .ne 55, .aload 0, .getfield 11342, .iload 1, .iaload, .goto 61] := rfl
theorem b_M_change_II_55 : sysS.2.1 190 55 = [.aload 0, .getfield 11352, .iload 1, .iaload, .goto_w 61] := rfl
theorem b_M_change_II_61 : sysS.2.1 190 61 = [.ireturn] := rfl
theorem b_M_when_0 : sysS.2.1 191 0 = [.iload 1, .i2l, .jsr_w 1, .aload 0, .getfield 11320, .i2l, .invokestatic 122, .ifCond .eq 23, .aload 0, .getfield 11362, .iload 1, .laload, .goto 24] := rfl
theorem b_M_when_23 : sysS.2.1 191 23 = [.jsr_w 0, .goto_w 24] := rfl
theorem b_M_when_24 : sysS.2.1 191 24 = [.lreturn] := rfl
theorem b_M_failed_II_0 : sysS.2.1 192 0 = [.aload 0, .iload 1, .invokevirtual 170, .ifCond .eq 20, .iload 2, .i2l, .jsr_w 0, .jsr_w 2, .invokestatic 122, .ifCond .ne 22, .goto_w 20] := rfl
theorem b_M_failed_II_20 : sysS.2.1 192 20 = [.iconst (-1), .ireturn] := rfl
theorem b_M_failed_II_22 : sysS.2.1 192 22 = [.aload 0, .getfield 11522, .iload 1, .iaload, .ifCond .ne 42, .iload 2, .ifCond .ne 39, .iconst 0, .goto 41] := rfl
theorem b_M_failed_II_39 : sysS.2.1 192 39 = [.iconst (-5), .goto_w 41] := rfl
theorem b_M_failed_II_41 : sysS.2.1 192 41 = [.ireturn] := rfl
theorem b_M_failed_II_42 : sysS.2.1 192 42 = [.iload 2, .ifCond .ne 55, .aload 0, .getfield 11522, .iload 1, .iaload, .goto 75] := rfl
theorem b_M_failed_II_55 : sysS.2.1 192 55 = [.iload 2, .iconst 1, .if_icmp .ne 69, .aload 0, .getfield 11532, .iload 1, .iaload, .goto 75] := rfl
theorem b_M_failed_II_69 : sysS.2.1 192 69 = [.aload 0, .getfield 11542, .iload 1, .iaload, .goto_w 75] := rfl
theorem b_M_failed_II_75 : sysS.2.1 192 75 = [.ireturn] := rfl
theorem b_M_tries_0 : sysS.2.1 193 0 = [.aload 0, .iload 1, .invokevirtual 166, .istore 8, .iload 8, .ifCond .ne 14, .iconst (-1), .ireturn] := rfl
theorem b_M_tries_14 : sysS.2.1 193 14 = [.aload 0, .lload 2, .lload 4, .lload 6, .jsr_w 0, .invokevirtual 159, .aload 0, .iload 8, .iconst 2, .invokevirtual 158, .aload 0, .getfield 11220, .ifCond .eq 48, .iconst (-10), .aload 0, .getfield 11220, .isub, .goto 63] := rfl
theorem b_M_tries_48 : sysS.2.1 193 48 = [.aload 0, .getfield 11273, .ifCond .eq 62, .aload 0, .getfield 11290, .goto 63] := rfl
theorem b_M_tries_62 : sysS.2.1 193 62 = [.iconst 0, .goto_w 63] := rfl
theorem b_M_tries_63 : sysS.2.1 193 63 = [.ireturn] := rfl
theorem b_M_mark_0 : sysS.2.1 194 0 = [.aload 0, .getfield 11580, .iconst 4, .if_icmp .ne 11, .iconst (-2), .ireturn] := rfl
theorem b_M_mark_11 : sysS.2.1 194 11 = [.aload 0, .getfield 11592, .aload 0, .getfield 11580, .aload 0, .getfield 11320, .iastore, .aload 0, .getfield 11602, .aload 0, .getfield 11580, .aload 0, .getfield 11420, .iastore, .iconst 0, .istore 1, .goto_w 39] := rfl
theorem b_M_mark_39 : sysS.2.1 194 39 = [.iload 1, .iconst 366, .if_icmp .ge 73, .aload 0, .getfield 11612, .iconst 366, .aload 0, .getfield 11580, .imul, .iload 1, .iadd, .aload 0, .getfield 11442, .iload 1, .baload, .bastore, .iinc 1 1, .goto 39] := rfl
theorem b_M_mark_73 : sysS.2.1 194 73 = [.aload 0, .dup, .getfield 11580, .iconst 1, .iadd, .putfield 11580, .aload 0, .getfield 11580, .iconst 1, .isub, .ireturn] := rfl
theorem b_M_restore_0 : sysS.2.1 195 0 = [.iload 1, .i2l, .jsr_w 0, .aload 0, .getfield 11580, .iconst 1, .isub, .i2l, .invokestatic 122, .ifCond .ne 18, .iconst (-1), .ireturn] := rfl
theorem b_M_restore_18 : sysS.2.1 195 18 = [.aload 0, .getfield 11320, .iconst 60, .if_icmp .ne 30, .iconst (-2), .ireturn] := rfl
theorem b_M_restore_30 : sysS.2.1 195 30 = [.aload 0, .iconst 4, .iconst 0, .aload 0, .getfield 11320, .ifCond .ne 44, .jsr_w 0, .goto 53] := rfl
theorem b_M_restore_44 : sysS.2.1 195 44 = [.aload 0, .getfield 11362, .aload 0, .getfield 11320, .laload, .goto_w 53] := rfl
theorem b_M_restore_53 : sysS.2.1 195 53 = [.invokevirtual 161, .aload 0, .getfield 11342, .aload 0, .getfield 11320, .iconst (-5), .iastore, .aload 0, .getfield 11352, .aload 0, .getfield 11320, .aload 0, .getfield 11592, .iload 1, .iaload, .iastore, .aload 0, .aload 0, .getfield 11592, .iload 1, .iaload, .invokevirtual 162, .iconst 0, .istore 2, .goto_w 94] := rfl
theorem b_M_restore_94 : sysS.2.1 195 94 = [.iload 2, .aload 0, .getfield 11420, .if_icmp .ge 190, .iconst 0, .istore 3, .goto_w 104] := rfl
theorem b_M_restore_104 : sysS.2.1 195 104 = [.iload 3, .iconst 61, .if_icmp .ge 162, .aload 0, .getfield 11442, .iconst 61, .iload 2, .imul, .iload 3, .iadd, .iload 2, .aload 0, .getfield 11602, .iload 1, .iaload, .if_icmp .ge 154, .aload 0, .getfield 11612, .iconst 366, .iload 1, .imul, .iconst 61, .iload 2, .imul, .iadd, .iload 3, .iadd, .baload, .ifCond .eq 154, .iconst 1, .goto 155] := rfl
theorem b_M_restore_154 : sysS.2.1 195 154 = [.iconst 0, .goto_w 155] := rfl
theorem b_M_restore_155 : sysS.2.1 195 155 = [.bastore, .iinc 3 1, .goto 104] := rfl
theorem b_M_restore_162 : sysS.2.1 195 162 = [.aload 0, .dup, .getfield 11550, .aload 0, .getfield 11452, .iload 2, .iaload, .iadd, .putfield 11550, .aload 0, .getfield 11452, .iload 2, .iconst 0, .iastore, .iinc 2 1, .goto 94] := rfl
theorem b_M_restore_190 : sysS.2.1 195 190 = [.aload 0, .getfield 11320, .ireturn] := rfl
theorem b_M_same_II_0 : sysS.2.1 196 0 = [.aload 0, .iload 1, .invokevirtual 170, .ifCond .eq 16, .aload 0, .iload 2, .invokevirtual 170, .ifCond .ne 18, .goto_w 16] := rfl
theorem b_M_same_II_16 : sysS.2.1 196 16 = [.iconst (-1), .ireturn] := rfl
theorem b_M_same_II_18 : sysS.2.1 196 18 = [.iconst 1, .istore 3, .iconst 0, .istore 4, .goto_w 23] := rfl
theorem b_M_same_II_23 : sysS.2.1 196 23 = [.iload 4, .iconst 8, .if_icmp .ge 100, .iload 3, .ifCond .eq 92, .aload 0, .getfield 11372, .iconst 8, .aload 0, .getfield 11432, .iload 1, .iaload, .imul, .iload 4, .iadd, .iaload, .aload 0, .getfield 11372, .iconst 8, .aload 0, .getfield 11432, .iload 2, .iaload, .imul, .iload 4, .iadd, .iaload, .if_icmp .ne 92, .aload 0, .iload 1, .iload 4, .invokevirtual 188, .aload 0, .iload 2, .iload 4, .invokevirtual 188, .if_icmp .ne 92, .iconst 1, .goto 93] := rfl
theorem b_M_same_II_92 : sysS.2.1 196 92 = [.iconst 0, .goto_w 93] := rfl
theorem b_M_same_II_93 : sysS.2.1 196 93 = [.istore 3, .iinc 4 1, .goto 23] := rfl
theorem b_M_same_II_100 : sysS.2.1 196 100 = [.iload 3, .ifCond .eq 108, .iconst 1, .goto 109] := rfl
theorem b_M_same_II_108 : sysS.2.1 196 108 = [.iconst 0, .goto_w 109] := rfl
theorem b_M_same_II_109 : sysS.2.1 196 109 = [.ireturn] := rfl
theorem b_M_count_0 : sysS.2.1 197 0 = [.iload 1, .i2l, .jsr_w 10, .jsr_w 49, .invokestatic 122, .ifCond .eq 97, .iload 1, .iconst 10, .irem, .istore 2, .aload 0, .iload 2, .invokevirtual 170, .ifCond .ne 29, .iconst (-1), .ireturn] := rfl
theorem b_M_count_29 : sysS.2.1 197 29 = [.iload 1, .iconst 20, .if_icmp .ge 44, .aload 0, .getfield 11432, .iload 2, .iaload, .goto 96] := rfl
theorem b_M_count_44 : sysS.2.1 197 44 = [.iload 1, .iconst 30, .if_icmp .ge 59, .aload 0, .getfield 11482, .iload 2, .iaload, .goto 96] := rfl
theorem b_M_count_59 : sysS.2.1 197 59 = [.iload 1, .iconst 40, .if_icmp .ge 74, .aload 0, .getfield 11452, .iload 2, .iaload, .goto 96] := rfl
theorem b_M_count_74 : sysS.2.1 197 74 = [.aload 0, .getfield 11492, .iload 2, .iaload, .iconst 40, .if_icmp .ge 94, .aload 0, .getfield 11492, .iload 2, .iaload, .goto 96] := rfl
theorem b_M_count_94 : sysS.2.1 197 94 = [.iconst 40, .goto_w 96] := rfl
theorem b_M_count_96 : sysS.2.1 197 96 = [.ireturn] := rfl
theorem b_M_count_97 : sysS.2.1 197 97 = [.iload 1, .tableswitch 175 (0) (6) #[140, 145, 150, 155, 160, 165, 170]] := rfl
theorem b_M_count_140 : sysS.2.1 197 140 = [.aload 0, .getfield 11420, .ireturn] := rfl
theorem b_M_count_145 : sysS.2.1 197 145 = [.aload 0, .getfield 11320, .ireturn] := rfl
theorem b_M_count_150 : sysS.2.1 197 150 = [.aload 0, .getfield 11300, .ireturn] := rfl
theorem b_M_count_155 : sysS.2.1 197 155 = [.aload 0, .getfield 11550, .ireturn] := rfl
theorem b_M_count_160 : sysS.2.1 197 160 = [.aload 0, .getfield 11560, .ireturn] := rfl
theorem b_M_count_165 : sysS.2.1 197 165 = [.aload 0, .getfield 11570, .ireturn] := rfl
theorem b_M_count_170 : sysS.2.1 197 170 = [.aload 0, .getfield 11580, .ireturn] := rfl
theorem b_M_count_175 : sysS.2.1 197 175 = [.iconst (-1), .ireturn] := rfl
theorem b_M_clear_0 : sysS.2.1 198 0 = [.aload 0, .getfield 11320, .istore 1, .aload 0, .iconst 0, .putfield 11010, .aload 0, .iconst 0, .putfield 11320, .aload 0, .iconst 0, .putfield 11300, .aload 0, .iconst 0, .putfield 11390, .aload 0, .iconst 0, .putfield 11403, .aload 0, .iconst 0, .putfield 11413, .aload 0, .iconst 1, .putfield 11420, .aload 0, .iconst 0, .invokevirtual 177, .aload 0, .iconst 0, .putfield 11550, .aload 0, .iconst 0, .putfield 11560, .aload 0, .iconst 0, .putfield 11570, .aload 0, .iconst 0, .putfield 11580, .iload 1, .ireturn] := rfl
theorem b_law_law_0 : sysS.2.1 199 0 = [.new 0, .dup, .invokespecial 0, .astore 1, .new 11, .dup, .invokespecial 121, .astore 2, .iconst 0, .istore 3, .goto_w 18] := rfl
theorem b_law_law_18 : sysS.2.1 199 18 = [.iload 3, .aload 0, .arraylength, .iconst 8, .isub, .if_icmp .gt 1486, .aload 0, .iload 3, .iaload, .iconst 31, .iand, .tableswitch 1480 (0) (25) #[152, 215, 238, 291, 304, 367, 406, 445, 468, 615, 762, 909, 942, 976, 1009, 1062, 1105, 1138, 1171, 1195, 1228, 1375, 1388, 1411, 1444, 1467]] := rfl
theorem b_law_law_152 : sysS.2.1 199 152 = [.aload 1, .aload 0, .iload 3, .iconst 1, .iadd, .iaload, .aload 0, .iload 3, .iconst 2, .iadd, .iaload, .aload 0, .iload 3, .iconst 3, .iadd, .iaload, .aload 0, .iload 3, .iconst 4, .iadd, .iaload, .aload 0, .iload 3, .iconst 5, .iadd, .iaload, .invokevirtual 1, .aload 2, .aload 0, .iload 3, .iconst 1, .iadd, .iaload, .aload 0, .iload 3, .iconst 2, .iadd, .iaload, .aload 0, .iload 3, .iconst 3, .iadd, .iaload, .aload 0, .iload 3, .iconst 4, .iadd, .iaload, .aload 0, .iload 3, .iconst 5, .iadd, .iaload, .invokevirtual 123, .if_icmp .eq 1480, .iconst 0, .ireturn] := rfl
theorem b_law_law_215 : sysS.2.1 199 215 = [.aload 1, .aload 0, .iload 3, .iconst 1, .iadd, .iaload, .invokevirtual 2, .aload 2, .aload 0, .iload 3, .iconst 1, .iadd, .iaload, .invokevirtual 125, .if_icmp .eq 1480, .iconst 0, .ireturn] := rfl
theorem b_law_law_238 : sysS.2.1 199 238 = [.aload 1, .aload 0, .iload 3, .iconst 1, .iadd, .iaload, .i2l, .iconst 32, .lshl, .aload 0, .iload 3, .iconst 2, .iadd, .iaload, .i2l, .jsr_w 4294967295, .land, .lor, .invokevirtual 3, .aload 2, .aload 0, .iload 3, .iconst 1, .iadd, .iaload, .i2l, .iconst 32, .lshl, .aload 0, .iload 3, .iconst 2, .iadd, .iaload, .i2l, .jsr_w 4294967295, .land, .lor, .invokevirtual 164, .if_icmp .eq 1480, .iconst 0, .ireturn] := rfl
theorem b_law_law_291 : sysS.2.1 199 291 = [.aload 1, .invokevirtual 4, .aload 2, .invokevirtual 165, .if_icmp .eq 1480, .iconst 0, .ireturn] := rfl
theorem b_law_law_304 : sysS.2.1 199 304 = [.aload 1, .aload 0, .iload 3, .iconst 1, .iadd, .iaload, .aload 0, .iload 3, .iconst 2, .iadd, .iaload, .i2l, .iconst 32, .lshl, .aload 0, .iload 3, .iconst 3, .iadd, .iaload, .i2l, .jsr_w 4294967295, .land, .lor, .invokevirtual 5, .aload 2, .aload 0, .iload 3, .iconst 1, .iadd, .iaload, .aload 0, .iload 3, .iconst 2, .iadd, .iaload, .i2l, .iconst 32, .lshl, .aload 0, .iload 3, .iconst 3, .iadd, .iaload, .i2l, .jsr_w 4294967295, .land, .lor, .invokevirtual 167, .if_icmp .eq 1480, .iconst 0, .ireturn] := rfl
theorem b_law_law_367 : sysS.2.1 199 367 = [.aload 1, .aload 0, .iload 3, .iconst 1, .iadd, .iaload, .ifCond .eq 380, .iconst 1, .goto 381] := rfl
theorem b_law_law_380 : sysS.2.1 199 380 = [.iconst 0, .goto_w 381] := rfl
theorem b_law_law_381 : sysS.2.1 199 381 = [.invokevirtual 6, .aload 2, .aload 0, .iload 3, .iconst 1, .iadd, .iaload, .ifCond .eq 397, .iconst 1, .goto 398] := rfl
theorem b_law_law_397 : sysS.2.1 199 397 = [.iconst 0, .goto_w 398] := rfl
theorem b_law_law_398 : sysS.2.1 199 398 = [.invokevirtual 168, .if_icmp .eq 1480, .iconst 0, .ireturn] := rfl
theorem b_law_law_406 : sysS.2.1 199 406 = [.aload 1, .aload 0, .iload 3, .iconst 1, .iadd, .iaload, .ifCond .eq 419, .iconst 1, .goto 420] := rfl
theorem b_law_law_419 : sysS.2.1 199 419 = [.iconst 0, .goto_w 420] := rfl
theorem b_law_law_420 : sysS.2.1 199 420 = [.invokevirtual 7, .aload 2, .aload 0, .iload 3, .iconst 1, .iadd, .iaload, .ifCond .eq 436, .iconst 1, .goto 437] := rfl
theorem b_law_law_436 : sysS.2.1 199 436 = [.iconst 0, .goto_w 437] := rfl
theorem b_law_law_437 : sysS.2.1 199 437 = [.invokevirtual 169, .if_icmp .eq 1480, .iconst 0, .ireturn] := rfl
theorem b_law_law_445 : sysS.2.1 199 445 = [.aload 1, .aload 0, .iload 3, .iconst 1, .iadd, .iaload, .invokevirtual 8, .aload 2, .aload 0, .iload 3, .iconst 1, .iadd, .iaload, .invokevirtual 176, .if_icmp .eq 1480, .iconst 0, .ireturn] := rfl
theorem b_law_law_468 : sysS.2.1 199 468 = [.aload 1, .aload 0, .iload 3, .iconst 1, .iadd, .iaload, .aload 0, .iload 3, .iconst 2, .iadd, .iaload, .i2l, .iconst 32, .lshl, .aload 0, .iload 3, .iconst 3, .iadd, .iaload, .i2l, .jsr_w 4294967295, .land, .lor, .aload 0, .iload 3, .iconst 4, .iadd, .iaload, .i2l, .iconst 32, .lshl, .aload 0, .iload 3, .iconst 5, .iadd, .iaload, .i2l, .jsr_w 4294967295, .land, .lor, .aload 0, .iload 3, .iconst 6, .iadd, .iaload, .i2l, .iconst 32, .lshl, .aload 0, .iload 3, .iconst 7, .iadd, .iaload, .i2l, .jsr_w 4294967295, .land, .lor, .invokevirtual 9, .aload 2, .aload 0, .iload 3, .iconst 1, .iadd, .iaload, .aload 0, .iload 3, .iconst 2, .iadd, .iaload, .i2l, .iconst 32, .lshl, .aload 0, .iload 3, .iconst 3, .iadd, .iaload, .i2l, .jsr_w 4294967295, .land, .lor, .aload 0, .iload 3, .iconst 4, .iadd, .iaload, .i2l, .iconst 32, .lshl, .aload 0, .iload 3, .iconst 5, .iadd, .iaload, .i2l, .jsr_w 4294967295, .land, .lor, .aload 0, .iload 3, .iconst 6, .iadd, .iaload, .i2l, .iconst 32, .lshl, .aload 0, .iload 3, .iconst 7, .iadd, .iaload, .i2l, .jsr_w 4294967295, .land, .lor, .invokevirtual 175, .if_icmp .eq 1480, .iconst 0, .ireturn] := rfl
theorem b_law_law_615 : sysS.2.1 199 615 = [.aload 1, .aload 0, .iload 3, .iconst 1, .iadd, .iaload, .aload 0, .iload 3, .iconst 2, .iadd, .iaload, .i2l, .iconst 32, .lshl, .aload 0, .iload 3, .iconst 3, .iadd, .iaload, .i2l, .jsr_w 4294967295, .land, .lor, .aload 0, .iload 3, .iconst 4, .iadd, .iaload, .i2l, .iconst 32, .lshl, .aload 0, .iload 3, .iconst 5, .iadd, .iaload, .i2l, .jsr_w 4294967295, .land, .lor, .aload 0, .iload 3, .iconst 6, .iadd, .iaload, .i2l, .iconst 32, .lshl, .aload 0, .iload 3, .iconst 7, .iadd, .iaload, .i2l, .jsr_w 4294967295, .land, .lor, .invokevirtual 10, .aload 2, .aload 0, .iload 3, .iconst 1, .iadd, .iaload, .aload 0, .iload 3, .iconst 2, .iadd, .iaload, .i2l, .iconst 32, .lshl, .aload 0, .iload 3, .iconst 3, .iadd, .iaload, .i2l, .jsr_w 4294967295, .land, .lor, .aload 0, .iload 3, .iconst 4, .iadd, .iaload, .i2l, .iconst 32, .lshl, .aload 0, .iload 3, .iconst 5, .iadd, .iaload, .i2l, .jsr_w 4294967295, .land, .lor, .aload 0, .iload 3, .iconst 6, .iadd, .iaload, .i2l, .iconst 32, .lshl, .aload 0, .iload 3, .iconst 7, .iadd, .iaload, .i2l, .jsr_w 4294967295, .land, .lor, .invokevirtual 179, .if_icmp .eq 1480, .iconst 0, .ireturn] := rfl
theorem b_law_law_762 : sysS.2.1 199 762 = [.aload 1, .aload 0, .iload 3, .iconst 1, .iadd, .iaload, .aload 0, .iload 3, .iconst 2, .iadd, .iaload, .i2l, .iconst 32, .lshl, .aload 0, .iload 3, .iconst 3, .iadd, .iaload, .i2l, .jsr_w 4294967295, .land, .lor, .aload 0, .iload 3, .iconst 4, .iadd, .iaload, .i2l, .iconst 32, .lshl, .aload 0, .iload 3, .iconst 5, .iadd, .iaload, .i2l, .jsr_w 4294967295, .land, .lor, .aload 0, .iload 3, .iconst 6, .iadd, .iaload, .i2l, .iconst 32, .lshl, .aload 0, .iload 3, .iconst 7, .iadd, .iaload, .i2l, .jsr_w 4294967295, .land, .lor, .invokevirtual 11, .aload 2, .aload 0, .iload 3, .iconst 1, .iadd, .iaload, .aload 0, .iload 3, .iconst 2, .iadd, .iaload, .i2l, .iconst 32, .lshl, .aload 0, .iload 3, .iconst 3, .iadd, .iaload, .i2l, .jsr_w 4294967295, .land, .lor, .aload 0, .iload 3, .iconst 4, .iadd, .iaload, .i2l, .iconst 32, .lshl, .aload 0, .iload 3, .iconst 5, .iadd, .iaload, .i2l, .jsr_w 4294967295, .land, .lor, .aload 0, .iload 3, .iconst 6, .iadd, .iaload, .i2l, .iconst 32, .lshl, .aload 0, .iload 3, .iconst 7, .iadd, .iaload, .i2l, .jsr_w 4294967295, .land, .lor, .invokevirtual 180, .if_icmp .eq 1480, .iconst 0, .ireturn] := rfl
theorem b_law_law_909 : sysS.2.1 199 909 = [.aload 1, .aload 0, .iload 3, .iconst 1, .iadd, .iaload, .aload 0, .iload 3, .iconst 2, .iadd, .iaload, .invokevirtual 12, .aload 2, .aload 0, .iload 3, .iconst 1, .iadd, .iaload, .aload 0, .iload 3, .iconst 2, .iadd, .iaload, .invokevirtual 181, .if_icmp .eq 1480, .iconst 0, .ireturn] := rfl
theorem b_law_law_942 : sysS.2.1 199 942 = [.aload 1, .aload 0, .iload 3, .iconst 1, .iadd, .iaload, .aload 0, .iload 3, .iconst 2, .iadd, .iaload, .invokevirtual 13, .aload 2, .aload 0, .iload 3, .iconst 1, .iadd, .iaload, .aload 0, .iload 3, .iconst 2, .iadd, .iaload, .invokevirtual 184, .lcmp, .ifCond .eq 1480, .iconst 0, .ireturn] := rfl
theorem b_law_law_976 : sysS.2.1 199 976 = [.aload 1, .aload 0, .iload 3, .iconst 1, .iadd, .iaload, .aload 0, .iload 3, .iconst 2, .iadd, .iaload, .invokevirtual 14, .aload 2, .aload 0, .iload 3, .iconst 1, .iadd, .iaload, .aload 0, .iload 3, .iconst 2, .iadd, .iaload, .invokevirtual 185, .if_icmp .eq 1480, .iconst 0, .ireturn] := rfl
theorem b_law_law_1009 : sysS.2.1 199 1009 = [.aload 1, .aload 0, .iload 3, .iconst 1, .iadd, .iaload, .i2l, .iconst 32, .lshl, .aload 0, .iload 3, .iconst 2, .iadd, .iaload, .i2l, .jsr_w 4294967295, .land, .lor, .invokevirtual 15, .aload 2, .aload 0, .iload 3, .iconst 1, .iadd, .iaload, .i2l, .iconst 32, .lshl, .aload 0, .iload 3, .iconst 2, .iadd, .iaload, .i2l, .jsr_w 4294967295, .land, .lor, .invokevirtual 186, .if_icmp .eq 1480, .iconst 0, .ireturn] := rfl
theorem b_law_law_1062 : sysS.2.1 199 1062 = [.aload 1, .aload 0, .iload 3, .iconst 1, .iadd, .iaload, .aload 0, .iload 3, .iconst 2, .iadd, .iaload, .aload 0, .iload 3, .iconst 3, .iadd, .iaload, .invokevirtual 16, .aload 2, .aload 0, .iload 3, .iconst 1, .iadd, .iaload, .aload 0, .iload 3, .iconst 2, .iadd, .iaload, .aload 0, .iload 3, .iconst 3, .iadd, .iaload, .invokevirtual 187, .if_icmp .eq 1480, .iconst 0, .ireturn] := rfl
theorem b_law_law_1105 : sysS.2.1 199 1105 = [.aload 1, .aload 0, .iload 3, .iconst 1, .iadd, .iaload, .aload 0, .iload 3, .iconst 2, .iadd, .iaload, .invokevirtual 17, .aload 2, .aload 0, .iload 3, .iconst 1, .iadd, .iaload, .aload 0, .iload 3, .iconst 2, .iadd, .iaload, .invokevirtual 189, .if_icmp .eq 1480, .iconst 0, .ireturn] := rfl
theorem b_law_law_1138 : sysS.2.1 199 1138 = [.aload 1, .aload 0, .iload 3, .iconst 1, .iadd, .iaload, .aload 0, .iload 3, .iconst 2, .iadd, .iaload, .invokevirtual 18, .aload 2, .aload 0, .iload 3, .iconst 1, .iadd, .iaload, .aload 0, .iload 3, .iconst 2, .iadd, .iaload, .invokevirtual 190, .if_icmp .eq 1480, .iconst 0, .ireturn] := rfl
theorem b_law_law_1171 : sysS.2.1 199 1171 = [.aload 1, .aload 0, .iload 3, .iconst 1, .iadd, .iaload, .invokevirtual 19, .aload 2, .aload 0, .iload 3, .iconst 1, .iadd, .iaload, .invokevirtual 191, .lcmp, .ifCond .eq 1480, .iconst 0, .ireturn] := rfl
theorem b_law_law_1195 : sysS.2.1 199 1195 = [.aload 1, .aload 0, .iload 3, .iconst 1, .iadd, .iaload, .aload 0, .iload 3, .iconst 2, .iadd, .iaload, .invokevirtual 20, .aload 2, .aload 0, .iload 3, .iconst 1, .iadd, .iaload, .aload 0, .iload 3, .iconst 2, .iadd, .iaload, .invokevirtual 192, .if_icmp .eq 1480, .iconst 0, .ireturn] := rfl
theorem b_law_law_1228 : sysS.2.1 199 1228 = [.aload 1, .aload 0, .iload 3, .iconst 1, .iadd, .iaload, .aload 0, .iload 3, .iconst 2, .iadd, .iaload, .i2l, .iconst 32, .lshl, .aload 0, .iload 3, .iconst 3, .iadd, .iaload, .i2l, .jsr_w 4294967295, .land, .lor, .aload 0, .iload 3, .iconst 4, .iadd, .iaload, .i2l, .iconst 32, .lshl, .aload 0, .iload 3, .iconst 5, .iadd, .iaload, .i2l, .jsr_w 4294967295, .land, .lor, .aload 0, .iload 3, .iconst 6, .iadd, .iaload, .i2l, .iconst 32, .lshl, .aload 0, .iload 3, .iconst 7, .iadd, .iaload, .i2l, .jsr_w 4294967295, .land, .lor, .invokevirtual 21, .aload 2, .aload 0, .iload 3, .iconst 1, .iadd, .iaload, .aload 0, .iload 3, .iconst 2, .iadd, .iaload, .i2l, .iconst 32, .lshl, .aload 0, .iload 3, .iconst 3, .iadd, .iaload, .i2l, .jsr_w 4294967295, .land, .lor, .aload 0, .iload 3, .iconst 4, .iadd, .iaload, .i2l, .iconst 32, .lshl, .aload 0, .iload 3, .iconst 5, .iadd, .iaload, .i2l, .jsr_w 4294967295, .land, .lor, .aload 0, .iload 3, .iconst 6, .iadd, .iaload, .i2l, .iconst 32, .lshl, .aload 0, .iload 3, .iconst 7, .iadd, .iaload, .i2l, .jsr_w 4294967295, .land, .lor, .invokevirtual 193, .if_icmp .eq 1480, .iconst 0, .ireturn] := rfl
theorem b_law_law_1375 : sysS.2.1 199 1375 = [.aload 1, .invokevirtual 22, .aload 2, .invokevirtual 194, .if_icmp .eq 1480, .iconst 0, .ireturn] := rfl
theorem b_law_law_1388 : sysS.2.1 199 1388 = [.aload 1, .aload 0, .iload 3, .iconst 1, .iadd, .iaload, .invokevirtual 23, .aload 2, .aload 0, .iload 3, .iconst 1, .iadd, .iaload, .invokevirtual 195, .if_icmp .eq 1480, .iconst 0, .ireturn] := rfl
theorem b_law_law_1411 : sysS.2.1 199 1411 = [.aload 1, .aload 0, .iload 3, .iconst 1, .iadd, .iaload, .aload 0, .iload 3, .iconst 2, .iadd, .iaload, .invokevirtual 24, .aload 2, .aload 0, .iload 3, .iconst 1, .iadd, .iaload, .aload 0, .iload 3, .iconst 2, .iadd, .iaload, .invokevirtual 196, .if_icmp .eq 1480, .iconst 0, .ireturn] := rfl
theorem b_law_law_1444 : sysS.2.1 199 1444 = [.aload 1, .aload 0, .iload 3, .iconst 1, .iadd, .iaload, .invokevirtual 25, .aload 2, .aload 0, .iload 3, .iconst 1, .iadd, .iaload, .invokevirtual 197, .if_icmp .eq 1480, .iconst 0, .ireturn] := rfl
theorem b_law_law_1467 : sysS.2.1 199 1467 = [.aload 1, .invokevirtual 26, .aload 2, .invokevirtual 198, .if_icmp .eq 1480, .iconst 0, .ireturn] := rfl
theorem b_law_law_1480 : sysS.2.1 199 1480 = [.iinc 3 8, .goto 18] := rfl
theorem b_law_law_1486 : sysS.2.1 199 1486 = [.iconst 1, .ireturn] := rfl
theorem b_Str_indexOf_I_0 : sysS.2.1 200 0 = [.aload 0, .iload 1, .iconst 0, .invokevirtual 201, .ireturn] := rfl
theorem b_Str_indexOf_II_0 : sysS.2.1 201 0 = [.aload 0, .invokevirtual 202, .ifCond .eq 23, .aload 0, .getfield 12002, .iload 1, .iload 2, .aload 0, .invokevirtual 203, .invokestatic 205, .goto 36] := rfl
theorem b_Str_indexOf_II_23 : sysS.2.1 201 23 = [.aload 0, .getfield 12002, .iload 1, .iload 2, .aload 0, .invokevirtual 203, .athrow, .goto_w 36] := rfl
theorem b_Str_indexOf_II_36 : sysS.2.1 201 36 = [.ireturn] := rfl
theorem b_Str_isLatin1_0 : sysS.2.1 202 0 = [.getstatic 1, .ifCond .eq 17, .aload 0, .getfield 12010, .ifCond .ne 17, .iconst 1, .goto 18] := rfl
theorem b_Str_isLatin1_17 : sysS.2.1 202 17 = [.iconst 0, .goto_w 18] := rfl
theorem b_Str_isLatin1_18 : sysS.2.1 202 18 = [.ireturn] := rfl
theorem b_Str_length_0 : sysS.2.1 203 0 = [.aload 0, .getfield 12002, .arraylength, .aload 0, .invokevirtual 204, .ishr, .ireturn] := rfl
theorem b_Str_coder_0 : sysS.2.1 204 0 = [.getstatic 1, .ifCond .eq 13, .aload 0, .getfield 12010, .goto 14] := rfl
theorem b_Str_coder_13 : sysS.2.1 204 13 = [.iconst 1, .goto_w 14] := rfl
theorem b_Str_coder_14 : sysS.2.1 204 14 = [.ireturn] := rfl
theorem b_Lat_indexOf_0 : sysS.2.1 205 0 = [.iload 1, .invokestatic 206, .ifCond .ne 9, .iconst (-1), .ireturn] := rfl
theorem b_Lat_indexOf_9 : sysS.2.1 205 9 = [.iload 2, .iconst 0, .invokestatic 208, .istore 2, .iload 3, .aload 0, .arraylength, .invokestatic 209, .istore 3, .iload 2, .iload 3, .if_icmp .lt 29, .iconst (-1), .ireturn] := rfl
theorem b_Lat_indexOf_29 : sysS.2.1 205 29 = [.aload 0, .iload 1, .iload 2, .iload 3, .invokestatic 207, .ireturn] := rfl
theorem b_Lat_canEncode_0 : sysS.2.1 206 0 = [.iload 0, .ifCond .lt 15, .iload 0, .iconst 255, .if_icmp .gt 15, .iconst 1, .goto 16] := rfl
theorem b_Lat_canEncode_15 : sysS.2.1 206 15 = [.iconst 0, .goto_w 16] := rfl
theorem b_Lat_canEncode_16 : sysS.2.1 206 16 = [.ireturn] := rfl
theorem b_Lat_indexOfChar_0 : sysS.2.1 207 0 = [.iload 1, .i2b, .istore 4, .iload 2, .istore 5, .goto_w 7] := rfl
theorem b_Lat_indexOfChar_7 : sysS.2.1 207 7 = [.iload 5, .iload 3, .if_icmp .ge 31, .aload 0, .iload 5, .baload, .iload 4, .if_icmp .ne 25, .iload 5, .ireturn] := rfl
theorem b_Lat_indexOfChar_25 : sysS.2.1 207 25 = [.iinc 5 1, .goto 7] := rfl
theorem b_Lat_indexOfChar_31 : sysS.2.1 207 31 = [.iconst (-1), .ireturn] := rfl
theorem b_Math_max_II_0 : sysS.2.1 208 0 = [.iload 0, .iload 1, .if_icmp .lt 9, .iload 0, .goto 10] := rfl
theorem b_Math_max_II_9 : sysS.2.1 208 9 = [.iload 1, .goto_w 10] := rfl
theorem b_Math_max_II_10 : sysS.2.1 208 10 = [.ireturn] := rfl
theorem b_Math_min_0 : sysS.2.1 209 0 = [.iload 0, .iload 1, .if_icmp .gt 9, .iload 0, .goto 10] := rfl
theorem b_Math_min_9 : sysS.2.1 209 9 = [.iload 1, .goto_w 10] := rfl
theorem b_Math_min_10 : sysS.2.1 209 10 = [.ireturn] := rfl
theorem b_Math_max_JJ_0 : sysS.2.1 210 0 = [.lload 0, .lload 2, .lcmp, .ifCond .lt 10, .lload 0, .goto 11] := rfl
theorem b_Math_max_JJ_10 : sysS.2.1 210 10 = [.lload 2, .goto_w 11] := rfl
theorem b_Math_max_JJ_11 : sysS.2.1 210 11 = [.lreturn] := rfl
theorem b_Math_floorMod_JJ_0 : sysS.2.1 211 0 = [.lload 0, .lload 2, .lrem, .lstore 4, .lload 0, .lload 2, .lxor, .jsr_w 0, .lcmp, .ifCond .ge 25, .lload 4, .jsr_w 0, .lcmp, .ifCond .eq 25, .lload 4, .lload 2, .ladd, .lreturn] := rfl
theorem b_Math_floorMod_JJ_25 : sysS.2.1 211 25 = [.lload 4, .lreturn] := rfl
theorem b_Math_floorMod_II_0 : sysS.2.1 212 0 = [.iload 0, .iload 1, .irem, .istore 2, .iload 0, .iload 1, .ixor, .ifCond .ge 18, .iload 2, .ifCond .eq 18, .iload 2, .iload 1, .iadd, .ireturn] := rfl
theorem b_Math_floorMod_II_18 : sysS.2.1 212 18 = [.iload 2, .ireturn] := rfl
theorem q_X_init : sysS.1 0 = ([2], 3, 2, 2, 0) := rfl
theorem q_X_feed : sysS.1 1 = ([0, 0, 0, 0, 0, 2], 0, 6, 1, 0) := rfl
theorem q_X_keep : sysS.1 2 = ([0, 2], 0, 3, 1, 0) := rfl
theorem q_X_rule : sysS.1 3 = ([1, 2], 0, 3, 1, 0) := rfl
theorem q_X_fault : sysS.1 4 = ([2], 0, 1, 1, 0) := rfl
theorem q_X_drop : sysS.1 5 = ([1, 0, 2], 0, 4, 1, 0) := rfl
theorem q_X_alike : sysS.1 6 = ([0, 2], 0, 3, 1, 0) := rfl
theorem q_X_asOf : sysS.1 7 = ([0, 2], 0, 3, 1, 0) := rfl
theorem q_X_tasks : sysS.1 8 = ([0, 2], 0, 7, 1, 0) := rfl
theorem q_X_row : sysS.1 9 = ([1, 1, 1, 0, 2], 0, 9, 1, 0) := rfl
theorem q_X_goes : sysS.1 10 = ([1, 1, 1, 0, 2], 0, 11, 1, 0) := rfl
theorem q_X_send : sysS.1 11 = ([1, 1, 1, 0, 2], 0, 10, 1, 0) := rfl
theorem q_X_apply : sysS.1 12 = ([0, 0, 2], 0, 5, 1, 0) := rfl
theorem q_X_out : sysS.1 13 = ([0, 0, 2], 1, 4, 1, 0) := rfl
theorem q_X_from : sysS.1 14 = ([0, 0, 2], 0, 4, 1, 0) := rfl
theorem q_X_at : sysS.1 15 = ([1, 2], 0, 3, 1, 0) := rfl
theorem q_X_rules : sysS.1 16 = ([0, 0, 0, 2], 0, 5, 1, 0) := rfl
theorem q_X_off : sysS.1 17 = ([0, 0, 2], 0, 4, 1, 0) := rfl
theorem q_X_change : sysS.1 18 = ([0, 0, 2], 0, 3, 1, 0) := rfl
theorem q_X_when : sysS.1 19 = ([0, 2], 1, 2, 1, 0) := rfl
theorem q_X_failed : sysS.1 20 = ([0, 0, 2], 0, 4, 1, 0) := rfl
theorem q_X_tries : sysS.1 21 = ([1, 1, 1, 0, 2], 0, 10, 1, 0) := rfl
theorem q_X_mark : sysS.1 22 = ([2], 0, 3, 1, 0) := rfl
theorem q_X_restore : sysS.1 23 = ([0, 2], 0, 4, 1, 0) := rfl
theorem q_X_same : sysS.1 24 = ([0, 0, 2], 0, 6, 1, 0) := rfl
theorem q_X_count : sysS.1 25 = ([0, 2], 0, 2, 1, 0) := rfl
theorem q_X_clear : sysS.1 26 = ([2], 0, 2, 1, 0) := rfl
theorem q_X_taskOf : sysS.1 27 = ([0, 2], 2, 2, 1, 0) := rfl
theorem q_X_latestProgram : sysS.1 28 = ([0, 2], 2, 2, 1, 0) := rfl
theorem q_X_versionFor : sysS.1 29 = ([1, 2, 2], 0, 4, 1, 0) := rfl
theorem q_X_countOfTask : sysS.1 30 = ([0, 2], 0, 2, 0, 0) := rfl
theorem q_X_isOffAt : sysS.1 31 = ([0, 2, 2], 4, 4, 1, 0) := rfl
theorem q_X_comeTo : sysS.1 32 = ([2, 2, 2], 0, 3, 1, 0) := rfl
theorem q_X_judgeReady : sysS.1 33 = ([2, 2], 3, 4, 1, 0) := rfl
theorem q_X_judge : sysS.1 34 = ([2, 2, 2], 0, 6, 1, 0) := rfl
theorem q_X_judgeByRule : sysS.1 35 = ([0, 0, 2, 2, 2], 0, 8, 1, 0) := rfl
theorem q_X_switchOffForAll : sysS.1 36 = ([1, 0, 0, 2], 3, 6, 1, 0) := rfl
theorem q_Text_init : sysS.1 37 = ([2], 3, 1, 2, 1) := rfl
theorem q_Text_hasRoomFor : sysS.1 38 = ([0, 2], 4, 2, 1, 1) := rfl
theorem q_Text_append : sysS.1 39 = ([0, 2], 3, 3, 1, 1) := rfl
theorem q_Text_byteAt : sysS.1 40 = ([0, 2], 0, 2, 1, 1) := rfl
theorem q_Names_init : sysS.1 41 = ([2], 3, 1, 2, 2) := rfl
theorem q_Names_hasRoomFor : sysS.1 42 = ([1, 2], 4, 3, 1, 2) := rfl
theorem q_Names_numberFor : sysS.1 43 = ([1, 2], 0, 4, 1, 2) := rfl
theorem q_Names_find : sysS.1 44 = ([1, 2], 0, 4, 1, 2) := rfl
theorem q_Tokens_init : sysS.1 45 = ([2], 3, 1, 2, 3) := rfl
theorem q_Tokens_scan : sysS.1 46 = ([2, 2], 3, 4, 1, 3) := rfl
theorem q_Tokens_kindAt : sysS.1 47 = ([0, 2], 0, 2, 1, 3) := rfl
theorem q_Tokens_placeAt : sysS.1 48 = ([0, 2], 0, 2, 1, 3) := rfl
theorem q_Tokens_valueAt : sysS.1 49 = ([0, 2], 1, 2, 1, 3) := rfl
theorem q_Tokens_add : sysS.1 50 = ([1, 0, 0, 2], 3, 5, 1, 3) := rfl
theorem q_Tokens_scanToken : sysS.1 51 = ([0, 2, 2], 0, 4, 1, 3) := rfl
theorem q_Tokens_scanWord : sysS.1 52 = ([0, 2, 2], 0, 6, 1, 3) := rfl
theorem q_Tokens_scanNumber : sysS.1 53 = ([0, 2, 2], 0, 6, 1, 3) := rfl
theorem q_Tokens_scanSign : sysS.1 54 = ([0, 2, 2], 0, 4, 1, 3) := rfl
theorem q_Tokens_isKeyWord : sysS.1 55 = ([1], 4, 3, 0, 3) := rfl
theorem q_Tokens_isBlank : sysS.1 56 = ([0], 4, 1, 0, 3) := rfl
theorem q_Tokens_isLetter : sysS.1 57 = ([0], 4, 1, 0, 3) := rfl
theorem q_Tokens_isDigit : sysS.1 58 = ([0], 4, 1, 0, 3) := rfl
theorem q_Program_init_0 : sysS.1 59 = ([2], 3, 1, 2, 4) := rfl
theorem q_Program_init_L : sysS.1 60 = ([2, 2], 3, 3, 2, 4) := rfl
theorem q_Program_add : sysS.1 61 = ([0, 0, 2], 3, 3, 1, 4) := rfl
theorem q_Program_setDetail : sysS.1 62 = ([0, 0, 2], 3, 3, 1, 4) := rfl
theorem q_Program_stepAt : sysS.1 63 = ([0, 2], 0, 2, 1, 4) := rfl
theorem q_Program_detailAt : sysS.1 64 = ([0, 2], 0, 2, 1, 4) := rfl
theorem q_Reader_init : sysS.1 65 = ([2], 3, 1, 2, 5) := rfl
theorem q_Reader_read : sysS.1 66 = ([2, 2, 2], 3, 3, 1, 5) := rfl
theorem q_Reader_seen : sysS.1 67 = ([2], 0, 1, 1, 5) := rfl
theorem q_Reader_stop : sysS.1 68 = ([0, 2], 3, 2, 1, 5) := rfl
theorem q_Reader_expect : sysS.1 69 = ([0, 2], 3, 2, 1, 5) := rfl
theorem q_Reader_enter : sysS.1 70 = ([2], 3, 1, 1, 5) := rfl
theorem q_Reader_readName : sysS.1 71 = ([2, 2], 3, 2, 1, 5) := rfl
theorem q_Reader_readTest : sysS.1 72 = ([2], 3, 3, 1, 5) := rfl
theorem q_Reader_readBoth : sysS.1 73 = ([2], 3, 3, 1, 5) := rfl
theorem q_Reader_readOne : sysS.1 74 = ([2], 3, 1, 1, 5) := rfl
theorem q_Reader_readComparison : sysS.1 75 = ([2], 3, 2, 1, 5) := rfl
theorem q_Reader_readSums : sysS.1 76 = ([0, 2], 0, 3, 1, 5) := rfl
theorem q_Reader_readSum : sysS.1 77 = ([2], 3, 3, 1, 5) := rfl
theorem q_Reader_readPart : sysS.1 78 = ([2], 3, 3, 1, 5) := rfl
theorem q_Reader_readUnit : sysS.1 79 = ([2], 3, 2, 1, 5) := rfl
theorem q_Reader_readPick : sysS.1 80 = ([2], 3, 2, 1, 5) := rfl
theorem q_Machine_init : sysS.1 81 = ([2], 3, 1, 2, 6) := rfl
theorem q_Machine_load : sysS.1 82 = ([1, 1, 1, 1, 2], 3, 9, 1, 6) := rfl
theorem q_Machine_sendsBy : sysS.1 83 = ([2, 2], 1, 2, 1, 6) := rfl
theorem q_Machine_sumsOf : sysS.1 84 = ([2, 2], 0, 3, 1, 6) := rfl
theorem q_Machine_valueAt : sysS.1 85 = ([0, 2], 1, 2, 1, 6) := rfl
theorem q_Machine_run : sysS.1 86 = ([0, 0, 2, 2], 3, 7, 1, 6) := rfl
theorem q_Machine_push : sysS.1 87 = ([1, 2], 3, 3, 1, 6) := rfl
theorem q_Machine_pop : sysS.1 88 = ([2], 1, 1, 1, 6) := rfl
theorem q_Machine_isDecidedByLeft : sysS.1 89 = ([0, 2], 4, 3, 1, 6) := rfl
theorem q_Machine_pick : sysS.1 90 = ([0, 2], 3, 7, 1, 6) := rfl
theorem q_Machine_combine : sysS.1 91 = ([0, 2], 3, 6, 1, 6) := rfl
theorem q_Machine_combined : sysS.1 92 = ([1, 1, 0], 1, 5, 0, 6) := rfl
theorem q_Log_init : sysS.1 93 = ([2], 3, 1, 2, 7) := rfl
theorem q_Log_isFull : sysS.1 94 = ([2], 4, 1, 1, 7) := rfl
theorem q_Log_isTooEarly : sysS.1 95 = ([1, 2], 4, 3, 1, 7) := rfl
theorem q_Log_latestTime : sysS.1 96 = ([2], 1, 1, 1, 7) := rfl
theorem q_Log_versionOf : sysS.1 97 = ([1, 2], 0, 4, 1, 7) := rfl
theorem q_Log_addTold : sysS.1 98 = ([1, 2, 0, 2], 3, 5, 1, 7) := rfl
theorem q_Log_addDropped : sysS.1 99 = ([1, 0, 2], 3, 4, 1, 7) := rfl
theorem q_Log_addOff : sysS.1 100 = ([1, 0, 2], 3, 4, 1, 7) := rfl
theorem q_Log_addBack : sysS.1 101 = ([0, 2], 3, 2, 1, 7) := rfl
theorem q_Log_textIn : sysS.1 102 = ([0, 0, 2], 0, 3, 1, 7) := rfl
theorem q_Log_isOn : sysS.1 103 = ([0, 0, 2], 4, 3, 1, 7) := rfl
theorem q_Log_programOf : sysS.1 104 = ([0, 2], 2, 2, 1, 7) := rfl
theorem q_Log_isCell : sysS.1 105 = ([0, 0, 2], 4, 3, 1, 7) := rfl
theorem q_Log_add : sysS.1 106 = ([1, 0, 0, 0, 2], 3, 8, 1, 7) := rfl
theorem q_Log_set : sysS.1 107 = ([0, 0, 0, 2], 3, 4, 1, 7) := rfl
theorem q_Row_init : sysS.1 108 = ([0, 1, 1, 1, 2], 3, 8, 2, 8) := rfl
theorem q_Task_init : sysS.1 109 = ([2], 3, 1, 2, 9) := rfl
theorem q_Task_begin : sysS.1 110 = ([1, 0, 2], 3, 4, 1, 9) := rfl
theorem q_Task_hasOff : sysS.1 111 = ([0, 2], 4, 2, 1, 9) := rfl
theorem q_Task_noteFailure : sysS.1 112 = ([0, 0, 0, 2], 3, 4, 1, 9) := rfl
theorem q_Task_holdWaiting : sysS.1 113 = ([2, 2], 4, 2, 1, 9) := rfl
theorem q_Task_waitingAt : sysS.1 114 = ([0, 2], 2, 2, 1, 9) := rfl
theorem q_Task_takeReady : sysS.1 115 = ([2], 2, 3, 1, 9) := rfl
theorem q_Task_closeGap : sysS.1 116 = ([0, 2], 3, 3, 1, 9) := rfl
theorem q_Task_keepSum : sysS.1 117 = ([0, 1, 2], 3, 4, 1, 9) := rfl
theorem q_Task_sumAt : sysS.1 118 = ([0, 2], 1, 2, 1, 9) := rfl
theorem q_Task_ruleOfSumAt : sysS.1 119 = ([0, 2], 0, 2, 1, 9) := rfl
theorem q_Mark_init : sysS.1 120 = ([2], 3, 1, 2, 10) := rfl
theorem q_M_init : sysS.1 121 = ([2], 3, 1, 2, 11) := rfl
theorem q_M_in : sysS.1 122 = ([1, 1, 1], 4, 6, 0, 11) := rfl
theorem q_M_feed : sysS.1 123 = ([0, 0, 0, 0, 0, 2], 0, 6, 1, 11) := rfl
theorem q_M_four : sysS.1 124 = ([0, 2], 3, 3, 1, 11) := rfl
theorem q_M_keep : sysS.1 125 = ([0, 2], 0, 3, 1, 11) := rfl
theorem q_M_byteAt : sysS.1 126 = ([0, 2], 0, 2, 1, 11) := rfl
theorem q_M_isLetter : sysS.1 127 = ([0], 4, 1, 0, 11) := rfl
theorem q_M_isDigit : sysS.1 128 = ([0], 4, 1, 0, 11) := rfl
theorem q_M_next : sysS.1 129 = ([2], 3, 3, 1, 11) := rfl
theorem q_M_isLong : sysS.1 130 = ([2], 4, 1, 1, 11) := rfl
theorem q_M_sign : sysS.1 131 = ([0, 2], 3, 3, 1, 11) := rfl
theorem q_M_isSign : sysS.1 132 = ([0, 2], 4, 2, 1, 11) := rfl
theorem q_M_isKey : sysS.1 133 = ([1, 2], 4, 3, 1, 11) := rfl
theorem q_M_isWell : sysS.1 134 = ([2], 4, 1, 1, 11) := rfl
theorem q_M_fault_I : sysS.1 135 = ([0, 2], 3, 2, 1, 11) := rfl
theorem q_M_bad : sysS.1 136 = ([2], 3, 1, 1, 11) := rfl
theorem q_M_push : sysS.1 137 = ([0, 0, 2], 3, 3, 1, 11) := rfl
theorem q_M_opens : sysS.1 138 = ([0, 2], 3, 2, 1, 11) := rfl
theorem q_M_isTop : sysS.1 139 = ([0, 2], 4, 2, 1, 11) := rfl
theorem q_M_order : sysS.1 140 = ([1, 0, 2], 3, 4, 1, 11) := rfl
theorem q_M_part : sysS.1 141 = ([0, 0, 0, 2], 3, 5, 1, 11) := rfl
theorem q_M_one : sysS.1 142 = ([2], 0, 1, 1, 11) := rfl
theorem q_M_unit : sysS.1 143 = ([2], 0, 1, 1, 11) := rfl
theorem q_M_take : sysS.1 144 = ([0, 2], 3, 2, 1, 11) := rfl
theorem q_M_does : sysS.1 145 = ([0, 2], 3, 2, 1, 11) := rfl
theorem q_M_behindUnit : sysS.1 146 = ([2], 0, 1, 1, 11) := rfl
theorem q_M_behindSum : sysS.1 147 = ([2], 0, 3, 1, 11) := rfl
theorem q_M_closes : sysS.1 148 = ([0, 2], 0, 2, 1, 11) := rfl
theorem q_M_behindOne : sysS.1 149 = ([2], 0, 2, 1, 11) := rfl
theorem q_M_read : sysS.1 150 = ([0, 2], 3, 4, 1, 11) := rfl
theorem q_M_name : sysS.1 151 = ([2], 3, 1, 1, 11) := rfl
theorem q_M_worked : sysS.1 152 = ([0, 0, 2], 1, 8, 1, 11) := rfl
theorem q_M_value : sysS.1 153 = ([1, 2], 3, 3, 1, 11) := rfl
theorem q_M_obey : sysS.1 154 = ([1, 0, 2], 3, 4, 1, 11) := rfl
theorem q_M_operate : sysS.1 155 = ([1, 0, 2], 3, 6, 1, 11) := rfl
theorem q_M_choose : sysS.1 156 = ([0, 2], 3, 4, 1, 11) := rfl
theorem q_M_relates : sysS.1 157 = ([1, 1, 0], 4, 5, 0, 11) := rfl
theorem q_M_go : sysS.1 158 = ([0, 0, 2], 3, 4, 1, 11) := rfl
theorem q_M_let : sysS.1 159 = ([1, 1, 1, 1, 2], 3, 9, 1, 11) := rfl
theorem q_M_ruleOf : sysS.1 160 = ([1, 2], 0, 4, 1, 11) := rfl
theorem q_M_change_IIJ : sysS.1 161 = ([1, 0, 0, 2], 3, 6, 1, 11) := rfl
theorem q_M_same_I : sysS.1 162 = ([0, 2], 3, 3, 1, 11) := rfl
theorem q_M_isTimely : sysS.1 163 = ([1, 2], 4, 3, 1, 11) := rfl
theorem q_M_rule : sysS.1 164 = ([1, 2], 0, 4, 1, 11) := rfl
theorem q_M_fault_0 : sysS.1 165 = ([2], 0, 1, 1, 11) := rfl
theorem q_M_latest : sysS.1 166 = ([0, 2], 0, 2, 1, 11) := rfl
theorem q_M_drop : sysS.1 167 = ([1, 0, 2], 0, 4, 1, 11) := rfl
theorem q_M_alike : sysS.1 168 = ([0, 2], 0, 3, 1, 11) := rfl
theorem q_M_asOf : sysS.1 169 = ([0, 2], 0, 3, 1, 11) := rfl
theorem q_M_isTask : sysS.1 170 = ([0, 2], 4, 2, 1, 11) := rfl
theorem q_M_judge : sysS.1 171 = ([0, 1, 1, 1, 0, 2], 0, 16, 1, 11) := rfl
theorem q_M_failed_IIIJ : sysS.1 172 = ([1, 0, 0, 0, 2], 3, 6, 1, 11) := rfl
theorem q_M_holdIt : sysS.1 173 = ([0, 1, 1, 1, 0, 2], 3, 10, 1, 11) := rfl
theorem q_M_versionOf : sysS.1 174 = ([1, 0, 2], 0, 4, 1, 11) := rfl
theorem q_M_row : sysS.1 175 = ([1, 1, 1, 0, 2], 0, 9, 1, 11) := rfl
theorem q_M_tasks : sysS.1 176 = ([0, 2], 0, 6, 1, 11) := rfl
theorem q_M_begin : sysS.1 177 = ([0, 2], 3, 3, 1, 11) := rfl
theorem q_M_comes : sysS.1 178 = ([0, 1, 1, 1, 0, 2], 3, 10, 1, 11) := rfl
theorem q_M_goes : sysS.1 179 = ([1, 1, 1, 0, 2], 0, 11, 1, 11) := rfl
theorem q_M_send : sysS.1 180 = ([1, 1, 1, 0, 2], 0, 10, 1, 11) := rfl
theorem q_M_apply : sysS.1 181 = ([0, 0, 2], 0, 4, 1, 11) := rfl
theorem q_M_wake : sysS.1 182 = ([0, 2], 3, 14, 1, 11) := rfl
theorem q_M_isOut : sysS.1 183 = ([0, 0, 2], 4, 3, 1, 11) := rfl
theorem q_M_out : sysS.1 184 = ([0, 0, 2], 1, 3, 1, 11) := rfl
theorem q_M_from : sysS.1 185 = ([0, 0, 2], 0, 3, 1, 11) := rfl
theorem q_M_at : sysS.1 186 = ([1, 2], 0, 5, 1, 11) := rfl
theorem q_M_rules : sysS.1 187 = ([0, 0, 0, 2], 0, 6, 1, 11) := rfl
theorem q_M_isOff : sysS.1 188 = ([0, 0, 2], 4, 4, 1, 11) := rfl
theorem q_M_off : sysS.1 189 = ([0, 0, 2], 0, 3, 1, 11) := rfl
theorem q_M_change_II : sysS.1 190 = ([0, 0, 2], 0, 3, 1, 11) := rfl
theorem q_M_when : sysS.1 191 = ([0, 2], 1, 2, 1, 11) := rfl
theorem q_M_failed_II : sysS.1 192 = ([0, 0, 2], 0, 3, 1, 11) := rfl
theorem q_M_tries : sysS.1 193 = ([1, 1, 1, 0, 2], 0, 9, 1, 11) := rfl
theorem q_M_mark : sysS.1 194 = ([2], 0, 2, 1, 11) := rfl
theorem q_M_restore : sysS.1 195 = ([0, 2], 0, 4, 1, 11) := rfl
theorem q_M_same_II : sysS.1 196 = ([0, 0, 2], 0, 5, 1, 11) := rfl
theorem q_M_count : sysS.1 197 = ([0, 2], 0, 3, 1, 11) := rfl
theorem q_M_clear : sysS.1 198 = ([2], 0, 2, 1, 11) := rfl
theorem q_law_law : sysS.1 199 = ([2], 4, 4, 0, 99) := rfl
theorem q_Str_indexOf_I : sysS.1 200 = ([0, 2], 0, 2, 1, 12) := rfl
theorem q_Str_indexOf_II : sysS.1 201 = ([0, 0, 2], 0, 3, 1, 12) := rfl
theorem q_Str_isLatin1 : sysS.1 202 = ([2], 4, 1, 1, 12) := rfl
theorem q_Str_length : sysS.1 203 = ([2], 0, 1, 1, 12) := rfl
theorem q_Str_coder : sysS.1 204 = ([2], 5, 1, 1, 12) := rfl
theorem q_Lat_indexOf : sysS.1 205 = ([0, 0, 0, 2], 0, 4, 0, 99) := rfl
theorem q_Lat_canEncode : sysS.1 206 = ([0], 4, 1, 0, 99) := rfl
theorem q_Lat_indexOfChar : sysS.1 207 = ([0, 0, 0, 2], 0, 6, 0, 99) := rfl
theorem q_Math_max_II : sysS.1 208 = ([0, 0], 0, 2, 0, 99) := rfl
theorem q_Math_min : sysS.1 209 = ([0, 0], 0, 2, 0, 99) := rfl
theorem q_Math_max_JJ : sysS.1 210 = ([1, 1], 1, 4, 0, 99) := rfl
theorem q_Math_floorMod_JJ : sysS.1 211 = ([1, 1], 1, 6, 0, 99) := rfl
theorem q_Math_floorMod_II : sysS.1 212 = ([0, 0], 0, 3, 0, 99) := rfl
