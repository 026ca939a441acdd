theorem dL_add_0 : decode cL_add 0 = .ok (.aload 4, 2) := by decide +kernel
theorem dL_add_2 : decode cL_add 2 = .ok (.iconst 0, 1) := by decide +kernel
theorem dL_add_3 : decode cL_add 3 = .ok (.aload_n 0, 1) := by decide +kernel
theorem dL_add_4 : decode cL_add 4 = .ok (.iload_n 1, 1) := by decide +kernel
theorem dL_add_5 : decode cL_add 5 = .ok (.iload_n 2, 1) := by decide +kernel
theorem dL_add_6 : decode cL_add 6 = .ok (.iload_n 3, 1) := by decide +kernel
theorem dL_add_7 : decode cL_add 7 = .ok (.invokevirtual 7, 3) := by decide +kernel
theorem dL_add_10 : decode cL_add 10 = .ok (.i2l, 1) := by decide +kernel
theorem dL_add_11 : decode cL_add 11 = .ok (.lastore, 1) := by decide +kernel
theorem dL_add_12 : decode cL_add 12 = .ok (.goto 11, 3) := by decide +kernel
theorem dL_add_15 : decode cL_add 15 = .ok (.astore 5, 2) := by decide +kernel
theorem dL_add_17 : decode cL_add 17 = .ok (.iconst 1, 1) := by decide +kernel
theorem dL_add_18 : decode cL_add 18 = .ok (.ireturn, 1) := by decide +kernel
theorem dL_add_19 : decode cL_add 19 = .ok (.astore 5, 2) := by decide +kernel
theorem dL_add_21 : decode cL_add 21 = .ok (.iconst 2, 1) := by decide +kernel
theorem dL_add_22 : decode cL_add 22 = .ok (.ireturn, 1) := by decide +kernel
theorem dL_add_23 : decode cL_add 23 = .ok (.iconst 0, 1) := by decide +kernel
theorem dL_add_24 : decode cL_add 24 = .ok (.ireturn, 1) := by decide +kernel
theorem dL_weigh_0 : decode cL_weigh 0 = .ok (.aload 4, 2) := by decide +kernel
theorem dL_weigh_2 : decode cL_weigh 2 = .ok (.iconst 0, 1) := by decide +kernel
theorem dL_weigh_3 : decode cL_weigh 3 = .ok (.aload_n 0, 1) := by decide +kernel
theorem dL_weigh_4 : decode cL_weigh 4 = .ok (.iload_n 1, 1) := by decide +kernel
theorem dL_weigh_5 : decode cL_weigh 5 = .ok (.iload_n 2, 1) := by decide +kernel
theorem dL_weigh_6 : decode cL_weigh 6 = .ok (.iload_n 3, 1) := by decide +kernel
theorem dL_weigh_7 : decode cL_weigh 7 = .ok (.invokevirtual 17, 3) := by decide +kernel
theorem dL_weigh_10 : decode cL_weigh 10 = .ok (.i2l, 1) := by decide +kernel
theorem dL_weigh_11 : decode cL_weigh 11 = .ok (.lastore, 1) := by decide +kernel
theorem dL_weigh_12 : decode cL_weigh 12 = .ok (.goto 11, 3) := by decide +kernel
theorem dL_weigh_15 : decode cL_weigh 15 = .ok (.astore 5, 2) := by decide +kernel
theorem dL_weigh_17 : decode cL_weigh 17 = .ok (.iconst 1, 1) := by decide +kernel
theorem dL_weigh_18 : decode cL_weigh 18 = .ok (.ireturn, 1) := by decide +kernel
theorem dL_weigh_19 : decode cL_weigh 19 = .ok (.astore 5, 2) := by decide +kernel
theorem dL_weigh_21 : decode cL_weigh 21 = .ok (.iconst 2, 1) := by decide +kernel
theorem dL_weigh_22 : decode cL_weigh 22 = .ok (.ireturn, 1) := by decide +kernel
theorem dL_weigh_23 : decode cL_weigh 23 = .ok (.iconst 0, 1) := by decide +kernel
theorem dL_weigh_24 : decode cL_weigh 24 = .ok (.ireturn, 1) := by decide +kernel
theorem dL_turn_0 : decode cL_turn 0 = .ok (.aload_n 3, 1) := by decide +kernel
theorem dL_turn_1 : decode cL_turn 1 = .ok (.iconst 0, 1) := by decide +kernel
theorem dL_turn_2 : decode cL_turn 2 = .ok (.aload_n 0, 1) := by decide +kernel
theorem dL_turn_3 : decode cL_turn 3 = .ok (.iload_n 1, 1) := by decide +kernel
theorem dL_turn_4 : decode cL_turn 4 = .ok (.iload_n 2, 1) := by decide +kernel
theorem dL_turn_5 : decode cL_turn 5 = .ok (.invokevirtual 23, 3) := by decide +kernel
theorem dL_turn_8 : decode cL_turn 8 = .ok (.ifCond .eq 7, 3) := by decide +kernel
theorem dL_turn_11 : decode cL_turn 11 = .ok (.lconst 1, 1) := by decide +kernel
theorem dL_turn_12 : decode cL_turn 12 = .ok (.goto 4, 3) := by decide +kernel
theorem dL_turn_15 : decode cL_turn 15 = .ok (.lconst 0, 1) := by decide +kernel
theorem dL_turn_16 : decode cL_turn 16 = .ok (.lastore, 1) := by decide +kernel
theorem dL_turn_17 : decode cL_turn 17 = .ok (.goto 7, 3) := by decide +kernel
theorem dL_turn_20 : decode cL_turn 20 = .ok (.astore 4, 2) := by decide +kernel
theorem dL_turn_22 : decode cL_turn 22 = .ok (.iconst 1, 1) := by decide +kernel
theorem dL_turn_23 : decode cL_turn 23 = .ok (.ireturn, 1) := by decide +kernel
theorem dL_turn_24 : decode cL_turn 24 = .ok (.iconst 0, 1) := by decide +kernel
theorem dL_turn_25 : decode cL_turn 25 = .ok (.ireturn, 1) := by decide +kernel
theorem dL_ramp_0 : decode cL_ramp 0 = .ok (.aload 4, 2) := by decide +kernel
theorem dL_ramp_2 : decode cL_ramp 2 = .ok (.iconst 0, 1) := by decide +kernel
theorem dL_ramp_3 : decode cL_ramp 3 = .ok (.aload_n 0, 1) := by decide +kernel
theorem dL_ramp_4 : decode cL_ramp 4 = .ok (.iload_n 1, 1) := by decide +kernel
theorem dL_ramp_5 : decode cL_ramp 5 = .ok (.iload_n 2, 1) := by decide +kernel
theorem dL_ramp_6 : decode cL_ramp 6 = .ok (.iload_n 3, 1) := by decide +kernel
theorem dL_ramp_7 : decode cL_ramp 7 = .ok (.invokevirtual 27, 3) := by decide +kernel
theorem dL_ramp_10 : decode cL_ramp 10 = .ok (.i2l, 1) := by decide +kernel
theorem dL_ramp_11 : decode cL_ramp 11 = .ok (.lastore, 1) := by decide +kernel
theorem dL_ramp_12 : decode cL_ramp 12 = .ok (.goto 11, 3) := by decide +kernel
theorem dL_ramp_15 : decode cL_ramp 15 = .ok (.astore 5, 2) := by decide +kernel
theorem dL_ramp_17 : decode cL_ramp 17 = .ok (.iconst 1, 1) := by decide +kernel
theorem dL_ramp_18 : decode cL_ramp 18 = .ok (.ireturn, 1) := by decide +kernel
theorem dL_ramp_19 : decode cL_ramp 19 = .ok (.astore 5, 2) := by decide +kernel
theorem dL_ramp_21 : decode cL_ramp 21 = .ok (.iconst 2, 1) := by decide +kernel
theorem dL_ramp_22 : decode cL_ramp 22 = .ok (.ireturn, 1) := by decide +kernel
theorem dL_ramp_23 : decode cL_ramp 23 = .ok (.iconst 0, 1) := by decide +kernel
theorem dL_ramp_24 : decode cL_ramp 24 = .ok (.ireturn, 1) := by decide +kernel
theorem dL_place_0 : decode cL_place 0 = .ok (.aload 5, 2) := by decide +kernel
theorem dL_place_2 : decode cL_place 2 = .ok (.iconst 0, 1) := by decide +kernel
theorem dL_place_3 : decode cL_place 3 = .ok (.aload_n 0, 1) := by decide +kernel
theorem dL_place_4 : decode cL_place 4 = .ok (.iload_n 1, 1) := by decide +kernel
theorem dL_place_5 : decode cL_place 5 = .ok (.iload_n 2, 1) := by decide +kernel
theorem dL_place_6 : decode cL_place 6 = .ok (.iload_n 3, 1) := by decide +kernel
theorem dL_place_7 : decode cL_place 7 = .ok (.iload 4, 2) := by decide +kernel
theorem dL_place_9 : decode cL_place 9 = .ok (.invokevirtual 30, 3) := by decide +kernel
theorem dL_place_12 : decode cL_place 12 = .ok (.i2l, 1) := by decide +kernel
theorem dL_place_13 : decode cL_place 13 = .ok (.lastore, 1) := by decide +kernel
theorem dL_place_14 : decode cL_place 14 = .ok (.goto 15, 3) := by decide +kernel
theorem dL_place_17 : decode cL_place 17 = .ok (.astore 6, 2) := by decide +kernel
theorem dL_place_19 : decode cL_place 19 = .ok (.iconst 1, 1) := by decide +kernel
theorem dL_place_20 : decode cL_place 20 = .ok (.ireturn, 1) := by decide +kernel
theorem dL_place_21 : decode cL_place 21 = .ok (.astore 6, 2) := by decide +kernel
theorem dL_place_23 : decode cL_place 23 = .ok (.iconst 2, 1) := by decide +kernel
theorem dL_place_24 : decode cL_place 24 = .ok (.ireturn, 1) := by decide +kernel
theorem dL_place_25 : decode cL_place 25 = .ok (.astore 6, 2) := by decide +kernel
theorem dL_place_27 : decode cL_place 27 = .ok (.iconst 3, 1) := by decide +kernel
theorem dL_place_28 : decode cL_place 28 = .ok (.ireturn, 1) := by decide +kernel
theorem dL_place_29 : decode cL_place 29 = .ok (.iconst 0, 1) := by decide +kernel
theorem dL_place_30 : decode cL_place 30 = .ok (.ireturn, 1) := by decide +kernel
theorem dL_need_0 : decode cL_need 0 = .ok (.aload 4, 2) := by decide +kernel
theorem dL_need_2 : decode cL_need 2 = .ok (.iconst 0, 1) := by decide +kernel
theorem dL_need_3 : decode cL_need 3 = .ok (.aload_n 0, 1) := by decide +kernel
theorem dL_need_4 : decode cL_need 4 = .ok (.iload_n 1, 1) := by decide +kernel
theorem dL_need_5 : decode cL_need 5 = .ok (.iload_n 2, 1) := by decide +kernel
theorem dL_need_6 : decode cL_need 6 = .ok (.iload_n 3, 1) := by decide +kernel
theorem dL_need_7 : decode cL_need 7 = .ok (.invokevirtual 34, 3) := by decide +kernel
theorem dL_need_10 : decode cL_need 10 = .ok (.i2l, 1) := by decide +kernel
theorem dL_need_11 : decode cL_need 11 = .ok (.lastore, 1) := by decide +kernel
theorem dL_need_12 : decode cL_need 12 = .ok (.goto 11, 3) := by decide +kernel
theorem dL_need_15 : decode cL_need 15 = .ok (.astore 5, 2) := by decide +kernel
theorem dL_need_17 : decode cL_need 17 = .ok (.iconst 1, 1) := by decide +kernel
theorem dL_need_18 : decode cL_need 18 = .ok (.ireturn, 1) := by decide +kernel
theorem dL_need_19 : decode cL_need 19 = .ok (.astore 5, 2) := by decide +kernel
theorem dL_need_21 : decode cL_need 21 = .ok (.iconst 2, 1) := by decide +kernel
theorem dL_need_22 : decode cL_need 22 = .ok (.ireturn, 1) := by decide +kernel
theorem dL_need_23 : decode cL_need 23 = .ok (.iconst 0, 1) := by decide +kernel
theorem dL_need_24 : decode cL_need 24 = .ok (.ireturn, 1) := by decide +kernel
theorem dL_rule_0 : decode cL_rule 0 = .ok (.aload 6, 2) := by decide +kernel
theorem dL_rule_2 : decode cL_rule 2 = .ok (.iconst 0, 1) := by decide +kernel
theorem dL_rule_3 : decode cL_rule 3 = .ok (.aload_n 0, 1) := by decide +kernel
theorem dL_rule_4 : decode cL_rule 4 = .ok (.iload_n 1, 1) := by decide +kernel
theorem dL_rule_5 : decode cL_rule 5 = .ok (.iload_n 2, 1) := by decide +kernel
theorem dL_rule_6 : decode cL_rule 6 = .ok (.iload_n 3, 1) := by decide +kernel
theorem dL_rule_7 : decode cL_rule 7 = .ok (.iload 4, 2) := by decide +kernel
theorem dL_rule_9 : decode cL_rule 9 = .ok (.iload 5, 2) := by decide +kernel
theorem dL_rule_11 : decode cL_rule 11 = .ok (.invokevirtual 37, 3) := by decide +kernel
theorem dL_rule_14 : decode cL_rule 14 = .ok (.i2l, 1) := by decide +kernel
theorem dL_rule_15 : decode cL_rule 15 = .ok (.lastore, 1) := by decide +kernel
theorem dL_rule_16 : decode cL_rule 16 = .ok (.goto 15, 3) := by decide +kernel
theorem dL_rule_19 : decode cL_rule 19 = .ok (.astore 7, 2) := by decide +kernel
theorem dL_rule_21 : decode cL_rule 21 = .ok (.iconst 1, 1) := by decide +kernel
theorem dL_rule_22 : decode cL_rule 22 = .ok (.ireturn, 1) := by decide +kernel
theorem dL_rule_23 : decode cL_rule 23 = .ok (.astore 7, 2) := by decide +kernel
theorem dL_rule_25 : decode cL_rule 25 = .ok (.iconst 2, 1) := by decide +kernel
theorem dL_rule_26 : decode cL_rule 26 = .ok (.ireturn, 1) := by decide +kernel
theorem dL_rule_27 : decode cL_rule 27 = .ok (.astore 7, 2) := by decide +kernel
theorem dL_rule_29 : decode cL_rule 29 = .ok (.iconst 3, 1) := by decide +kernel
theorem dL_rule_30 : decode cL_rule 30 = .ok (.ireturn, 1) := by decide +kernel
theorem dL_rule_31 : decode cL_rule 31 = .ok (.iconst 0, 1) := by decide +kernel
theorem dL_rule_32 : decode cL_rule 32 = .ok (.ireturn, 1) := by decide +kernel
theorem dL_unrule_0 : decode cL_unrule 0 = .ok (.aload_n 3, 1) := by decide +kernel
theorem dL_unrule_1 : decode cL_unrule 1 = .ok (.iconst 0, 1) := by decide +kernel
theorem dL_unrule_2 : decode cL_unrule 2 = .ok (.aload_n 0, 1) := by decide +kernel
theorem dL_unrule_3 : decode cL_unrule 3 = .ok (.iload_n 1, 1) := by decide +kernel
theorem dL_unrule_4 : decode cL_unrule 4 = .ok (.iload_n 2, 1) := by decide +kernel
theorem dL_unrule_5 : decode cL_unrule 5 = .ok (.invokevirtual 41, 3) := by decide +kernel
theorem dL_unrule_8 : decode cL_unrule 8 = .ok (.i2l, 1) := by decide +kernel
theorem dL_unrule_9 : decode cL_unrule 9 = .ok (.lastore, 1) := by decide +kernel
theorem dL_unrule_10 : decode cL_unrule 10 = .ok (.goto 7, 3) := by decide +kernel
theorem dL_unrule_13 : decode cL_unrule 13 = .ok (.astore 4, 2) := by decide +kernel
theorem dL_unrule_15 : decode cL_unrule 15 = .ok (.iconst 1, 1) := by decide +kernel
theorem dL_unrule_16 : decode cL_unrule 16 = .ok (.ireturn, 1) := by decide +kernel
theorem dL_unrule_17 : decode cL_unrule 17 = .ok (.iconst 0, 1) := by decide +kernel
theorem dL_unrule_18 : decode cL_unrule 18 = .ok (.ireturn, 1) := by decide +kernel
theorem dL_hold_0 : decode cL_hold 0 = .ok (.aload_n 2, 1) := by decide +kernel
theorem dL_hold_1 : decode cL_hold 1 = .ok (.iconst 0, 1) := by decide +kernel
theorem dL_hold_2 : decode cL_hold 2 = .ok (.aload_n 0, 1) := by decide +kernel
theorem dL_hold_3 : decode cL_hold 3 = .ok (.iload_n 1, 1) := by decide +kernel
theorem dL_hold_4 : decode cL_hold 4 = .ok (.invokevirtual 45, 3) := by decide +kernel
theorem dL_hold_7 : decode cL_hold 7 = .ok (.i2l, 1) := by decide +kernel
theorem dL_hold_8 : decode cL_hold 8 = .ok (.lastore, 1) := by decide +kernel
theorem dL_hold_9 : decode cL_hold 9 = .ok (.goto 6, 3) := by decide +kernel
theorem dL_hold_12 : decode cL_hold 12 = .ok (.astore_n 3, 1) := by decide +kernel
theorem dL_hold_13 : decode cL_hold 13 = .ok (.iconst 1, 1) := by decide +kernel
theorem dL_hold_14 : decode cL_hold 14 = .ok (.ireturn, 1) := by decide +kernel
theorem dL_hold_15 : decode cL_hold 15 = .ok (.iconst 0, 1) := by decide +kernel
theorem dL_hold_16 : decode cL_hold 16 = .ok (.ireturn, 1) := by decide +kernel
theorem dL_goOn_0 : decode cL_goOn 0 = .ok (.aload_n 2, 1) := by decide +kernel
theorem dL_goOn_1 : decode cL_goOn 1 = .ok (.iconst 0, 1) := by decide +kernel
theorem dL_goOn_2 : decode cL_goOn 2 = .ok (.aload_n 0, 1) := by decide +kernel
theorem dL_goOn_3 : decode cL_goOn 3 = .ok (.iload_n 1, 1) := by decide +kernel
theorem dL_goOn_4 : decode cL_goOn 4 = .ok (.invokevirtual 49, 3) := by decide +kernel
theorem dL_goOn_7 : decode cL_goOn 7 = .ok (.i2l, 1) := by decide +kernel
theorem dL_goOn_8 : decode cL_goOn 8 = .ok (.lastore, 1) := by decide +kernel
theorem dL_goOn_9 : decode cL_goOn 9 = .ok (.goto 6, 3) := by decide +kernel
theorem dL_goOn_12 : decode cL_goOn 12 = .ok (.astore_n 3, 1) := by decide +kernel
theorem dL_goOn_13 : decode cL_goOn 13 = .ok (.iconst 1, 1) := by decide +kernel
theorem dL_goOn_14 : decode cL_goOn 14 = .ok (.ireturn, 1) := by decide +kernel
theorem dL_goOn_15 : decode cL_goOn 15 = .ok (.iconst 0, 1) := by decide +kernel
theorem dL_goOn_16 : decode cL_goOn 16 = .ok (.ireturn, 1) := by decide +kernel
theorem dL_weight_0 : decode cL_weight 0 = .ok (.aload_n 3, 1) := by decide +kernel
theorem dL_weight_1 : decode cL_weight 1 = .ok (.iconst 0, 1) := by decide +kernel
theorem dL_weight_2 : decode cL_weight 2 = .ok (.aload_n 0, 1) := by decide +kernel
theorem dL_weight_3 : decode cL_weight 3 = .ok (.iload_n 1, 1) := by decide +kernel
theorem dL_weight_4 : decode cL_weight 4 = .ok (.iload_n 2, 1) := by decide +kernel
theorem dL_weight_5 : decode cL_weight 5 = .ok (.invokevirtual 52, 3) := by decide +kernel
theorem dL_weight_8 : decode cL_weight 8 = .ok (.i2l, 1) := by decide +kernel
theorem dL_weight_9 : decode cL_weight 9 = .ok (.lastore, 1) := by decide +kernel
theorem dL_weight_10 : decode cL_weight 10 = .ok (.goto 7, 3) := by decide +kernel
theorem dL_weight_13 : decode cL_weight 13 = .ok (.astore 4, 2) := by decide +kernel
theorem dL_weight_15 : decode cL_weight 15 = .ok (.iconst 1, 1) := by decide +kernel
theorem dL_weight_16 : decode cL_weight 16 = .ok (.ireturn, 1) := by decide +kernel
theorem dL_weight_17 : decode cL_weight 17 = .ok (.iconst 0, 1) := by decide +kernel
theorem dL_weight_18 : decode cL_weight 18 = .ok (.ireturn, 1) := by decide +kernel
theorem dL_share_0 : decode cL_share 0 = .ok (.aload_n 2, 1) := by decide +kernel
theorem dL_share_1 : decode cL_share 1 = .ok (.iconst 0, 1) := by decide +kernel
theorem dL_share_2 : decode cL_share 2 = .ok (.aload_n 0, 1) := by decide +kernel
theorem dL_share_3 : decode cL_share 3 = .ok (.iload_n 1, 1) := by decide +kernel
theorem dL_share_4 : decode cL_share 4 = .ok (.invokevirtual 55, 3) := by decide +kernel
theorem dL_share_7 : decode cL_share 7 = .ok (.i2l, 1) := by decide +kernel
theorem dL_share_8 : decode cL_share 8 = .ok (.lastore, 1) := by decide +kernel
theorem dL_share_9 : decode cL_share 9 = .ok (.goto 6, 3) := by decide +kernel
theorem dL_share_12 : decode cL_share 12 = .ok (.astore_n 3, 1) := by decide +kernel
theorem dL_share_13 : decode cL_share 13 = .ok (.iconst 1, 1) := by decide +kernel
theorem dL_share_14 : decode cL_share 14 = .ok (.ireturn, 1) := by decide +kernel
theorem dL_share_15 : decode cL_share 15 = .ok (.iconst 0, 1) := by decide +kernel
theorem dL_share_16 : decode cL_share 16 = .ok (.ireturn, 1) := by decide +kernel
theorem dL_left_0 : decode cL_left 0 = .ok (.aload_n 2, 1) := by decide +kernel
theorem dL_left_1 : decode cL_left 1 = .ok (.iconst 0, 1) := by decide +kernel
theorem dL_left_2 : decode cL_left 2 = .ok (.aload_n 0, 1) := by decide +kernel
theorem dL_left_3 : decode cL_left 3 = .ok (.iload_n 1, 1) := by decide +kernel
theorem dL_left_4 : decode cL_left 4 = .ok (.invokevirtual 58, 3) := by decide +kernel
theorem dL_left_7 : decode cL_left 7 = .ok (.i2l, 1) := by decide +kernel
theorem dL_left_8 : decode cL_left 8 = .ok (.lastore, 1) := by decide +kernel
theorem dL_left_9 : decode cL_left 9 = .ok (.goto 6, 3) := by decide +kernel
theorem dL_left_12 : decode cL_left 12 = .ok (.astore_n 3, 1) := by decide +kernel
theorem dL_left_13 : decode cL_left 13 = .ok (.iconst 1, 1) := by decide +kernel
theorem dL_left_14 : decode cL_left 14 = .ok (.ireturn, 1) := by decide +kernel
theorem dL_left_15 : decode cL_left 15 = .ok (.iconst 0, 1) := by decide +kernel
theorem dL_left_16 : decode cL_left 16 = .ok (.ireturn, 1) := by decide +kernel
theorem dL_bucket_0 : decode cL_bucket 0 = .ok (.aload_n 3, 1) := by decide +kernel
theorem dL_bucket_1 : decode cL_bucket 1 = .ok (.iconst 0, 1) := by decide +kernel
theorem dL_bucket_2 : decode cL_bucket 2 = .ok (.aload_n 0, 1) := by decide +kernel
theorem dL_bucket_3 : decode cL_bucket 3 = .ok (.iload_n 1, 1) := by decide +kernel
theorem dL_bucket_4 : decode cL_bucket 4 = .ok (.iload_n 2, 1) := by decide +kernel
theorem dL_bucket_5 : decode cL_bucket 5 = .ok (.invokevirtual 61, 3) := by decide +kernel
theorem dL_bucket_8 : decode cL_bucket 8 = .ok (.i2l, 1) := by decide +kernel
theorem dL_bucket_9 : decode cL_bucket 9 = .ok (.lastore, 1) := by decide +kernel
theorem dL_bucket_10 : decode cL_bucket 10 = .ok (.goto 7, 3) := by decide +kernel
theorem dL_bucket_13 : decode cL_bucket 13 = .ok (.astore 4, 2) := by decide +kernel
theorem dL_bucket_15 : decode cL_bucket 15 = .ok (.iconst 1, 1) := by decide +kernel
theorem dL_bucket_16 : decode cL_bucket 16 = .ok (.ireturn, 1) := by decide +kernel
theorem dL_bucket_17 : decode cL_bucket 17 = .ok (.iconst 0, 1) := by decide +kernel
theorem dL_bucket_18 : decode cL_bucket 18 = .ok (.ireturn, 1) := by decide +kernel
theorem dL_gets_0 : decode cL_gets 0 = .ok (.aload 5, 2) := by decide +kernel
theorem dL_gets_2 : decode cL_gets 2 = .ok (.iconst 0, 1) := by decide +kernel
theorem dL_gets_3 : decode cL_gets 3 = .ok (.aload_n 0, 1) := by decide +kernel
theorem dL_gets_4 : decode cL_gets 4 = .ok (.iload_n 1, 1) := by decide +kernel
theorem dL_gets_5 : decode cL_gets 5 = .ok (.iload_n 2, 1) := by decide +kernel
theorem dL_gets_6 : decode cL_gets 6 = .ok (.iload_n 3, 1) := by decide +kernel
theorem dL_gets_7 : decode cL_gets 7 = .ok (.iload 4, 2) := by decide +kernel
theorem dL_gets_9 : decode cL_gets 9 = .ok (.invokevirtual 64, 3) := by decide +kernel
theorem dL_gets_12 : decode cL_gets 12 = .ok (.i2l, 1) := by decide +kernel
theorem dL_gets_13 : decode cL_gets 13 = .ok (.lastore, 1) := by decide +kernel
theorem dL_gets_14 : decode cL_gets 14 = .ok (.goto 11, 3) := by decide +kernel
theorem dL_gets_17 : decode cL_gets 17 = .ok (.astore 6, 2) := by decide +kernel
theorem dL_gets_19 : decode cL_gets 19 = .ok (.iconst 1, 1) := by decide +kernel
theorem dL_gets_20 : decode cL_gets 20 = .ok (.ireturn, 1) := by decide +kernel
theorem dL_gets_21 : decode cL_gets 21 = .ok (.astore 6, 2) := by decide +kernel
theorem dL_gets_23 : decode cL_gets 23 = .ok (.iconst 2, 1) := by decide +kernel
theorem dL_gets_24 : decode cL_gets 24 = .ok (.ireturn, 1) := by decide +kernel
theorem dL_gets_25 : decode cL_gets 25 = .ok (.iconst 0, 1) := by decide +kernel
theorem dL_gets_26 : decode cL_gets 26 = .ok (.ireturn, 1) := by decide +kernel
theorem dL_why_0 : decode cL_why 0 = .ok (.aload 5, 2) := by decide +kernel
theorem dL_why_2 : decode cL_why 2 = .ok (.iconst 0, 1) := by decide +kernel
theorem dL_why_3 : decode cL_why 3 = .ok (.aload_n 0, 1) := by decide +kernel
theorem dL_why_4 : decode cL_why 4 = .ok (.iload_n 1, 1) := by decide +kernel
theorem dL_why_5 : decode cL_why 5 = .ok (.iload_n 2, 1) := by decide +kernel
theorem dL_why_6 : decode cL_why 6 = .ok (.iload_n 3, 1) := by decide +kernel
theorem dL_why_7 : decode cL_why 7 = .ok (.iload 4, 2) := by decide +kernel
theorem dL_why_9 : decode cL_why 9 = .ok (.invokevirtual 67, 3) := by decide +kernel
theorem dL_why_12 : decode cL_why 12 = .ok (.i2l, 1) := by decide +kernel
theorem dL_why_13 : decode cL_why 13 = .ok (.lastore, 1) := by decide +kernel
theorem dL_why_14 : decode cL_why 14 = .ok (.goto 11, 3) := by decide +kernel
theorem dL_why_17 : decode cL_why 17 = .ok (.astore 6, 2) := by decide +kernel
theorem dL_why_19 : decode cL_why 19 = .ok (.iconst 1, 1) := by decide +kernel
theorem dL_why_20 : decode cL_why 20 = .ok (.ireturn, 1) := by decide +kernel
theorem dL_why_21 : decode cL_why 21 = .ok (.astore 6, 2) := by decide +kernel
theorem dL_why_23 : decode cL_why 23 = .ok (.iconst 2, 1) := by decide +kernel
theorem dL_why_24 : decode cL_why 24 = .ok (.ireturn, 1) := by decide +kernel
theorem dL_why_25 : decode cL_why 25 = .ok (.iconst 0, 1) := by decide +kernel
theorem dL_why_26 : decode cL_why 26 = .ok (.ireturn, 1) := by decide +kernel
theorem dL_holds_0 : decode cL_holds 0 = .ok (.aload 5, 2) := by decide +kernel
theorem dL_holds_2 : decode cL_holds 2 = .ok (.iconst 0, 1) := by decide +kernel
theorem dL_holds_3 : decode cL_holds 3 = .ok (.aload_n 0, 1) := by decide +kernel
theorem dL_holds_4 : decode cL_holds 4 = .ok (.iload_n 1, 1) := by decide +kernel
theorem dL_holds_5 : decode cL_holds 5 = .ok (.iload_n 2, 1) := by decide +kernel
theorem dL_holds_6 : decode cL_holds 6 = .ok (.iload_n 3, 1) := by decide +kernel
theorem dL_holds_7 : decode cL_holds 7 = .ok (.iload 4, 2) := by decide +kernel
theorem dL_holds_9 : decode cL_holds 9 = .ok (.invokevirtual 70, 3) := by decide +kernel
theorem dL_holds_12 : decode cL_holds 12 = .ok (.i2l, 1) := by decide +kernel
theorem dL_holds_13 : decode cL_holds 13 = .ok (.lastore, 1) := by decide +kernel
theorem dL_holds_14 : decode cL_holds 14 = .ok (.goto 11, 3) := by decide +kernel
theorem dL_holds_17 : decode cL_holds 17 = .ok (.astore 6, 2) := by decide +kernel
theorem dL_holds_19 : decode cL_holds 19 = .ok (.iconst 1, 1) := by decide +kernel
theorem dL_holds_20 : decode cL_holds 20 = .ok (.ireturn, 1) := by decide +kernel
theorem dL_holds_21 : decode cL_holds 21 = .ok (.astore 6, 2) := by decide +kernel
theorem dL_holds_23 : decode cL_holds 23 = .ok (.iconst 2, 1) := by decide +kernel
theorem dL_holds_24 : decode cL_holds 24 = .ok (.ireturn, 1) := by decide +kernel
theorem dL_holds_25 : decode cL_holds 25 = .ok (.iconst 0, 1) := by decide +kernel
theorem dL_holds_26 : decode cL_holds 26 = .ok (.ireturn, 1) := by decide +kernel
theorem dL_ask_0 : decode cL_ask 0 = .ok (.aload 5, 2) := by decide +kernel
theorem dL_ask_2 : decode cL_ask 2 = .ok (.iconst 0, 1) := by decide +kernel
theorem dL_ask_3 : decode cL_ask 3 = .ok (.aload_n 0, 1) := by decide +kernel
theorem dL_ask_4 : decode cL_ask 4 = .ok (.iload_n 1, 1) := by decide +kernel
theorem dL_ask_5 : decode cL_ask 5 = .ok (.iload_n 2, 1) := by decide +kernel
theorem dL_ask_6 : decode cL_ask 6 = .ok (.iload_n 3, 1) := by decide +kernel
theorem dL_ask_7 : decode cL_ask 7 = .ok (.iload 4, 2) := by decide +kernel
theorem dL_ask_9 : decode cL_ask 9 = .ok (.invokevirtual 73, 3) := by decide +kernel
theorem dL_ask_12 : decode cL_ask 12 = .ok (.i2l, 1) := by decide +kernel
theorem dL_ask_13 : decode cL_ask 13 = .ok (.lastore, 1) := by decide +kernel
theorem dL_ask_14 : decode cL_ask 14 = .ok (.goto 11, 3) := by decide +kernel
theorem dL_ask_17 : decode cL_ask 17 = .ok (.astore 6, 2) := by decide +kernel
theorem dL_ask_19 : decode cL_ask 19 = .ok (.iconst 1, 1) := by decide +kernel
theorem dL_ask_20 : decode cL_ask 20 = .ok (.ireturn, 1) := by decide +kernel
theorem dL_ask_21 : decode cL_ask 21 = .ok (.astore 6, 2) := by decide +kernel
theorem dL_ask_23 : decode cL_ask 23 = .ok (.iconst 2, 1) := by decide +kernel
theorem dL_ask_24 : decode cL_ask 24 = .ok (.ireturn, 1) := by decide +kernel
theorem dL_ask_25 : decode cL_ask 25 = .ok (.iconst 0, 1) := by decide +kernel
theorem dL_ask_26 : decode cL_ask 26 = .ok (.ireturn, 1) := by decide +kernel
theorem dL_act_0 : decode cL_act 0 = .ok (.aload_n 3, 1) := by decide +kernel
theorem dL_act_1 : decode cL_act 1 = .ok (.iconst 0, 1) := by decide +kernel
theorem dL_act_2 : decode cL_act 2 = .ok (.aload_n 0, 1) := by decide +kernel
theorem dL_act_3 : decode cL_act 3 = .ok (.iload_n 1, 1) := by decide +kernel
theorem dL_act_4 : decode cL_act 4 = .ok (.iload_n 2, 1) := by decide +kernel
theorem dL_act_5 : decode cL_act 5 = .ok (.invokevirtual 76, 3) := by decide +kernel
theorem dL_act_8 : decode cL_act 8 = .ok (.i2l, 1) := by decide +kernel
theorem dL_act_9 : decode cL_act 9 = .ok (.lastore, 1) := by decide +kernel
theorem dL_act_10 : decode cL_act 10 = .ok (.goto 7, 3) := by decide +kernel
theorem dL_act_13 : decode cL_act 13 = .ok (.astore 4, 2) := by decide +kernel
theorem dL_act_15 : decode cL_act 15 = .ok (.iconst 1, 1) := by decide +kernel
theorem dL_act_16 : decode cL_act 16 = .ok (.ireturn, 1) := by decide +kernel
theorem dL_act_17 : decode cL_act 17 = .ok (.iconst 0, 1) := by decide +kernel
theorem dL_act_18 : decode cL_act 18 = .ok (.ireturn, 1) := by decide +kernel
theorem dL_arm_0 : decode cL_arm 0 = .ok (.aload_n 3, 1) := by decide +kernel
theorem dL_arm_1 : decode cL_arm 1 = .ok (.iconst 0, 1) := by decide +kernel
theorem dL_arm_2 : decode cL_arm 2 = .ok (.aload_n 0, 1) := by decide +kernel
theorem dL_arm_3 : decode cL_arm 3 = .ok (.iload_n 1, 1) := by decide +kernel
theorem dL_arm_4 : decode cL_arm 4 = .ok (.iload_n 2, 1) := by decide +kernel
theorem dL_arm_5 : decode cL_arm 5 = .ok (.invokevirtual 79, 3) := by decide +kernel
theorem dL_arm_8 : decode cL_arm 8 = .ok (.i2l, 1) := by decide +kernel
theorem dL_arm_9 : decode cL_arm 9 = .ok (.lastore, 1) := by decide +kernel
theorem dL_arm_10 : decode cL_arm 10 = .ok (.goto 11, 3) := by decide +kernel
theorem dL_arm_13 : decode cL_arm 13 = .ok (.astore 4, 2) := by decide +kernel
theorem dL_arm_15 : decode cL_arm 15 = .ok (.iconst 1, 1) := by decide +kernel
theorem dL_arm_16 : decode cL_arm 16 = .ok (.ireturn, 1) := by decide +kernel
theorem dL_arm_17 : decode cL_arm 17 = .ok (.astore 4, 2) := by decide +kernel
theorem dL_arm_19 : decode cL_arm 19 = .ok (.iconst 2, 1) := by decide +kernel
theorem dL_arm_20 : decode cL_arm 20 = .ok (.ireturn, 1) := by decide +kernel
theorem dL_arm_21 : decode cL_arm 21 = .ok (.iconst 0, 1) := by decide +kernel
theorem dL_arm_22 : decode cL_arm 22 = .ok (.ireturn, 1) := by decide +kernel
theorem dL_told_0 : decode cL_told 0 = .ok (.aload 4, 2) := by decide +kernel
theorem dL_told_2 : decode cL_told 2 = .ok (.iconst 0, 1) := by decide +kernel
theorem dL_told_3 : decode cL_told 3 = .ok (.aload_n 0, 1) := by decide +kernel
theorem dL_told_4 : decode cL_told 4 = .ok (.iload_n 1, 1) := by decide +kernel
theorem dL_told_5 : decode cL_told 5 = .ok (.iload_n 2, 1) := by decide +kernel
theorem dL_told_6 : decode cL_told 6 = .ok (.iload_n 3, 1) := by decide +kernel
theorem dL_told_7 : decode cL_told 7 = .ok (.invokevirtual 82, 3) := by decide +kernel
theorem dL_told_10 : decode cL_told 10 = .ok (.i2l, 1) := by decide +kernel
theorem dL_told_11 : decode cL_told 11 = .ok (.lastore, 1) := by decide +kernel
theorem dL_told_12 : decode cL_told 12 = .ok (.goto 11, 3) := by decide +kernel
theorem dL_told_15 : decode cL_told 15 = .ok (.astore 5, 2) := by decide +kernel
theorem dL_told_17 : decode cL_told 17 = .ok (.iconst 1, 1) := by decide +kernel
theorem dL_told_18 : decode cL_told 18 = .ok (.ireturn, 1) := by decide +kernel
theorem dL_told_19 : decode cL_told 19 = .ok (.astore 5, 2) := by decide +kernel
theorem dL_told_21 : decode cL_told 21 = .ok (.iconst 2, 1) := by decide +kernel
theorem dL_told_22 : decode cL_told 22 = .ok (.ireturn, 1) := by decide +kernel
theorem dL_told_23 : decode cL_told 23 = .ok (.iconst 0, 1) := by decide +kernel
theorem dL_told_24 : decode cL_told 24 = .ok (.ireturn, 1) := by decide +kernel
theorem dL_mean_0 : decode cL_mean 0 = .ok (.aload_n 3, 1) := by decide +kernel
theorem dL_mean_1 : decode cL_mean 1 = .ok (.iconst 0, 1) := by decide +kernel
theorem dL_mean_2 : decode cL_mean 2 = .ok (.aload_n 0, 1) := by decide +kernel
theorem dL_mean_3 : decode cL_mean 3 = .ok (.iload_n 1, 1) := by decide +kernel
theorem dL_mean_4 : decode cL_mean 4 = .ok (.iload_n 2, 1) := by decide +kernel
theorem dL_mean_5 : decode cL_mean 5 = .ok (.invokevirtual 85, 3) := by decide +kernel
theorem dL_mean_8 : decode cL_mean 8 = .ok (.dastore, 1) := by decide +kernel
theorem dL_mean_9 : decode cL_mean 9 = .ok (.goto 7, 3) := by decide +kernel
theorem dL_mean_12 : decode cL_mean 12 = .ok (.astore 4, 2) := by decide +kernel
theorem dL_mean_14 : decode cL_mean 14 = .ok (.iconst 1, 1) := by decide +kernel
theorem dL_mean_15 : decode cL_mean 15 = .ok (.ireturn, 1) := by decide +kernel
theorem dL_mean_16 : decode cL_mean 16 = .ok (.iconst 0, 1) := by decide +kernel
theorem dL_mean_17 : decode cL_mean 17 = .ok (.ireturn, 1) := by decide +kernel
theorem dL_lift_0 : decode cL_lift 0 = .ok (.aload_n 3, 1) := by decide +kernel
theorem dL_lift_1 : decode cL_lift 1 = .ok (.iconst 0, 1) := by decide +kernel
theorem dL_lift_2 : decode cL_lift 2 = .ok (.aload_n 0, 1) := by decide +kernel
theorem dL_lift_3 : decode cL_lift 3 = .ok (.iload_n 1, 1) := by decide +kernel
theorem dL_lift_4 : decode cL_lift 4 = .ok (.iload_n 2, 1) := by decide +kernel
theorem dL_lift_5 : decode cL_lift 5 = .ok (.invokevirtual 89, 3) := by decide +kernel
theorem dL_lift_8 : decode cL_lift 8 = .ok (.dastore, 1) := by decide +kernel
theorem dL_lift_9 : decode cL_lift 9 = .ok (.goto 7, 3) := by decide +kernel
theorem dL_lift_12 : decode cL_lift 12 = .ok (.astore 4, 2) := by decide +kernel
theorem dL_lift_14 : decode cL_lift 14 = .ok (.iconst 1, 1) := by decide +kernel
theorem dL_lift_15 : decode cL_lift 15 = .ok (.ireturn, 1) := by decide +kernel
theorem dL_lift_16 : decode cL_lift 16 = .ok (.iconst 0, 1) := by decide +kernel
theorem dL_lift_17 : decode cL_lift 17 = .ok (.ireturn, 1) := by decide +kernel
theorem dL_sure_0 : decode cL_sure 0 = .ok (.aload_n 3, 1) := by decide +kernel
theorem dL_sure_1 : decode cL_sure 1 = .ok (.iconst 0, 1) := by decide +kernel
theorem dL_sure_2 : decode cL_sure 2 = .ok (.aload_n 0, 1) := by decide +kernel
theorem dL_sure_3 : decode cL_sure 3 = .ok (.iload_n 1, 1) := by decide +kernel
theorem dL_sure_4 : decode cL_sure 4 = .ok (.iload_n 2, 1) := by decide +kernel
theorem dL_sure_5 : decode cL_sure 5 = .ok (.invokevirtual 92, 3) := by decide +kernel
theorem dL_sure_8 : decode cL_sure 8 = .ok (.dastore, 1) := by decide +kernel
theorem dL_sure_9 : decode cL_sure 9 = .ok (.goto 7, 3) := by decide +kernel
theorem dL_sure_12 : decode cL_sure 12 = .ok (.astore 4, 2) := by decide +kernel
theorem dL_sure_14 : decode cL_sure 14 = .ok (.iconst 1, 1) := by decide +kernel
theorem dL_sure_15 : decode cL_sure 15 = .ok (.ireturn, 1) := by decide +kernel
theorem dL_sure_16 : decode cL_sure 16 = .ok (.iconst 0, 1) := by decide +kernel
theorem dL_sure_17 : decode cL_sure 17 = .ok (.ireturn, 1) := by decide +kernel
theorem dL_bad_0 : decode cL_bad 0 = .ok (.aload_n 2, 1) := by decide +kernel
theorem dL_bad_1 : decode cL_bad 1 = .ok (.iconst 0, 1) := by decide +kernel
theorem dL_bad_2 : decode cL_bad 2 = .ok (.aload_n 0, 1) := by decide +kernel
theorem dL_bad_3 : decode cL_bad 3 = .ok (.iload_n 1, 1) := by decide +kernel
theorem dL_bad_4 : decode cL_bad 4 = .ok (.invokevirtual 95, 3) := by decide +kernel
theorem dL_bad_7 : decode cL_bad 7 = .ok (.i2l, 1) := by decide +kernel
theorem dL_bad_8 : decode cL_bad 8 = .ok (.lastore, 1) := by decide +kernel
theorem dL_bad_9 : decode cL_bad 9 = .ok (.goto 6, 3) := by decide +kernel
theorem dL_bad_12 : decode cL_bad 12 = .ok (.astore_n 3, 1) := by decide +kernel
theorem dL_bad_13 : decode cL_bad 13 = .ok (.iconst 1, 1) := by decide +kernel
theorem dL_bad_14 : decode cL_bad 14 = .ok (.ireturn, 1) := by decide +kernel
theorem dL_bad_15 : decode cL_bad 15 = .ok (.iconst 0, 1) := by decide +kernel
theorem dL_bad_16 : decode cL_bad 16 = .ok (.ireturn, 1) := by decide +kernel
theorem dL_isTrusted_0 : decode cL_isTrusted 0 = .ok (.aload_n 2, 1) := by decide +kernel
theorem dL_isTrusted_1 : decode cL_isTrusted 1 = .ok (.iconst 0, 1) := by decide +kernel
theorem dL_isTrusted_2 : decode cL_isTrusted 2 = .ok (.aload_n 0, 1) := by decide +kernel
theorem dL_isTrusted_3 : decode cL_isTrusted 3 = .ok (.iload_n 1, 1) := by decide +kernel
theorem dL_isTrusted_4 : decode cL_isTrusted 4 = .ok (.invokevirtual 98, 3) := by decide +kernel
theorem dL_isTrusted_7 : decode cL_isTrusted 7 = .ok (.ifCond .eq 7, 3) := by decide +kernel
theorem dL_isTrusted_10 : decode cL_isTrusted 10 = .ok (.lconst 1, 1) := by decide +kernel
theorem dL_isTrusted_11 : decode cL_isTrusted 11 = .ok (.goto 4, 3) := by decide +kernel
theorem dL_isTrusted_14 : decode cL_isTrusted 14 = .ok (.lconst 0, 1) := by decide +kernel
theorem dL_isTrusted_15 : decode cL_isTrusted 15 = .ok (.lastore, 1) := by decide +kernel
theorem dL_isTrusted_16 : decode cL_isTrusted 16 = .ok (.goto 6, 3) := by decide +kernel
theorem dL_isTrusted_19 : decode cL_isTrusted 19 = .ok (.astore_n 3, 1) := by decide +kernel
theorem dL_isTrusted_20 : decode cL_isTrusted 20 = .ok (.iconst 1, 1) := by decide +kernel
theorem dL_isTrusted_21 : decode cL_isTrusted 21 = .ok (.ireturn, 1) := by decide +kernel
theorem dL_isTrusted_22 : decode cL_isTrusted 22 = .ok (.iconst 0, 1) := by decide +kernel
theorem dL_isTrusted_23 : decode cL_isTrusted 23 = .ok (.ireturn, 1) := by decide +kernel
theorem dL_best_0 : decode cL_best 0 = .ok (.aload_n 2, 1) := by decide +kernel
theorem dL_best_1 : decode cL_best 1 = .ok (.iconst 0, 1) := by decide +kernel
theorem dL_best_2 : decode cL_best 2 = .ok (.aload_n 0, 1) := by decide +kernel
theorem dL_best_3 : decode cL_best 3 = .ok (.iload_n 1, 1) := by decide +kernel
theorem dL_best_4 : decode cL_best 4 = .ok (.invokevirtual 102, 3) := by decide +kernel
theorem dL_best_7 : decode cL_best 7 = .ok (.i2l, 1) := by decide +kernel
theorem dL_best_8 : decode cL_best 8 = .ok (.lastore, 1) := by decide +kernel
theorem dL_best_9 : decode cL_best 9 = .ok (.goto 6, 3) := by decide +kernel
theorem dL_best_12 : decode cL_best 12 = .ok (.astore_n 3, 1) := by decide +kernel
theorem dL_best_13 : decode cL_best 13 = .ok (.iconst 1, 1) := by decide +kernel
theorem dL_best_14 : decode cL_best 14 = .ok (.ireturn, 1) := by decide +kernel
theorem dL_best_15 : decode cL_best 15 = .ok (.iconst 0, 1) := by decide +kernel
theorem dL_best_16 : decode cL_best 16 = .ok (.ireturn, 1) := by decide +kernel
theorem dL_reach_0 : decode cL_reach 0 = .ok (.aload 4, 2) := by decide +kernel
theorem dL_reach_2 : decode cL_reach 2 = .ok (.iconst 0, 1) := by decide +kernel
theorem dL_reach_3 : decode cL_reach 3 = .ok (.aload_n 0, 1) := by decide +kernel
theorem dL_reach_4 : decode cL_reach 4 = .ok (.iload_n 1, 1) := by decide +kernel
theorem dL_reach_5 : decode cL_reach 5 = .ok (.iload_n 2, 1) := by decide +kernel
theorem dL_reach_6 : decode cL_reach 6 = .ok (.iload_n 3, 1) := by decide +kernel
theorem dL_reach_7 : decode cL_reach 7 = .ok (.invokevirtual 105, 3) := by decide +kernel
theorem dL_reach_10 : decode cL_reach 10 = .ok (.i2l, 1) := by decide +kernel
theorem dL_reach_11 : decode cL_reach 11 = .ok (.lastore, 1) := by decide +kernel
theorem dL_reach_12 : decode cL_reach 12 = .ok (.goto 11, 3) := by decide +kernel
theorem dL_reach_15 : decode cL_reach 15 = .ok (.astore 5, 2) := by decide +kernel
theorem dL_reach_17 : decode cL_reach 17 = .ok (.iconst 1, 1) := by decide +kernel
theorem dL_reach_18 : decode cL_reach 18 = .ok (.ireturn, 1) := by decide +kernel
theorem dL_reach_19 : decode cL_reach 19 = .ok (.astore 5, 2) := by decide +kernel
theorem dL_reach_21 : decode cL_reach 21 = .ok (.iconst 2, 1) := by decide +kernel
theorem dL_reach_22 : decode cL_reach 22 = .ok (.ireturn, 1) := by decide +kernel
theorem dL_reach_23 : decode cL_reach 23 = .ok (.iconst 0, 1) := by decide +kernel
theorem dL_reach_24 : decode cL_reach 24 = .ok (.ireturn, 1) := by decide +kernel
theorem dL_both_0 : decode cL_both 0 = .ok (.aload 4, 2) := by decide +kernel
theorem dL_both_2 : decode cL_both 2 = .ok (.iconst 0, 1) := by decide +kernel
theorem dL_both_3 : decode cL_both 3 = .ok (.aload_n 0, 1) := by decide +kernel
theorem dL_both_4 : decode cL_both 4 = .ok (.iload_n 1, 1) := by decide +kernel
theorem dL_both_5 : decode cL_both 5 = .ok (.iload_n 2, 1) := by decide +kernel
theorem dL_both_6 : decode cL_both 6 = .ok (.iload_n 3, 1) := by decide +kernel
theorem dL_both_7 : decode cL_both 7 = .ok (.invokevirtual 108, 3) := by decide +kernel
theorem dL_both_10 : decode cL_both 10 = .ok (.i2l, 1) := by decide +kernel
theorem dL_both_11 : decode cL_both 11 = .ok (.lastore, 1) := by decide +kernel
theorem dL_both_12 : decode cL_both 12 = .ok (.goto 11, 3) := by decide +kernel
theorem dL_both_15 : decode cL_both 15 = .ok (.astore 5, 2) := by decide +kernel
theorem dL_both_17 : decode cL_both 17 = .ok (.iconst 1, 1) := by decide +kernel
theorem dL_both_18 : decode cL_both 18 = .ok (.ireturn, 1) := by decide +kernel
theorem dL_both_19 : decode cL_both 19 = .ok (.astore 5, 2) := by decide +kernel
theorem dL_both_21 : decode cL_both 21 = .ok (.iconst 2, 1) := by decide +kernel
theorem dL_both_22 : decode cL_both 22 = .ok (.ireturn, 1) := by decide +kernel
theorem dL_both_23 : decode cL_both 23 = .ok (.iconst 0, 1) := by decide +kernel
theorem dL_both_24 : decode cL_both 24 = .ok (.ireturn, 1) := by decide +kernel
theorem dL_wouldChange_0 : decode cL_wouldChange 0 = .ok (.aload 4, 2) := by decide +kernel
theorem dL_wouldChange_2 : decode cL_wouldChange 2 = .ok (.iconst 0, 1) := by decide +kernel
theorem dL_wouldChange_3 : decode cL_wouldChange 3 = .ok (.aload_n 0, 1) := by decide +kernel
theorem dL_wouldChange_4 : decode cL_wouldChange 4 = .ok (.iload_n 1, 1) := by decide +kernel
theorem dL_wouldChange_5 : decode cL_wouldChange 5 = .ok (.iload_n 2, 1) := by decide +kernel
theorem dL_wouldChange_6 : decode cL_wouldChange 6 = .ok (.iload_n 3, 1) := by decide +kernel
theorem dL_wouldChange_7 : decode cL_wouldChange 7 = .ok (.invokevirtual 111, 3) := by decide +kernel
theorem dL_wouldChange_10 : decode cL_wouldChange 10 = .ok (.i2l, 1) := by decide +kernel
theorem dL_wouldChange_11 : decode cL_wouldChange 11 = .ok (.lastore, 1) := by decide +kernel
theorem dL_wouldChange_12 : decode cL_wouldChange 12 = .ok (.goto 11, 3) := by decide +kernel
theorem dL_wouldChange_15 : decode cL_wouldChange 15 = .ok (.astore 5, 2) := by decide +kernel
theorem dL_wouldChange_17 : decode cL_wouldChange 17 = .ok (.iconst 1, 1) := by decide +kernel
theorem dL_wouldChange_18 : decode cL_wouldChange 18 = .ok (.ireturn, 1) := by decide +kernel
theorem dL_wouldChange_19 : decode cL_wouldChange 19 = .ok (.astore 5, 2) := by decide +kernel
theorem dL_wouldChange_21 : decode cL_wouldChange 21 = .ok (.iconst 2, 1) := by decide +kernel
theorem dL_wouldChange_22 : decode cL_wouldChange 22 = .ok (.ireturn, 1) := by decide +kernel
theorem dL_wouldChange_23 : decode cL_wouldChange 23 = .ok (.iconst 0, 1) := by decide +kernel
theorem dL_wouldChange_24 : decode cL_wouldChange 24 = .ok (.ireturn, 1) := by decide +kernel
theorem dL_wouldTurn_0 : decode cL_wouldTurn 0 = .ok (.aload_n 3, 1) := by decide +kernel
theorem dL_wouldTurn_1 : decode cL_wouldTurn 1 = .ok (.iconst 0, 1) := by decide +kernel
theorem dL_wouldTurn_2 : decode cL_wouldTurn 2 = .ok (.aload_n 0, 1) := by decide +kernel
theorem dL_wouldTurn_3 : decode cL_wouldTurn 3 = .ok (.iload_n 1, 1) := by decide +kernel
theorem dL_wouldTurn_4 : decode cL_wouldTurn 4 = .ok (.iload_n 2, 1) := by decide +kernel
theorem dL_wouldTurn_5 : decode cL_wouldTurn 5 = .ok (.invokevirtual 114, 3) := by decide +kernel
theorem dL_wouldTurn_8 : decode cL_wouldTurn 8 = .ok (.i2l, 1) := by decide +kernel
theorem dL_wouldTurn_9 : decode cL_wouldTurn 9 = .ok (.lastore, 1) := by decide +kernel
theorem dL_wouldTurn_10 : decode cL_wouldTurn 10 = .ok (.goto 11, 3) := by decide +kernel
theorem dL_wouldTurn_13 : decode cL_wouldTurn 13 = .ok (.astore 4, 2) := by decide +kernel
theorem dL_wouldTurn_15 : decode cL_wouldTurn 15 = .ok (.iconst 1, 1) := by decide +kernel
theorem dL_wouldTurn_16 : decode cL_wouldTurn 16 = .ok (.ireturn, 1) := by decide +kernel
theorem dL_wouldTurn_17 : decode cL_wouldTurn 17 = .ok (.astore 4, 2) := by decide +kernel
theorem dL_wouldTurn_19 : decode cL_wouldTurn 19 = .ok (.iconst 2, 1) := by decide +kernel
theorem dL_wouldTurn_20 : decode cL_wouldTurn 20 = .ok (.ireturn, 1) := by decide +kernel
theorem dL_wouldTurn_21 : decode cL_wouldTurn 21 = .ok (.iconst 0, 1) := by decide +kernel
theorem dL_wouldTurn_22 : decode cL_wouldTurn 22 = .ok (.ireturn, 1) := by decide +kernel
theorem dL_shareIn_0 : decode cL_shareIn 0 = .ok (.aload_n 3, 1) := by decide +kernel
theorem dL_shareIn_1 : decode cL_shareIn 1 = .ok (.iconst 0, 1) := by decide +kernel
theorem dL_shareIn_2 : decode cL_shareIn 2 = .ok (.aload_n 0, 1) := by decide +kernel
theorem dL_shareIn_3 : decode cL_shareIn 3 = .ok (.iload_n 1, 1) := by decide +kernel
theorem dL_shareIn_4 : decode cL_shareIn 4 = .ok (.iload_n 2, 1) := by decide +kernel
theorem dL_shareIn_5 : decode cL_shareIn 5 = .ok (.invokevirtual 117, 3) := by decide +kernel
theorem dL_shareIn_8 : decode cL_shareIn 8 = .ok (.i2l, 1) := by decide +kernel
theorem dL_shareIn_9 : decode cL_shareIn 9 = .ok (.lastore, 1) := by decide +kernel
theorem dL_shareIn_10 : decode cL_shareIn 10 = .ok (.goto 11, 3) := by decide +kernel
theorem dL_shareIn_13 : decode cL_shareIn 13 = .ok (.astore 4, 2) := by decide +kernel
theorem dL_shareIn_15 : decode cL_shareIn 15 = .ok (.iconst 1, 1) := by decide +kernel
theorem dL_shareIn_16 : decode cL_shareIn 16 = .ok (.ireturn, 1) := by decide +kernel
theorem dL_shareIn_17 : decode cL_shareIn 17 = .ok (.astore 4, 2) := by decide +kernel
theorem dL_shareIn_19 : decode cL_shareIn 19 = .ok (.iconst 2, 1) := by decide +kernel
theorem dL_shareIn_20 : decode cL_shareIn 20 = .ok (.ireturn, 1) := by decide +kernel
theorem dL_shareIn_21 : decode cL_shareIn 21 = .ok (.iconst 0, 1) := by decide +kernel
theorem dL_shareIn_22 : decode cL_shareIn 22 = .ok (.ireturn, 1) := by decide +kernel
