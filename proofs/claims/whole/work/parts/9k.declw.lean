theorem dL_count_0 : decode cL_count 0 = .ok (.aload_n 2, 1) := by decide +kernel
theorem dL_count_1 : decode cL_count 1 = .ok (.iconst 0, 1) := by decide +kernel
theorem dL_count_2 : decode cL_count 2 = .ok (.aload_n 0, 1) := by decide +kernel
theorem dL_count_3 : decode cL_count 3 = .ok (.iload_n 1, 1) := by decide +kernel
theorem dL_count_4 : decode cL_count 4 = .ok (.invokevirtual 7, 3) := by decide +kernel
theorem dL_count_7 : decode cL_count 7 = .ok (.i2l, 1) := by decide +kernel
theorem dL_count_8 : decode cL_count 8 = .ok (.lastore, 1) := by decide +kernel
theorem dL_count_9 : decode cL_count 9 = .ok (.goto 6, 3) := by decide +kernel
theorem dL_count_12 : decode cL_count 12 = .ok (.astore_n 3, 1) := by decide +kernel
theorem dL_count_13 : decode cL_count 13 = .ok (.iconst 1, 1) := by decide +kernel
theorem dL_count_14 : decode cL_count 14 = .ok (.ireturn, 1) := by decide +kernel
theorem dL_count_15 : decode cL_count 15 = .ok (.iconst 0, 1) := by decide +kernel
theorem dL_count_16 : decode cL_count 16 = .ok (.ireturn, 1) := by decide +kernel
theorem dL_pool_0 : decode cL_pool 0 = .ok (.aload_n 3, 1) := by decide +kernel
theorem dL_pool_1 : decode cL_pool 1 = .ok (.iconst 0, 1) := by decide +kernel
theorem dL_pool_2 : decode cL_pool 2 = .ok (.aload_n 0, 1) := by decide +kernel
theorem dL_pool_3 : decode cL_pool 3 = .ok (.iload_n 1, 1) := by decide +kernel
theorem dL_pool_4 : decode cL_pool 4 = .ok (.iload_n 2, 1) := by decide +kernel
theorem dL_pool_5 : decode cL_pool 5 = .ok (.invokevirtual 15, 3) := by decide +kernel
theorem dL_pool_8 : decode cL_pool 8 = .ok (.i2l, 1) := by decide +kernel
theorem dL_pool_9 : decode cL_pool 9 = .ok (.lastore, 1) := by decide +kernel
theorem dL_pool_10 : decode cL_pool 10 = .ok (.goto 11, 3) := by decide +kernel
theorem dL_pool_13 : decode cL_pool 13 = .ok (.astore 4, 2) := by decide +kernel
theorem dL_pool_15 : decode cL_pool 15 = .ok (.iconst 1, 1) := by decide +kernel
theorem dL_pool_16 : decode cL_pool 16 = .ok (.ireturn, 1) := by decide +kernel
theorem dL_pool_17 : decode cL_pool 17 = .ok (.astore 4, 2) := by decide +kernel
theorem dL_pool_19 : decode cL_pool 19 = .ok (.iconst 2, 1) := by decide +kernel
theorem dL_pool_20 : decode cL_pool 20 = .ok (.ireturn, 1) := by decide +kernel
theorem dL_pool_21 : decode cL_pool 21 = .ok (.iconst 0, 1) := by decide +kernel
theorem dL_pool_22 : decode cL_pool 22 = .ok (.ireturn, 1) := by decide +kernel
theorem dL_member_0 : decode cL_member 0 = .ok (.aload_n 3, 1) := by decide +kernel
theorem dL_member_1 : decode cL_member 1 = .ok (.iconst 0, 1) := by decide +kernel
theorem dL_member_2 : decode cL_member 2 = .ok (.aload_n 0, 1) := by decide +kernel
theorem dL_member_3 : decode cL_member 3 = .ok (.iload_n 1, 1) := by decide +kernel
theorem dL_member_4 : decode cL_member 4 = .ok (.iload_n 2, 1) := by decide +kernel
theorem dL_member_5 : decode cL_member 5 = .ok (.invokevirtual 21, 3) := by decide +kernel
theorem dL_member_8 : decode cL_member 8 = .ok (.i2l, 1) := by decide +kernel
theorem dL_member_9 : decode cL_member 9 = .ok (.lastore, 1) := by decide +kernel
theorem dL_member_10 : decode cL_member 10 = .ok (.goto 11, 3) := by decide +kernel
theorem dL_member_13 : decode cL_member 13 = .ok (.astore 4, 2) := by decide +kernel
theorem dL_member_15 : decode cL_member 15 = .ok (.iconst 1, 1) := by decide +kernel
theorem dL_member_16 : decode cL_member 16 = .ok (.ireturn, 1) := by decide +kernel
theorem dL_member_17 : decode cL_member 17 = .ok (.astore 4, 2) := by decide +kernel
theorem dL_member_19 : decode cL_member 19 = .ok (.iconst 2, 1) := by decide +kernel
theorem dL_member_20 : decode cL_member 20 = .ok (.ireturn, 1) := by decide +kernel
theorem dL_member_21 : decode cL_member 21 = .ok (.iconst 0, 1) := by decide +kernel
theorem dL_member_22 : decode cL_member 22 = .ok (.ireturn, 1) := by decide +kernel
theorem dL_memberAt_0 : decode cL_memberAt 0 = .ok (.aload_n 3, 1) := by decide +kernel
theorem dL_memberAt_1 : decode cL_memberAt 1 = .ok (.iconst 0, 1) := by decide +kernel
theorem dL_memberAt_2 : decode cL_memberAt 2 = .ok (.aload_n 0, 1) := by decide +kernel
theorem dL_memberAt_3 : decode cL_memberAt 3 = .ok (.iload_n 1, 1) := by decide +kernel
theorem dL_memberAt_4 : decode cL_memberAt 4 = .ok (.iload_n 2, 1) := by decide +kernel
theorem dL_memberAt_5 : decode cL_memberAt 5 = .ok (.invokevirtual 26, 3) := by decide +kernel
theorem dL_memberAt_8 : decode cL_memberAt 8 = .ok (.i2l, 1) := by decide +kernel
theorem dL_memberAt_9 : decode cL_memberAt 9 = .ok (.lastore, 1) := by decide +kernel
theorem dL_memberAt_10 : decode cL_memberAt 10 = .ok (.goto 11, 3) := by decide +kernel
theorem dL_memberAt_13 : decode cL_memberAt 13 = .ok (.astore 4, 2) := by decide +kernel
theorem dL_memberAt_15 : decode cL_memberAt 15 = .ok (.iconst 1, 1) := by decide +kernel
theorem dL_memberAt_16 : decode cL_memberAt 16 = .ok (.ireturn, 1) := by decide +kernel
theorem dL_memberAt_17 : decode cL_memberAt 17 = .ok (.astore 4, 2) := by decide +kernel
theorem dL_memberAt_19 : decode cL_memberAt 19 = .ok (.iconst 2, 1) := by decide +kernel
theorem dL_memberAt_20 : decode cL_memberAt 20 = .ok (.ireturn, 1) := by decide +kernel
theorem dL_memberAt_21 : decode cL_memberAt 21 = .ok (.iconst 0, 1) := by decide +kernel
theorem dL_memberAt_22 : decode cL_memberAt 22 = .ok (.ireturn, 1) := by decide +kernel
theorem dL_demand_0 : decode cL_demand 0 = .ok (.aload_n 3, 1) := by decide +kernel
theorem dL_demand_1 : decode cL_demand 1 = .ok (.iconst 0, 1) := by decide +kernel
theorem dL_demand_2 : decode cL_demand 2 = .ok (.aload_n 0, 1) := by decide +kernel
theorem dL_demand_3 : decode cL_demand 3 = .ok (.iload_n 1, 1) := by decide +kernel
theorem dL_demand_4 : decode cL_demand 4 = .ok (.iload_n 2, 1) := by decide +kernel
theorem dL_demand_5 : decode cL_demand 5 = .ok (.invokevirtual 29, 3) := by decide +kernel
theorem dL_demand_8 : decode cL_demand 8 = .ok (.i2l, 1) := by decide +kernel
theorem dL_demand_9 : decode cL_demand 9 = .ok (.lastore, 1) := by decide +kernel
theorem dL_demand_10 : decode cL_demand 10 = .ok (.goto 11, 3) := by decide +kernel
theorem dL_demand_13 : decode cL_demand 13 = .ok (.astore 4, 2) := by decide +kernel
theorem dL_demand_15 : decode cL_demand 15 = .ok (.iconst 1, 1) := by decide +kernel
theorem dL_demand_16 : decode cL_demand 16 = .ok (.ireturn, 1) := by decide +kernel
theorem dL_demand_17 : decode cL_demand 17 = .ok (.astore 4, 2) := by decide +kernel
theorem dL_demand_19 : decode cL_demand 19 = .ok (.iconst 2, 1) := by decide +kernel
theorem dL_demand_20 : decode cL_demand 20 = .ok (.ireturn, 1) := by decide +kernel
theorem dL_demand_21 : decode cL_demand 21 = .ok (.iconst 0, 1) := by decide +kernel
theorem dL_demand_22 : decode cL_demand 22 = .ok (.ireturn, 1) := by decide +kernel
theorem dL_planned_0 : decode cL_planned 0 = .ok (.aload_n 3, 1) := by decide +kernel
theorem dL_planned_1 : decode cL_planned 1 = .ok (.iconst 0, 1) := by decide +kernel
theorem dL_planned_2 : decode cL_planned 2 = .ok (.aload_n 0, 1) := by decide +kernel
theorem dL_planned_3 : decode cL_planned 3 = .ok (.iload_n 1, 1) := by decide +kernel
theorem dL_planned_4 : decode cL_planned 4 = .ok (.iload_n 2, 1) := by decide +kernel
theorem dL_planned_5 : decode cL_planned 5 = .ok (.invokevirtual 32, 3) := by decide +kernel
theorem dL_planned_8 : decode cL_planned 8 = .ok (.i2l, 1) := by decide +kernel
theorem dL_planned_9 : decode cL_planned 9 = .ok (.lastore, 1) := by decide +kernel
theorem dL_planned_10 : decode cL_planned 10 = .ok (.goto 11, 3) := by decide +kernel
theorem dL_planned_13 : decode cL_planned 13 = .ok (.astore 4, 2) := by decide +kernel
theorem dL_planned_15 : decode cL_planned 15 = .ok (.iconst 1, 1) := by decide +kernel
theorem dL_planned_16 : decode cL_planned 16 = .ok (.ireturn, 1) := by decide +kernel
theorem dL_planned_17 : decode cL_planned 17 = .ok (.astore 4, 2) := by decide +kernel
theorem dL_planned_19 : decode cL_planned 19 = .ok (.iconst 2, 1) := by decide +kernel
theorem dL_planned_20 : decode cL_planned 20 = .ok (.ireturn, 1) := by decide +kernel
theorem dL_planned_21 : decode cL_planned 21 = .ok (.iconst 0, 1) := by decide +kernel
theorem dL_planned_22 : decode cL_planned 22 = .ok (.ireturn, 1) := by decide +kernel
theorem dL_measure_0 : decode cL_measure 0 = .ok (.aload_n 2, 1) := by decide +kernel
theorem dL_measure_1 : decode cL_measure 1 = .ok (.iconst 0, 1) := by decide +kernel
theorem dL_measure_2 : decode cL_measure 2 = .ok (.aload_n 0, 1) := by decide +kernel
theorem dL_measure_3 : decode cL_measure 3 = .ok (.iload_n 1, 1) := by decide +kernel
theorem dL_measure_4 : decode cL_measure 4 = .ok (.invokevirtual 35, 3) := by decide +kernel
theorem dL_measure_7 : decode cL_measure 7 = .ok (.i2l, 1) := by decide +kernel
theorem dL_measure_8 : decode cL_measure 8 = .ok (.lastore, 1) := by decide +kernel
theorem dL_measure_9 : decode cL_measure 9 = .ok (.goto 6, 3) := by decide +kernel
theorem dL_measure_12 : decode cL_measure 12 = .ok (.astore_n 3, 1) := by decide +kernel
theorem dL_measure_13 : decode cL_measure 13 = .ok (.iconst 1, 1) := by decide +kernel
theorem dL_measure_14 : decode cL_measure 14 = .ok (.ireturn, 1) := by decide +kernel
theorem dL_measure_15 : decode cL_measure 15 = .ok (.iconst 0, 1) := by decide +kernel
theorem dL_measure_16 : decode cL_measure 16 = .ok (.ireturn, 1) := by decide +kernel
theorem dL_forecast_0 : decode cL_forecast 0 = .ok (.aload_n 2, 1) := by decide +kernel
theorem dL_forecast_1 : decode cL_forecast 1 = .ok (.iconst 0, 1) := by decide +kernel
theorem dL_forecast_2 : decode cL_forecast 2 = .ok (.aload_n 0, 1) := by decide +kernel
theorem dL_forecast_3 : decode cL_forecast 3 = .ok (.iload_n 1, 1) := by decide +kernel
theorem dL_forecast_4 : decode cL_forecast 4 = .ok (.invokevirtual 38, 3) := by decide +kernel
theorem dL_forecast_7 : decode cL_forecast 7 = .ok (.i2l, 1) := by decide +kernel
theorem dL_forecast_8 : decode cL_forecast 8 = .ok (.lastore, 1) := by decide +kernel
theorem dL_forecast_9 : decode cL_forecast 9 = .ok (.goto 6, 3) := by decide +kernel
theorem dL_forecast_12 : decode cL_forecast 12 = .ok (.astore_n 3, 1) := by decide +kernel
theorem dL_forecast_13 : decode cL_forecast 13 = .ok (.iconst 1, 1) := by decide +kernel
theorem dL_forecast_14 : decode cL_forecast 14 = .ok (.ireturn, 1) := by decide +kernel
theorem dL_forecast_15 : decode cL_forecast 15 = .ok (.iconst 0, 1) := by decide +kernel
theorem dL_forecast_16 : decode cL_forecast 16 = .ok (.ireturn, 1) := by decide +kernel
theorem dL_wanted_0 : decode cL_wanted 0 = .ok (.aload_n 2, 1) := by decide +kernel
theorem dL_wanted_1 : decode cL_wanted 1 = .ok (.iconst 0, 1) := by decide +kernel
theorem dL_wanted_2 : decode cL_wanted 2 = .ok (.aload_n 0, 1) := by decide +kernel
theorem dL_wanted_3 : decode cL_wanted 3 = .ok (.iload_n 1, 1) := by decide +kernel
theorem dL_wanted_4 : decode cL_wanted 4 = .ok (.invokevirtual 41, 3) := by decide +kernel
theorem dL_wanted_7 : decode cL_wanted 7 = .ok (.i2l, 1) := by decide +kernel
theorem dL_wanted_8 : decode cL_wanted 8 = .ok (.lastore, 1) := by decide +kernel
theorem dL_wanted_9 : decode cL_wanted 9 = .ok (.goto 6, 3) := by decide +kernel
theorem dL_wanted_12 : decode cL_wanted 12 = .ok (.astore_n 3, 1) := by decide +kernel
theorem dL_wanted_13 : decode cL_wanted 13 = .ok (.iconst 1, 1) := by decide +kernel
theorem dL_wanted_14 : decode cL_wanted 14 = .ok (.ireturn, 1) := by decide +kernel
theorem dL_wanted_15 : decode cL_wanted 15 = .ok (.iconst 0, 1) := by decide +kernel
theorem dL_wanted_16 : decode cL_wanted 16 = .ok (.ireturn, 1) := by decide +kernel
theorem dL_meanError_0 : decode cL_meanError 0 = .ok (.aload_n 2, 1) := by decide +kernel
theorem dL_meanError_1 : decode cL_meanError 1 = .ok (.iconst 0, 1) := by decide +kernel
theorem dL_meanError_2 : decode cL_meanError 2 = .ok (.aload_n 0, 1) := by decide +kernel
theorem dL_meanError_3 : decode cL_meanError 3 = .ok (.iload_n 1, 1) := by decide +kernel
theorem dL_meanError_4 : decode cL_meanError 4 = .ok (.invokevirtual 44, 3) := by decide +kernel
theorem dL_meanError_7 : decode cL_meanError 7 = .ok (.dastore, 1) := by decide +kernel
theorem dL_meanError_8 : decode cL_meanError 8 = .ok (.goto 6, 3) := by decide +kernel
theorem dL_meanError_11 : decode cL_meanError 11 = .ok (.astore_n 3, 1) := by decide +kernel
theorem dL_meanError_12 : decode cL_meanError 12 = .ok (.iconst 1, 1) := by decide +kernel
theorem dL_meanError_13 : decode cL_meanError 13 = .ok (.ireturn, 1) := by decide +kernel
theorem dL_meanError_14 : decode cL_meanError 14 = .ok (.iconst 0, 1) := by decide +kernel
theorem dL_meanError_15 : decode cL_meanError 15 = .ok (.ireturn, 1) := by decide +kernel
theorem dL_nextDropped_0 : decode cL_nextDropped 0 = .ok (.aload_n 2, 1) := by decide +kernel
theorem dL_nextDropped_1 : decode cL_nextDropped 1 = .ok (.iconst 0, 1) := by decide +kernel
theorem dL_nextDropped_2 : decode cL_nextDropped 2 = .ok (.aload_n 0, 1) := by decide +kernel
theorem dL_nextDropped_3 : decode cL_nextDropped 3 = .ok (.iload_n 1, 1) := by decide +kernel
theorem dL_nextDropped_4 : decode cL_nextDropped 4 = .ok (.invokevirtual 48, 3) := by decide +kernel
theorem dL_nextDropped_7 : decode cL_nextDropped 7 = .ok (.i2l, 1) := by decide +kernel
theorem dL_nextDropped_8 : decode cL_nextDropped 8 = .ok (.lastore, 1) := by decide +kernel
theorem dL_nextDropped_9 : decode cL_nextDropped 9 = .ok (.goto 6, 3) := by decide +kernel
theorem dL_nextDropped_12 : decode cL_nextDropped 12 = .ok (.astore_n 3, 1) := by decide +kernel
theorem dL_nextDropped_13 : decode cL_nextDropped 13 = .ok (.iconst 1, 1) := by decide +kernel
theorem dL_nextDropped_14 : decode cL_nextDropped 14 = .ok (.ireturn, 1) := by decide +kernel
theorem dL_nextDropped_15 : decode cL_nextDropped 15 = .ok (.iconst 0, 1) := by decide +kernel
theorem dL_nextDropped_16 : decode cL_nextDropped 16 = .ok (.ireturn, 1) := by decide +kernel
theorem dL_coolLeft_0 : decode cL_coolLeft 0 = .ok (.aload_n 3, 1) := by decide +kernel
theorem dL_coolLeft_1 : decode cL_coolLeft 1 = .ok (.iconst 0, 1) := by decide +kernel
theorem dL_coolLeft_2 : decode cL_coolLeft 2 = .ok (.aload_n 0, 1) := by decide +kernel
theorem dL_coolLeft_3 : decode cL_coolLeft 3 = .ok (.iload_n 1, 1) := by decide +kernel
theorem dL_coolLeft_4 : decode cL_coolLeft 4 = .ok (.iload_n 2, 1) := by decide +kernel
theorem dL_coolLeft_5 : decode cL_coolLeft 5 = .ok (.invokevirtual 51, 3) := by decide +kernel
theorem dL_coolLeft_8 : decode cL_coolLeft 8 = .ok (.i2l, 1) := by decide +kernel
theorem dL_coolLeft_9 : decode cL_coolLeft 9 = .ok (.lastore, 1) := by decide +kernel
theorem dL_coolLeft_10 : decode cL_coolLeft 10 = .ok (.goto 7, 3) := by decide +kernel
theorem dL_coolLeft_13 : decode cL_coolLeft 13 = .ok (.astore 4, 2) := by decide +kernel
theorem dL_coolLeft_15 : decode cL_coolLeft 15 = .ok (.iconst 1, 1) := by decide +kernel
theorem dL_coolLeft_16 : decode cL_coolLeft 16 = .ok (.ireturn, 1) := by decide +kernel
theorem dL_coolLeft_17 : decode cL_coolLeft 17 = .ok (.iconst 0, 1) := by decide +kernel
theorem dL_coolLeft_18 : decode cL_coolLeft 18 = .ok (.ireturn, 1) := by decide +kernel
theorem dL_served_0 : decode cL_served 0 = .ok (.aload_n 2, 1) := by decide +kernel
theorem dL_served_1 : decode cL_served 1 = .ok (.iconst 0, 1) := by decide +kernel
theorem dL_served_2 : decode cL_served 2 = .ok (.aload_n 0, 1) := by decide +kernel
theorem dL_served_3 : decode cL_served 3 = .ok (.iload_n 1, 1) := by decide +kernel
theorem dL_served_4 : decode cL_served 4 = .ok (.invokevirtual 55, 3) := by decide +kernel
theorem dL_served_7 : decode cL_served 7 = .ok (.lastore, 1) := by decide +kernel
theorem dL_served_8 : decode cL_served 8 = .ok (.goto 6, 3) := by decide +kernel
theorem dL_served_11 : decode cL_served 11 = .ok (.astore_n 3, 1) := by decide +kernel
theorem dL_served_12 : decode cL_served 12 = .ok (.iconst 1, 1) := by decide +kernel
theorem dL_served_13 : decode cL_served 13 = .ok (.ireturn, 1) := by decide +kernel
theorem dL_served_14 : decode cL_served 14 = .ok (.iconst 0, 1) := by decide +kernel
theorem dL_served_15 : decode cL_served 15 = .ok (.ireturn, 1) := by decide +kernel
theorem dL_missed_0 : decode cL_missed 0 = .ok (.aload_n 2, 1) := by decide +kernel
theorem dL_missed_1 : decode cL_missed 1 = .ok (.iconst 0, 1) := by decide +kernel
theorem dL_missed_2 : decode cL_missed 2 = .ok (.aload_n 0, 1) := by decide +kernel
theorem dL_missed_3 : decode cL_missed 3 = .ok (.iload_n 1, 1) := by decide +kernel
theorem dL_missed_4 : decode cL_missed 4 = .ok (.invokevirtual 59, 3) := by decide +kernel
theorem dL_missed_7 : decode cL_missed 7 = .ok (.lastore, 1) := by decide +kernel
theorem dL_missed_8 : decode cL_missed 8 = .ok (.goto 6, 3) := by decide +kernel
theorem dL_missed_11 : decode cL_missed 11 = .ok (.astore_n 3, 1) := by decide +kernel
theorem dL_missed_12 : decode cL_missed 12 = .ok (.iconst 1, 1) := by decide +kernel
theorem dL_missed_13 : decode cL_missed 13 = .ok (.ireturn, 1) := by decide +kernel
theorem dL_missed_14 : decode cL_missed 14 = .ok (.iconst 0, 1) := by decide +kernel
theorem dL_missed_15 : decode cL_missed 15 = .ok (.ireturn, 1) := by decide +kernel
theorem dL_cost_0 : decode cL_cost 0 = .ok (.aload_n 2, 1) := by decide +kernel
theorem dL_cost_1 : decode cL_cost 1 = .ok (.iconst 0, 1) := by decide +kernel
theorem dL_cost_2 : decode cL_cost 2 = .ok (.aload_n 0, 1) := by decide +kernel
theorem dL_cost_3 : decode cL_cost 3 = .ok (.iload_n 1, 1) := by decide +kernel
theorem dL_cost_4 : decode cL_cost 4 = .ok (.invokevirtual 62, 3) := by decide +kernel
theorem dL_cost_7 : decode cL_cost 7 = .ok (.lastore, 1) := by decide +kernel
theorem dL_cost_8 : decode cL_cost 8 = .ok (.goto 6, 3) := by decide +kernel
theorem dL_cost_11 : decode cL_cost 11 = .ok (.astore_n 3, 1) := by decide +kernel
theorem dL_cost_12 : decode cL_cost 12 = .ok (.iconst 1, 1) := by decide +kernel
theorem dL_cost_13 : decode cL_cost 13 = .ok (.ireturn, 1) := by decide +kernel
theorem dL_cost_14 : decode cL_cost 14 = .ok (.iconst 0, 1) := by decide +kernel
theorem dL_cost_15 : decode cL_cost 15 = .ok (.ireturn, 1) := by decide +kernel
theorem dL_missedShare_0 : decode cL_missedShare 0 = .ok (.aload_n 2, 1) := by decide +kernel
theorem dL_missedShare_1 : decode cL_missedShare 1 = .ok (.iconst 0, 1) := by decide +kernel
theorem dL_missedShare_2 : decode cL_missedShare 2 = .ok (.aload_n 0, 1) := by decide +kernel
theorem dL_missedShare_3 : decode cL_missedShare 3 = .ok (.iload_n 1, 1) := by decide +kernel
theorem dL_missedShare_4 : decode cL_missedShare 4 = .ok (.invokevirtual 65, 3) := by decide +kernel
theorem dL_missedShare_7 : decode cL_missedShare 7 = .ok (.f2d, 1) := by decide +kernel
theorem dL_missedShare_8 : decode cL_missedShare 8 = .ok (.dastore, 1) := by decide +kernel
theorem dL_missedShare_9 : decode cL_missedShare 9 = .ok (.goto 6, 3) := by decide +kernel
theorem dL_missedShare_12 : decode cL_missedShare 12 = .ok (.astore_n 3, 1) := by decide +kernel
theorem dL_missedShare_13 : decode cL_missedShare 13 = .ok (.iconst 1, 1) := by decide +kernel
theorem dL_missedShare_14 : decode cL_missedShare 14 = .ok (.ireturn, 1) := by decide +kernel
theorem dL_missedShare_15 : decode cL_missedShare 15 = .ok (.iconst 0, 1) := by decide +kernel
theorem dL_missedShare_16 : decode cL_missedShare 16 = .ok (.ireturn, 1) := by decide +kernel
theorem dL_used_0 : decode cL_used 0 = .ok (.aload_n 2, 1) := by decide +kernel
theorem dL_used_1 : decode cL_used 1 = .ok (.iconst 0, 1) := by decide +kernel
theorem dL_used_2 : decode cL_used 2 = .ok (.aload_n 0, 1) := by decide +kernel
theorem dL_used_3 : decode cL_used 3 = .ok (.iload_n 1, 1) := by decide +kernel
theorem dL_used_4 : decode cL_used 4 = .ok (.invokevirtual 69, 3) := by decide +kernel
theorem dL_used_7 : decode cL_used 7 = .ok (.dastore, 1) := by decide +kernel
theorem dL_used_8 : decode cL_used 8 = .ok (.goto 6, 3) := by decide +kernel
theorem dL_used_11 : decode cL_used 11 = .ok (.astore_n 3, 1) := by decide +kernel
theorem dL_used_12 : decode cL_used 12 = .ok (.iconst 1, 1) := by decide +kernel
theorem dL_used_13 : decode cL_used 13 = .ok (.ireturn, 1) := by decide +kernel
theorem dL_used_14 : decode cL_used 14 = .ok (.iconst 0, 1) := by decide +kernel
theorem dL_used_15 : decode cL_used 15 = .ok (.ireturn, 1) := by decide +kernel
theorem dL_peak_0 : decode cL_peak 0 = .ok (.aload_n 2, 1) := by decide +kernel
theorem dL_peak_1 : decode cL_peak 1 = .ok (.iconst 0, 1) := by decide +kernel
theorem dL_peak_2 : decode cL_peak 2 = .ok (.aload_n 0, 1) := by decide +kernel
theorem dL_peak_3 : decode cL_peak 3 = .ok (.iload_n 1, 1) := by decide +kernel
theorem dL_peak_4 : decode cL_peak 4 = .ok (.invokevirtual 72, 3) := by decide +kernel
theorem dL_peak_7 : decode cL_peak 7 = .ok (.i2l, 1) := by decide +kernel
theorem dL_peak_8 : decode cL_peak 8 = .ok (.lastore, 1) := by decide +kernel
theorem dL_peak_9 : decode cL_peak 9 = .ok (.goto 6, 3) := by decide +kernel
theorem dL_peak_12 : decode cL_peak 12 = .ok (.astore_n 3, 1) := by decide +kernel
theorem dL_peak_13 : decode cL_peak 13 = .ok (.iconst 1, 1) := by decide +kernel
theorem dL_peak_14 : decode cL_peak 14 = .ok (.ireturn, 1) := by decide +kernel
theorem dL_peak_15 : decode cL_peak 15 = .ok (.iconst 0, 1) := by decide +kernel
theorem dL_peak_16 : decode cL_peak 16 = .ok (.ireturn, 1) := by decide +kernel
theorem dL_decisions_0 : decode cL_decisions 0 = .ok (.aload_n 3, 1) := by decide +kernel
theorem dL_decisions_1 : decode cL_decisions 1 = .ok (.iconst 0, 1) := by decide +kernel
theorem dL_decisions_2 : decode cL_decisions 2 = .ok (.aload_n 0, 1) := by decide +kernel
theorem dL_decisions_3 : decode cL_decisions 3 = .ok (.iload_n 1, 1) := by decide +kernel
theorem dL_decisions_4 : decode cL_decisions 4 = .ok (.iload_n 2, 1) := by decide +kernel
theorem dL_decisions_5 : decode cL_decisions 5 = .ok (.invokevirtual 75, 3) := by decide +kernel
theorem dL_decisions_8 : decode cL_decisions 8 = .ok (.i2l, 1) := by decide +kernel
theorem dL_decisions_9 : decode cL_decisions 9 = .ok (.lastore, 1) := by decide +kernel
theorem dL_decisions_10 : decode cL_decisions 10 = .ok (.goto 11, 3) := by decide +kernel
theorem dL_decisions_13 : decode cL_decisions 13 = .ok (.astore 4, 2) := by decide +kernel
theorem dL_decisions_15 : decode cL_decisions 15 = .ok (.iconst 1, 1) := by decide +kernel
theorem dL_decisions_16 : decode cL_decisions 16 = .ok (.ireturn, 1) := by decide +kernel
theorem dL_decisions_17 : decode cL_decisions 17 = .ok (.astore 4, 2) := by decide +kernel
theorem dL_decisions_19 : decode cL_decisions 19 = .ok (.iconst 2, 1) := by decide +kernel
theorem dL_decisions_20 : decode cL_decisions 20 = .ok (.ireturn, 1) := by decide +kernel
theorem dL_decisions_21 : decode cL_decisions 21 = .ok (.iconst 0, 1) := by decide +kernel
theorem dL_decisions_22 : decode cL_decisions 22 = .ok (.ireturn, 1) := by decide +kernel
theorem dL_event_0 : decode cL_event 0 = .ok (.aload_n 3, 1) := by decide +kernel
theorem dL_event_1 : decode cL_event 1 = .ok (.iconst 0, 1) := by decide +kernel
theorem dL_event_2 : decode cL_event 2 = .ok (.aload_n 0, 1) := by decide +kernel
theorem dL_event_3 : decode cL_event 3 = .ok (.iload_n 1, 1) := by decide +kernel
theorem dL_event_4 : decode cL_event 4 = .ok (.iload_n 2, 1) := by decide +kernel
theorem dL_event_5 : decode cL_event 5 = .ok (.invokevirtual 78, 3) := by decide +kernel
theorem dL_event_8 : decode cL_event 8 = .ok (.i2l, 1) := by decide +kernel
theorem dL_event_9 : decode cL_event 9 = .ok (.lastore, 1) := by decide +kernel
theorem dL_event_10 : decode cL_event 10 = .ok (.goto 11, 3) := by decide +kernel
theorem dL_event_13 : decode cL_event 13 = .ok (.astore 4, 2) := by decide +kernel
theorem dL_event_15 : decode cL_event 15 = .ok (.iconst 1, 1) := by decide +kernel
theorem dL_event_16 : decode cL_event 16 = .ok (.ireturn, 1) := by decide +kernel
theorem dL_event_17 : decode cL_event 17 = .ok (.astore 4, 2) := by decide +kernel
theorem dL_event_19 : decode cL_event 19 = .ok (.iconst 2, 1) := by decide +kernel
theorem dL_event_20 : decode cL_event 20 = .ok (.ireturn, 1) := by decide +kernel
theorem dL_event_21 : decode cL_event 21 = .ok (.iconst 0, 1) := by decide +kernel
theorem dL_event_22 : decode cL_event 22 = .ok (.ireturn, 1) := by decide +kernel
theorem dL_run_0 : decode cL_run 0 = .ok (.aload_n 2, 1) := by decide +kernel
theorem dL_run_1 : decode cL_run 1 = .ok (.iconst 0, 1) := by decide +kernel
theorem dL_run_2 : decode cL_run 2 = .ok (.aload_n 0, 1) := by decide +kernel
theorem dL_run_3 : decode cL_run 3 = .ok (.iload_n 1, 1) := by decide +kernel
theorem dL_run_4 : decode cL_run 4 = .ok (.invokevirtual 81, 3) := by decide +kernel
theorem dL_run_7 : decode cL_run 7 = .ok (.i2l, 1) := by decide +kernel
theorem dL_run_8 : decode cL_run 8 = .ok (.lastore, 1) := by decide +kernel
theorem dL_run_9 : decode cL_run 9 = .ok (.goto 6, 3) := by decide +kernel
theorem dL_run_12 : decode cL_run 12 = .ok (.astore_n 3, 1) := by decide +kernel
theorem dL_run_13 : decode cL_run 13 = .ok (.iconst 1, 1) := by decide +kernel
theorem dL_run_14 : decode cL_run 14 = .ok (.ireturn, 1) := by decide +kernel
theorem dL_run_15 : decode cL_run 15 = .ok (.iconst 0, 1) := by decide +kernel
theorem dL_run_16 : decode cL_run 16 = .ok (.ireturn, 1) := by decide +kernel
theorem dL_push_0 : decode cL_push 0 = .ok (.aload_n 3, 1) := by decide +kernel
theorem dL_push_1 : decode cL_push 1 = .ok (.iconst 0, 1) := by decide +kernel
theorem dL_push_2 : decode cL_push 2 = .ok (.aload_n 0, 1) := by decide +kernel
theorem dL_push_3 : decode cL_push 3 = .ok (.iload_n 1, 1) := by decide +kernel
theorem dL_push_4 : decode cL_push 4 = .ok (.iload_n 2, 1) := by decide +kernel
theorem dL_push_5 : decode cL_push 5 = .ok (.invokevirtual 84, 3) := by decide +kernel
theorem dL_push_8 : decode cL_push 8 = .ok (.i2l, 1) := by decide +kernel
theorem dL_push_9 : decode cL_push 9 = .ok (.lastore, 1) := by decide +kernel
theorem dL_push_10 : decode cL_push 10 = .ok (.goto 11, 3) := by decide +kernel
theorem dL_push_13 : decode cL_push 13 = .ok (.astore 4, 2) := by decide +kernel
theorem dL_push_15 : decode cL_push 15 = .ok (.iconst 1, 1) := by decide +kernel
theorem dL_push_16 : decode cL_push 16 = .ok (.ireturn, 1) := by decide +kernel
theorem dL_push_17 : decode cL_push 17 = .ok (.astore 4, 2) := by decide +kernel
theorem dL_push_19 : decode cL_push 19 = .ok (.iconst 2, 1) := by decide +kernel
theorem dL_push_20 : decode cL_push 20 = .ok (.ireturn, 1) := by decide +kernel
theorem dL_push_21 : decode cL_push 21 = .ok (.iconst 0, 1) := by decide +kernel
theorem dL_push_22 : decode cL_push 22 = .ok (.ireturn, 1) := by decide +kernel
theorem dL_protect_0 : decode cL_protect 0 = .ok (.aload_n 3, 1) := by decide +kernel
theorem dL_protect_1 : decode cL_protect 1 = .ok (.iconst 0, 1) := by decide +kernel
theorem dL_protect_2 : decode cL_protect 2 = .ok (.aload_n 0, 1) := by decide +kernel
theorem dL_protect_3 : decode cL_protect 3 = .ok (.iload_n 1, 1) := by decide +kernel
theorem dL_protect_4 : decode cL_protect 4 = .ok (.iload_n 2, 1) := by decide +kernel
theorem dL_protect_5 : decode cL_protect 5 = .ok (.invokevirtual 87, 3) := by decide +kernel
theorem dL_protect_8 : decode cL_protect 8 = .ok (.ifCond .eq 7, 3) := by decide +kernel
theorem dL_protect_11 : decode cL_protect 11 = .ok (.lconst 1, 1) := by decide +kernel
theorem dL_protect_12 : decode cL_protect 12 = .ok (.goto 4, 3) := by decide +kernel
theorem dL_protect_15 : decode cL_protect 15 = .ok (.lconst 0, 1) := by decide +kernel
theorem dL_protect_16 : decode cL_protect 16 = .ok (.lastore, 1) := by decide +kernel
theorem dL_protect_17 : decode cL_protect 17 = .ok (.goto 7, 3) := by decide +kernel
theorem dL_protect_20 : decode cL_protect 20 = .ok (.astore 4, 2) := by decide +kernel
theorem dL_protect_22 : decode cL_protect 22 = .ok (.iconst 1, 1) := by decide +kernel
theorem dL_protect_23 : decode cL_protect 23 = .ok (.ireturn, 1) := by decide +kernel
theorem dL_protect_24 : decode cL_protect 24 = .ok (.iconst 0, 1) := by decide +kernel
theorem dL_protect_25 : decode cL_protect 25 = .ok (.ireturn, 1) := by decide +kernel
theorem dL_grow_0 : decode cL_grow 0 = .ok (.aload_n 3, 1) := by decide +kernel
theorem dL_grow_1 : decode cL_grow 1 = .ok (.iconst 0, 1) := by decide +kernel
theorem dL_grow_2 : decode cL_grow 2 = .ok (.aload_n 0, 1) := by decide +kernel
theorem dL_grow_3 : decode cL_grow 3 = .ok (.iload_n 1, 1) := by decide +kernel
theorem dL_grow_4 : decode cL_grow 4 = .ok (.iload_n 2, 1) := by decide +kernel
theorem dL_grow_5 : decode cL_grow 5 = .ok (.invokevirtual 91, 3) := by decide +kernel
theorem dL_grow_8 : decode cL_grow 8 = .ok (.i2l, 1) := by decide +kernel
theorem dL_grow_9 : decode cL_grow 9 = .ok (.lastore, 1) := by decide +kernel
theorem dL_grow_10 : decode cL_grow 10 = .ok (.goto 15, 3) := by decide +kernel
theorem dL_grow_13 : decode cL_grow 13 = .ok (.astore 4, 2) := by decide +kernel
theorem dL_grow_15 : decode cL_grow 15 = .ok (.iconst 1, 1) := by decide +kernel
theorem dL_grow_16 : decode cL_grow 16 = .ok (.ireturn, 1) := by decide +kernel
theorem dL_grow_17 : decode cL_grow 17 = .ok (.astore 4, 2) := by decide +kernel
theorem dL_grow_19 : decode cL_grow 19 = .ok (.iconst 2, 1) := by decide +kernel
theorem dL_grow_20 : decode cL_grow 20 = .ok (.ireturn, 1) := by decide +kernel
theorem dL_grow_21 : decode cL_grow 21 = .ok (.astore 4, 2) := by decide +kernel
theorem dL_grow_23 : decode cL_grow 23 = .ok (.iconst 3, 1) := by decide +kernel
theorem dL_grow_24 : decode cL_grow 24 = .ok (.ireturn, 1) := by decide +kernel
theorem dL_grow_25 : decode cL_grow 25 = .ok (.iconst 0, 1) := by decide +kernel
theorem dL_grow_26 : decode cL_grow 26 = .ok (.ireturn, 1) := by decide +kernel
theorem dL_drop_0 : decode cL_drop 0 = .ok (.aload_n 2, 1) := by decide +kernel
theorem dL_drop_1 : decode cL_drop 1 = .ok (.iconst 0, 1) := by decide +kernel
theorem dL_drop_2 : decode cL_drop 2 = .ok (.aload_n 0, 1) := by decide +kernel
theorem dL_drop_3 : decode cL_drop 3 = .ok (.iload_n 1, 1) := by decide +kernel
theorem dL_drop_4 : decode cL_drop 4 = .ok (.invokevirtual 96, 3) := by decide +kernel
theorem dL_drop_7 : decode cL_drop 7 = .ok (.i2l, 1) := by decide +kernel
theorem dL_drop_8 : decode cL_drop 8 = .ok (.lastore, 1) := by decide +kernel
theorem dL_drop_9 : decode cL_drop 9 = .ok (.goto 9, 3) := by decide +kernel
theorem dL_drop_12 : decode cL_drop 12 = .ok (.astore_n 3, 1) := by decide +kernel
theorem dL_drop_13 : decode cL_drop 13 = .ok (.iconst 1, 1) := by decide +kernel
theorem dL_drop_14 : decode cL_drop 14 = .ok (.ireturn, 1) := by decide +kernel
theorem dL_drop_15 : decode cL_drop 15 = .ok (.astore_n 3, 1) := by decide +kernel
theorem dL_drop_16 : decode cL_drop 16 = .ok (.iconst 2, 1) := by decide +kernel
theorem dL_drop_17 : decode cL_drop 17 = .ok (.ireturn, 1) := by decide +kernel
theorem dL_drop_18 : decode cL_drop 18 = .ok (.iconst 0, 1) := by decide +kernel
theorem dL_drop_19 : decode cL_drop 19 = .ok (.ireturn, 1) := by decide +kernel
theorem dL_pause_0 : decode cL_pause 0 = .ok (.aload_n 3, 1) := by decide +kernel
theorem dL_pause_1 : decode cL_pause 1 = .ok (.iconst 0, 1) := by decide +kernel
theorem dL_pause_2 : decode cL_pause 2 = .ok (.aload_n 0, 1) := by decide +kernel
theorem dL_pause_3 : decode cL_pause 3 = .ok (.iload_n 1, 1) := by decide +kernel
theorem dL_pause_4 : decode cL_pause 4 = .ok (.iload_n 2, 1) := by decide +kernel
theorem dL_pause_5 : decode cL_pause 5 = .ok (.invokevirtual 99, 3) := by decide +kernel
theorem dL_pause_8 : decode cL_pause 8 = .ok (.ifCond .eq 7, 3) := by decide +kernel
theorem dL_pause_11 : decode cL_pause 11 = .ok (.lconst 1, 1) := by decide +kernel
theorem dL_pause_12 : decode cL_pause 12 = .ok (.goto 4, 3) := by decide +kernel
theorem dL_pause_15 : decode cL_pause 15 = .ok (.lconst 0, 1) := by decide +kernel
theorem dL_pause_16 : decode cL_pause 16 = .ok (.lastore, 1) := by decide +kernel
theorem dL_pause_17 : decode cL_pause 17 = .ok (.goto 7, 3) := by decide +kernel
theorem dL_pause_20 : decode cL_pause 20 = .ok (.astore 4, 2) := by decide +kernel
theorem dL_pause_22 : decode cL_pause 22 = .ok (.iconst 1, 1) := by decide +kernel
theorem dL_pause_23 : decode cL_pause 23 = .ok (.ireturn, 1) := by decide +kernel
theorem dL_pause_24 : decode cL_pause 24 = .ok (.iconst 0, 1) := by decide +kernel
theorem dL_pause_25 : decode cL_pause 25 = .ok (.ireturn, 1) := by decide +kernel
theorem dL_setPolicy_0 : decode cL_setPolicy 0 = .ok (.aload 4, 2) := by decide +kernel
theorem dL_setPolicy_2 : decode cL_setPolicy 2 = .ok (.iconst 0, 1) := by decide +kernel
theorem dL_setPolicy_3 : decode cL_setPolicy 3 = .ok (.aload_n 0, 1) := by decide +kernel
theorem dL_setPolicy_4 : decode cL_setPolicy 4 = .ok (.iload_n 1, 1) := by decide +kernel
theorem dL_setPolicy_5 : decode cL_setPolicy 5 = .ok (.iload_n 2, 1) := by decide +kernel
theorem dL_setPolicy_6 : decode cL_setPolicy 6 = .ok (.iload_n 3, 1) := by decide +kernel
theorem dL_setPolicy_7 : decode cL_setPolicy 7 = .ok (.invokevirtual 102, 3) := by decide +kernel
theorem dL_setPolicy_10 : decode cL_setPolicy 10 = .ok (.i2l, 1) := by decide +kernel
theorem dL_setPolicy_11 : decode cL_setPolicy 11 = .ok (.lastore, 1) := by decide +kernel
theorem dL_setPolicy_12 : decode cL_setPolicy 12 = .ok (.goto 11, 3) := by decide +kernel
theorem dL_setPolicy_15 : decode cL_setPolicy 15 = .ok (.astore 5, 2) := by decide +kernel
theorem dL_setPolicy_17 : decode cL_setPolicy 17 = .ok (.iconst 1, 1) := by decide +kernel
theorem dL_setPolicy_18 : decode cL_setPolicy 18 = .ok (.ireturn, 1) := by decide +kernel
theorem dL_setPolicy_19 : decode cL_setPolicy 19 = .ok (.astore 5, 2) := by decide +kernel
theorem dL_setPolicy_21 : decode cL_setPolicy 21 = .ok (.iconst 2, 1) := by decide +kernel
theorem dL_setPolicy_22 : decode cL_setPolicy 22 = .ok (.ireturn, 1) := by decide +kernel
theorem dL_setPolicy_23 : decode cL_setPolicy 23 = .ok (.iconst 0, 1) := by decide +kernel
theorem dL_setPolicy_24 : decode cL_setPolicy 24 = .ok (.ireturn, 1) := by decide +kernel
theorem dL_setTarget_0 : decode cL_setTarget 0 = .ok (.aload_n 3, 1) := by decide +kernel
theorem dL_setTarget_1 : decode cL_setTarget 1 = .ok (.iconst 0, 1) := by decide +kernel
theorem dL_setTarget_2 : decode cL_setTarget 2 = .ok (.aload_n 0, 1) := by decide +kernel
theorem dL_setTarget_3 : decode cL_setTarget 3 = .ok (.iload_n 1, 1) := by decide +kernel
theorem dL_setTarget_4 : decode cL_setTarget 4 = .ok (.iload_n 2, 1) := by decide +kernel
theorem dL_setTarget_5 : decode cL_setTarget 5 = .ok (.invokevirtual 106, 3) := by decide +kernel
theorem dL_setTarget_8 : decode cL_setTarget 8 = .ok (.i2l, 1) := by decide +kernel
theorem dL_setTarget_9 : decode cL_setTarget 9 = .ok (.lastore, 1) := by decide +kernel
theorem dL_setTarget_10 : decode cL_setTarget 10 = .ok (.goto 11, 3) := by decide +kernel
theorem dL_setTarget_13 : decode cL_setTarget 13 = .ok (.astore 4, 2) := by decide +kernel
theorem dL_setTarget_15 : decode cL_setTarget 15 = .ok (.iconst 1, 1) := by decide +kernel
theorem dL_setTarget_16 : decode cL_setTarget 16 = .ok (.ireturn, 1) := by decide +kernel
theorem dL_setTarget_17 : decode cL_setTarget 17 = .ok (.astore 4, 2) := by decide +kernel
theorem dL_setTarget_19 : decode cL_setTarget 19 = .ok (.iconst 2, 1) := by decide +kernel
theorem dL_setTarget_20 : decode cL_setTarget 20 = .ok (.ireturn, 1) := by decide +kernel
theorem dL_setTarget_21 : decode cL_setTarget 21 = .ok (.iconst 0, 1) := by decide +kernel
theorem dL_setTarget_22 : decode cL_setTarget 22 = .ok (.ireturn, 1) := by decide +kernel
theorem dL_setCool_0 : decode cL_setCool 0 = .ok (.aload 4, 2) := by decide +kernel
theorem dL_setCool_2 : decode cL_setCool 2 = .ok (.iconst 0, 1) := by decide +kernel
theorem dL_setCool_3 : decode cL_setCool 3 = .ok (.aload_n 0, 1) := by decide +kernel
theorem dL_setCool_4 : decode cL_setCool 4 = .ok (.iload_n 1, 1) := by decide +kernel
theorem dL_setCool_5 : decode cL_setCool 5 = .ok (.iload_n 2, 1) := by decide +kernel
theorem dL_setCool_6 : decode cL_setCool 6 = .ok (.iload_n 3, 1) := by decide +kernel
theorem dL_setCool_7 : decode cL_setCool 7 = .ok (.invokevirtual 109, 3) := by decide +kernel
theorem dL_setCool_10 : decode cL_setCool 10 = .ok (.i2l, 1) := by decide +kernel
theorem dL_setCool_11 : decode cL_setCool 11 = .ok (.lastore, 1) := by decide +kernel
theorem dL_setCool_12 : decode cL_setCool 12 = .ok (.goto 11, 3) := by decide +kernel
theorem dL_setCool_15 : decode cL_setCool 15 = .ok (.astore 5, 2) := by decide +kernel
theorem dL_setCool_17 : decode cL_setCool 17 = .ok (.iconst 1, 1) := by decide +kernel
theorem dL_setCool_18 : decode cL_setCool 18 = .ok (.ireturn, 1) := by decide +kernel
theorem dL_setCool_19 : decode cL_setCool 19 = .ok (.astore 5, 2) := by decide +kernel
theorem dL_setCool_21 : decode cL_setCool 21 = .ok (.iconst 2, 1) := by decide +kernel
theorem dL_setCool_22 : decode cL_setCool 22 = .ok (.ireturn, 1) := by decide +kernel
theorem dL_setCool_23 : decode cL_setCool 23 = .ok (.iconst 0, 1) := by decide +kernel
theorem dL_setCool_24 : decode cL_setCool 24 = .ok (.ireturn, 1) := by decide +kernel
theorem dL_setBounds_0 : decode cL_setBounds 0 = .ok (.aload 4, 2) := by decide +kernel
theorem dL_setBounds_2 : decode cL_setBounds 2 = .ok (.iconst 0, 1) := by decide +kernel
theorem dL_setBounds_3 : decode cL_setBounds 3 = .ok (.aload_n 0, 1) := by decide +kernel
theorem dL_setBounds_4 : decode cL_setBounds 4 = .ok (.iload_n 1, 1) := by decide +kernel
theorem dL_setBounds_5 : decode cL_setBounds 5 = .ok (.iload_n 2, 1) := by decide +kernel
theorem dL_setBounds_6 : decode cL_setBounds 6 = .ok (.iload_n 3, 1) := by decide +kernel
theorem dL_setBounds_7 : decode cL_setBounds 7 = .ok (.invokevirtual 112, 3) := by decide +kernel
theorem dL_setBounds_10 : decode cL_setBounds 10 = .ok (.i2l, 1) := by decide +kernel
theorem dL_setBounds_11 : decode cL_setBounds 11 = .ok (.lastore, 1) := by decide +kernel
theorem dL_setBounds_12 : decode cL_setBounds 12 = .ok (.goto 11, 3) := by decide +kernel
theorem dL_setBounds_15 : decode cL_setBounds 15 = .ok (.astore 5, 2) := by decide +kernel
theorem dL_setBounds_17 : decode cL_setBounds 17 = .ok (.iconst 1, 1) := by decide +kernel
theorem dL_setBounds_18 : decode cL_setBounds 18 = .ok (.ireturn, 1) := by decide +kernel
theorem dL_setBounds_19 : decode cL_setBounds 19 = .ok (.astore 5, 2) := by decide +kernel
theorem dL_setBounds_21 : decode cL_setBounds 21 = .ok (.iconst 2, 1) := by decide +kernel
theorem dL_setBounds_22 : decode cL_setBounds 22 = .ok (.ireturn, 1) := by decide +kernel
theorem dL_setBounds_23 : decode cL_setBounds 23 = .ok (.iconst 0, 1) := by decide +kernel
theorem dL_setBounds_24 : decode cL_setBounds 24 = .ok (.ireturn, 1) := by decide +kernel
theorem dL_sizeIn_0 : decode cL_sizeIn 0 = .ok (.aload_n 3, 1) := by decide +kernel
theorem dL_sizeIn_1 : decode cL_sizeIn 1 = .ok (.iconst 0, 1) := by decide +kernel
theorem dL_sizeIn_2 : decode cL_sizeIn 2 = .ok (.aload_n 0, 1) := by decide +kernel
theorem dL_sizeIn_3 : decode cL_sizeIn 3 = .ok (.iload_n 1, 1) := by decide +kernel
theorem dL_sizeIn_4 : decode cL_sizeIn 4 = .ok (.iload_n 2, 1) := by decide +kernel
theorem dL_sizeIn_5 : decode cL_sizeIn 5 = .ok (.invokevirtual 115, 3) := by decide +kernel
theorem dL_sizeIn_8 : decode cL_sizeIn 8 = .ok (.i2l, 1) := by decide +kernel
theorem dL_sizeIn_9 : decode cL_sizeIn 9 = .ok (.lastore, 1) := by decide +kernel
theorem dL_sizeIn_10 : decode cL_sizeIn 10 = .ok (.goto 11, 3) := by decide +kernel
theorem dL_sizeIn_13 : decode cL_sizeIn 13 = .ok (.astore 4, 2) := by decide +kernel
theorem dL_sizeIn_15 : decode cL_sizeIn 15 = .ok (.iconst 1, 1) := by decide +kernel
theorem dL_sizeIn_16 : decode cL_sizeIn 16 = .ok (.ireturn, 1) := by decide +kernel
theorem dL_sizeIn_17 : decode cL_sizeIn 17 = .ok (.astore 4, 2) := by decide +kernel
theorem dL_sizeIn_19 : decode cL_sizeIn 19 = .ok (.iconst 2, 1) := by decide +kernel
theorem dL_sizeIn_20 : decode cL_sizeIn 20 = .ok (.ireturn, 1) := by decide +kernel
theorem dL_sizeIn_21 : decode cL_sizeIn 21 = .ok (.iconst 0, 1) := by decide +kernel
theorem dL_sizeIn_22 : decode cL_sizeIn 22 = .ok (.ireturn, 1) := by decide +kernel
theorem dL_missedIn_0 : decode cL_missedIn 0 = .ok (.aload_n 3, 1) := by decide +kernel
theorem dL_missedIn_1 : decode cL_missedIn 1 = .ok (.iconst 0, 1) := by decide +kernel
theorem dL_missedIn_2 : decode cL_missedIn 2 = .ok (.aload_n 0, 1) := by decide +kernel
theorem dL_missedIn_3 : decode cL_missedIn 3 = .ok (.iload_n 1, 1) := by decide +kernel
theorem dL_missedIn_4 : decode cL_missedIn 4 = .ok (.iload_n 2, 1) := by decide +kernel
theorem dL_missedIn_5 : decode cL_missedIn 5 = .ok (.invokevirtual 118, 3) := by decide +kernel
theorem dL_missedIn_8 : decode cL_missedIn 8 = .ok (.lastore, 1) := by decide +kernel
theorem dL_missedIn_9 : decode cL_missedIn 9 = .ok (.goto 11, 3) := by decide +kernel
theorem dL_missedIn_12 : decode cL_missedIn 12 = .ok (.astore 4, 2) := by decide +kernel
theorem dL_missedIn_14 : decode cL_missedIn 14 = .ok (.iconst 1, 1) := by decide +kernel
theorem dL_missedIn_15 : decode cL_missedIn 15 = .ok (.ireturn, 1) := by decide +kernel
theorem dL_missedIn_16 : decode cL_missedIn 16 = .ok (.astore 4, 2) := by decide +kernel
theorem dL_missedIn_18 : decode cL_missedIn 18 = .ok (.iconst 2, 1) := by decide +kernel
theorem dL_missedIn_19 : decode cL_missedIn 19 = .ok (.ireturn, 1) := by decide +kernel
theorem dL_missedIn_20 : decode cL_missedIn 20 = .ok (.iconst 0, 1) := by decide +kernel
theorem dL_missedIn_21 : decode cL_missedIn 21 = .ok (.ireturn, 1) := by decide +kernel
theorem dL_costIn_0 : decode cL_costIn 0 = .ok (.aload_n 3, 1) := by decide +kernel
theorem dL_costIn_1 : decode cL_costIn 1 = .ok (.iconst 0, 1) := by decide +kernel
theorem dL_costIn_2 : decode cL_costIn 2 = .ok (.aload_n 0, 1) := by decide +kernel
theorem dL_costIn_3 : decode cL_costIn 3 = .ok (.iload_n 1, 1) := by decide +kernel
theorem dL_costIn_4 : decode cL_costIn 4 = .ok (.iload_n 2, 1) := by decide +kernel
theorem dL_costIn_5 : decode cL_costIn 5 = .ok (.invokevirtual 122, 3) := by decide +kernel
theorem dL_costIn_8 : decode cL_costIn 8 = .ok (.lastore, 1) := by decide +kernel
theorem dL_costIn_9 : decode cL_costIn 9 = .ok (.goto 11, 3) := by decide +kernel
theorem dL_costIn_12 : decode cL_costIn 12 = .ok (.astore 4, 2) := by decide +kernel
theorem dL_costIn_14 : decode cL_costIn 14 = .ok (.iconst 1, 1) := by decide +kernel
theorem dL_costIn_15 : decode cL_costIn 15 = .ok (.ireturn, 1) := by decide +kernel
theorem dL_costIn_16 : decode cL_costIn 16 = .ok (.astore 4, 2) := by decide +kernel
theorem dL_costIn_18 : decode cL_costIn 18 = .ok (.iconst 2, 1) := by decide +kernel
theorem dL_costIn_19 : decode cL_costIn 19 = .ok (.ireturn, 1) := by decide +kernel
theorem dL_costIn_20 : decode cL_costIn 20 = .ok (.iconst 0, 1) := by decide +kernel
theorem dL_costIn_21 : decode cL_costIn 21 = .ok (.ireturn, 1) := by decide +kernel
theorem dL_missesIn_0 : decode cL_missesIn 0 = .ok (.aload_n 3, 1) := by decide +kernel
theorem dL_missesIn_1 : decode cL_missesIn 1 = .ok (.iconst 0, 1) := by decide +kernel
theorem dL_missesIn_2 : decode cL_missesIn 2 = .ok (.aload_n 0, 1) := by decide +kernel
theorem dL_missesIn_3 : decode cL_missesIn 3 = .ok (.iload_n 1, 1) := by decide +kernel
theorem dL_missesIn_4 : decode cL_missesIn 4 = .ok (.iload_n 2, 1) := by decide +kernel
theorem dL_missesIn_5 : decode cL_missesIn 5 = .ok (.invokevirtual 125, 3) := by decide +kernel
theorem dL_missesIn_8 : decode cL_missesIn 8 = .ok (.i2l, 1) := by decide +kernel
theorem dL_missesIn_9 : decode cL_missesIn 9 = .ok (.lastore, 1) := by decide +kernel
theorem dL_missesIn_10 : decode cL_missesIn 10 = .ok (.goto 11, 3) := by decide +kernel
theorem dL_missesIn_13 : decode cL_missesIn 13 = .ok (.astore 4, 2) := by decide +kernel
theorem dL_missesIn_15 : decode cL_missesIn 15 = .ok (.iconst 1, 1) := by decide +kernel
theorem dL_missesIn_16 : decode cL_missesIn 16 = .ok (.ireturn, 1) := by decide +kernel
theorem dL_missesIn_17 : decode cL_missesIn 17 = .ok (.astore 4, 2) := by decide +kernel
theorem dL_missesIn_19 : decode cL_missesIn 19 = .ok (.iconst 2, 1) := by decide +kernel
theorem dL_missesIn_20 : decode cL_missesIn 20 = .ok (.ireturn, 1) := by decide +kernel
theorem dL_missesIn_21 : decode cL_missesIn 21 = .ok (.iconst 0, 1) := by decide +kernel
theorem dL_missesIn_22 : decode cL_missesIn 22 = .ok (.ireturn, 1) := by decide +kernel
theorem dL_bestPolicy_0 : decode cL_bestPolicy 0 = .ok (.aload_n 3, 1) := by decide +kernel
theorem dL_bestPolicy_1 : decode cL_bestPolicy 1 = .ok (.iconst 0, 1) := by decide +kernel
theorem dL_bestPolicy_2 : decode cL_bestPolicy 2 = .ok (.aload_n 0, 1) := by decide +kernel
theorem dL_bestPolicy_3 : decode cL_bestPolicy 3 = .ok (.iload_n 1, 1) := by decide +kernel
theorem dL_bestPolicy_4 : decode cL_bestPolicy 4 = .ok (.iload_n 2, 1) := by decide +kernel
theorem dL_bestPolicy_5 : decode cL_bestPolicy 5 = .ok (.invokevirtual 128, 3) := by decide +kernel
theorem dL_bestPolicy_8 : decode cL_bestPolicy 8 = .ok (.i2l, 1) := by decide +kernel
theorem dL_bestPolicy_9 : decode cL_bestPolicy 9 = .ok (.lastore, 1) := by decide +kernel
theorem dL_bestPolicy_10 : decode cL_bestPolicy 10 = .ok (.goto 11, 3) := by decide +kernel
theorem dL_bestPolicy_13 : decode cL_bestPolicy 13 = .ok (.astore 4, 2) := by decide +kernel
theorem dL_bestPolicy_15 : decode cL_bestPolicy 15 = .ok (.iconst 1, 1) := by decide +kernel
theorem dL_bestPolicy_16 : decode cL_bestPolicy 16 = .ok (.ireturn, 1) := by decide +kernel
theorem dL_bestPolicy_17 : decode cL_bestPolicy 17 = .ok (.astore 4, 2) := by decide +kernel
theorem dL_bestPolicy_19 : decode cL_bestPolicy 19 = .ok (.iconst 2, 1) := by decide +kernel
theorem dL_bestPolicy_20 : decode cL_bestPolicy 20 = .ok (.ireturn, 1) := by decide +kernel
theorem dL_bestPolicy_21 : decode cL_bestPolicy 21 = .ok (.iconst 0, 1) := by decide +kernel
theorem dL_bestPolicy_22 : decode cL_bestPolicy 22 = .ok (.ireturn, 1) := by decide +kernel
theorem dL_bestTarget_0 : decode cL_bestTarget 0 = .ok (.aload_n 3, 1) := by decide +kernel
theorem dL_bestTarget_1 : decode cL_bestTarget 1 = .ok (.iconst 0, 1) := by decide +kernel
theorem dL_bestTarget_2 : decode cL_bestTarget 2 = .ok (.aload_n 0, 1) := by decide +kernel
theorem dL_bestTarget_3 : decode cL_bestTarget 3 = .ok (.iload_n 1, 1) := by decide +kernel
theorem dL_bestTarget_4 : decode cL_bestTarget 4 = .ok (.iload_n 2, 1) := by decide +kernel
theorem dL_bestTarget_5 : decode cL_bestTarget 5 = .ok (.invokevirtual 131, 3) := by decide +kernel
theorem dL_bestTarget_8 : decode cL_bestTarget 8 = .ok (.i2l, 1) := by decide +kernel
theorem dL_bestTarget_9 : decode cL_bestTarget 9 = .ok (.lastore, 1) := by decide +kernel
theorem dL_bestTarget_10 : decode cL_bestTarget 10 = .ok (.goto 11, 3) := by decide +kernel
theorem dL_bestTarget_13 : decode cL_bestTarget 13 = .ok (.astore 4, 2) := by decide +kernel
theorem dL_bestTarget_15 : decode cL_bestTarget 15 = .ok (.iconst 1, 1) := by decide +kernel
theorem dL_bestTarget_16 : decode cL_bestTarget 16 = .ok (.ireturn, 1) := by decide +kernel
theorem dL_bestTarget_17 : decode cL_bestTarget 17 = .ok (.astore 4, 2) := by decide +kernel
theorem dL_bestTarget_19 : decode cL_bestTarget 19 = .ok (.iconst 2, 1) := by decide +kernel
theorem dL_bestTarget_20 : decode cL_bestTarget 20 = .ok (.ireturn, 1) := by decide +kernel
theorem dL_bestTarget_21 : decode cL_bestTarget 21 = .ok (.iconst 0, 1) := by decide +kernel
theorem dL_bestTarget_22 : decode cL_bestTarget 22 = .ok (.ireturn, 1) := by decide +kernel
theorem dL_bestPeriod_0 : decode cL_bestPeriod 0 = .ok (.aload_n 2, 1) := by decide +kernel
theorem dL_bestPeriod_1 : decode cL_bestPeriod 1 = .ok (.iconst 0, 1) := by decide +kernel
theorem dL_bestPeriod_2 : decode cL_bestPeriod 2 = .ok (.aload_n 0, 1) := by decide +kernel
theorem dL_bestPeriod_3 : decode cL_bestPeriod 3 = .ok (.iload_n 1, 1) := by decide +kernel
theorem dL_bestPeriod_4 : decode cL_bestPeriod 4 = .ok (.invokevirtual 134, 3) := by decide +kernel
theorem dL_bestPeriod_7 : decode cL_bestPeriod 7 = .ok (.i2l, 1) := by decide +kernel
theorem dL_bestPeriod_8 : decode cL_bestPeriod 8 = .ok (.lastore, 1) := by decide +kernel
theorem dL_bestPeriod_9 : decode cL_bestPeriod 9 = .ok (.goto 6, 3) := by decide +kernel
theorem dL_bestPeriod_12 : decode cL_bestPeriod 12 = .ok (.astore_n 3, 1) := by decide +kernel
theorem dL_bestPeriod_13 : decode cL_bestPeriod 13 = .ok (.iconst 1, 1) := by decide +kernel
theorem dL_bestPeriod_14 : decode cL_bestPeriod 14 = .ok (.ireturn, 1) := by decide +kernel
theorem dL_bestPeriod_15 : decode cL_bestPeriod 15 = .ok (.iconst 0, 1) := by decide +kernel
theorem dL_bestPeriod_16 : decode cL_bestPeriod 16 = .ok (.ireturn, 1) := by decide +kernel
theorem dL_needed_0 : decode cL_needed 0 = .ok (.aload_n 3, 1) := by decide +kernel
theorem dL_needed_1 : decode cL_needed 1 = .ok (.iconst 0, 1) := by decide +kernel
theorem dL_needed_2 : decode cL_needed 2 = .ok (.aload_n 0, 1) := by decide +kernel
theorem dL_needed_3 : decode cL_needed 3 = .ok (.iload_n 1, 1) := by decide +kernel
theorem dL_needed_4 : decode cL_needed 4 = .ok (.iload_n 2, 1) := by decide +kernel
theorem dL_needed_5 : decode cL_needed 5 = .ok (.invokevirtual 137, 3) := by decide +kernel
theorem dL_needed_8 : decode cL_needed 8 = .ok (.i2l, 1) := by decide +kernel
theorem dL_needed_9 : decode cL_needed 9 = .ok (.lastore, 1) := by decide +kernel
theorem dL_needed_10 : decode cL_needed 10 = .ok (.goto 11, 3) := by decide +kernel
theorem dL_needed_13 : decode cL_needed 13 = .ok (.astore 4, 2) := by decide +kernel
theorem dL_needed_15 : decode cL_needed 15 = .ok (.iconst 1, 1) := by decide +kernel
theorem dL_needed_16 : decode cL_needed 16 = .ok (.ireturn, 1) := by decide +kernel
theorem dL_needed_17 : decode cL_needed 17 = .ok (.astore 4, 2) := by decide +kernel
theorem dL_needed_19 : decode cL_needed 19 = .ok (.iconst 2, 1) := by decide +kernel
theorem dL_needed_20 : decode cL_needed 20 = .ok (.ireturn, 1) := by decide +kernel
theorem dL_needed_21 : decode cL_needed 21 = .ok (.iconst 0, 1) := by decide +kernel
theorem dL_needed_22 : decode cL_needed 22 = .ok (.ireturn, 1) := by decide +kernel
theorem dL_transfer_0 : decode cL_transfer 0 = .ok (.aload_n 3, 1) := by decide +kernel
theorem dL_transfer_1 : decode cL_transfer 1 = .ok (.iconst 0, 1) := by decide +kernel
theorem dL_transfer_2 : decode cL_transfer 2 = .ok (.aload_n 0, 1) := by decide +kernel
theorem dL_transfer_3 : decode cL_transfer 3 = .ok (.iload_n 1, 1) := by decide +kernel
theorem dL_transfer_4 : decode cL_transfer 4 = .ok (.iload_n 2, 1) := by decide +kernel
theorem dL_transfer_5 : decode cL_transfer 5 = .ok (.invokevirtual 140, 3) := by decide +kernel
theorem dL_transfer_8 : decode cL_transfer 8 = .ok (.i2l, 1) := by decide +kernel
theorem dL_transfer_9 : decode cL_transfer 9 = .ok (.lastore, 1) := by decide +kernel
theorem dL_transfer_10 : decode cL_transfer 10 = .ok (.goto 19, 3) := by decide +kernel
theorem dL_transfer_13 : decode cL_transfer 13 = .ok (.astore 4, 2) := by decide +kernel
theorem dL_transfer_15 : decode cL_transfer 15 = .ok (.iconst 1, 1) := by decide +kernel
theorem dL_transfer_16 : decode cL_transfer 16 = .ok (.ireturn, 1) := by decide +kernel
theorem dL_transfer_17 : decode cL_transfer 17 = .ok (.astore 4, 2) := by decide +kernel
theorem dL_transfer_19 : decode cL_transfer 19 = .ok (.iconst 2, 1) := by decide +kernel
theorem dL_transfer_20 : decode cL_transfer 20 = .ok (.ireturn, 1) := by decide +kernel
theorem dL_transfer_21 : decode cL_transfer 21 = .ok (.astore 4, 2) := by decide +kernel
theorem dL_transfer_23 : decode cL_transfer 23 = .ok (.iconst 3, 1) := by decide +kernel
theorem dL_transfer_24 : decode cL_transfer 24 = .ok (.ireturn, 1) := by decide +kernel
theorem dL_transfer_25 : decode cL_transfer 25 = .ok (.astore 4, 2) := by decide +kernel
theorem dL_transfer_27 : decode cL_transfer 27 = .ok (.iconst 4, 1) := by decide +kernel
theorem dL_transfer_28 : decode cL_transfer 28 = .ok (.ireturn, 1) := by decide +kernel
theorem dL_transfer_29 : decode cL_transfer 29 = .ok (.iconst 0, 1) := by decide +kernel
theorem dL_transfer_30 : decode cL_transfer 30 = .ok (.ireturn, 1) := by decide +kernel
theorem dL_setLoad_0 : decode cL_setLoad 0 = .ok (.aload 4, 2) := by decide +kernel
theorem dL_setLoad_2 : decode cL_setLoad 2 = .ok (.iconst 0, 1) := by decide +kernel
theorem dL_setLoad_3 : decode cL_setLoad 3 = .ok (.aload_n 0, 1) := by decide +kernel
theorem dL_setLoad_4 : decode cL_setLoad 4 = .ok (.iload_n 1, 1) := by decide +kernel
theorem dL_setLoad_5 : decode cL_setLoad 5 = .ok (.iload_n 2, 1) := by decide +kernel
theorem dL_setLoad_6 : decode cL_setLoad 6 = .ok (.iload_n 3, 1) := by decide +kernel
theorem dL_setLoad_7 : decode cL_setLoad 7 = .ok (.invokevirtual 143, 3) := by decide +kernel
theorem dL_setLoad_10 : decode cL_setLoad 10 = .ok (.i2l, 1) := by decide +kernel
theorem dL_setLoad_11 : decode cL_setLoad 11 = .ok (.lastore, 1) := by decide +kernel
theorem dL_setLoad_12 : decode cL_setLoad 12 = .ok (.goto 15, 3) := by decide +kernel
theorem dL_setLoad_15 : decode cL_setLoad 15 = .ok (.astore 5, 2) := by decide +kernel
theorem dL_setLoad_17 : decode cL_setLoad 17 = .ok (.iconst 1, 1) := by decide +kernel
theorem dL_setLoad_18 : decode cL_setLoad 18 = .ok (.ireturn, 1) := by decide +kernel
theorem dL_setLoad_19 : decode cL_setLoad 19 = .ok (.astore 5, 2) := by decide +kernel
theorem dL_setLoad_21 : decode cL_setLoad 21 = .ok (.iconst 2, 1) := by decide +kernel
theorem dL_setLoad_22 : decode cL_setLoad 22 = .ok (.ireturn, 1) := by decide +kernel
theorem dL_setLoad_23 : decode cL_setLoad 23 = .ok (.astore 5, 2) := by decide +kernel
theorem dL_setLoad_25 : decode cL_setLoad 25 = .ok (.iconst 3, 1) := by decide +kernel
theorem dL_setLoad_26 : decode cL_setLoad 26 = .ok (.ireturn, 1) := by decide +kernel
theorem dL_setLoad_27 : decode cL_setLoad 27 = .ok (.iconst 0, 1) := by decide +kernel
theorem dL_setLoad_28 : decode cL_setLoad 28 = .ok (.ireturn, 1) := by decide +kernel
theorem dL_longestMiss_0 : decode cL_longestMiss 0 = .ok (.aload_n 2, 1) := by decide +kernel
theorem dL_longestMiss_1 : decode cL_longestMiss 1 = .ok (.iconst 0, 1) := by decide +kernel
theorem dL_longestMiss_2 : decode cL_longestMiss 2 = .ok (.aload_n 0, 1) := by decide +kernel
theorem dL_longestMiss_3 : decode cL_longestMiss 3 = .ok (.iload_n 1, 1) := by decide +kernel
theorem dL_longestMiss_4 : decode cL_longestMiss 4 = .ok (.invokevirtual 146, 3) := by decide +kernel
theorem dL_longestMiss_7 : decode cL_longestMiss 7 = .ok (.i2l, 1) := by decide +kernel
theorem dL_longestMiss_8 : decode cL_longestMiss 8 = .ok (.lastore, 1) := by decide +kernel
theorem dL_longestMiss_9 : decode cL_longestMiss 9 = .ok (.goto 6, 3) := by decide +kernel
theorem dL_longestMiss_12 : decode cL_longestMiss 12 = .ok (.astore_n 3, 1) := by decide +kernel
theorem dL_longestMiss_13 : decode cL_longestMiss 13 = .ok (.iconst 1, 1) := by decide +kernel
theorem dL_longestMiss_14 : decode cL_longestMiss 14 = .ok (.ireturn, 1) := by decide +kernel
theorem dL_longestMiss_15 : decode cL_longestMiss 15 = .ok (.iconst 0, 1) := by decide +kernel
theorem dL_longestMiss_16 : decode cL_longestMiss 16 = .ok (.ireturn, 1) := by decide +kernel
theorem dL_headroom_0 : decode cL_headroom 0 = .ok (.aload_n 2, 1) := by decide +kernel
theorem dL_headroom_1 : decode cL_headroom 1 = .ok (.iconst 0, 1) := by decide +kernel
theorem dL_headroom_2 : decode cL_headroom 2 = .ok (.aload_n 0, 1) := by decide +kernel
theorem dL_headroom_3 : decode cL_headroom 3 = .ok (.iload_n 1, 1) := by decide +kernel
theorem dL_headroom_4 : decode cL_headroom 4 = .ok (.invokevirtual 149, 3) := by decide +kernel
theorem dL_headroom_7 : decode cL_headroom 7 = .ok (.i2l, 1) := by decide +kernel
theorem dL_headroom_8 : decode cL_headroom 8 = .ok (.lastore, 1) := by decide +kernel
theorem dL_headroom_9 : decode cL_headroom 9 = .ok (.goto 6, 3) := by decide +kernel
theorem dL_headroom_12 : decode cL_headroom 12 = .ok (.astore_n 3, 1) := by decide +kernel
theorem dL_headroom_13 : decode cL_headroom 13 = .ok (.iconst 1, 1) := by decide +kernel
theorem dL_headroom_14 : decode cL_headroom 14 = .ok (.ireturn, 1) := by decide +kernel
theorem dL_headroom_15 : decode cL_headroom 15 = .ok (.iconst 0, 1) := by decide +kernel
theorem dL_headroom_16 : decode cL_headroom 16 = .ok (.ireturn, 1) := by decide +kernel
theorem dL_changesIn_0 : decode cL_changesIn 0 = .ok (.aload_n 3, 1) := by decide +kernel
theorem dL_changesIn_1 : decode cL_changesIn 1 = .ok (.iconst 0, 1) := by decide +kernel
theorem dL_changesIn_2 : decode cL_changesIn 2 = .ok (.aload_n 0, 1) := by decide +kernel
theorem dL_changesIn_3 : decode cL_changesIn 3 = .ok (.iload_n 1, 1) := by decide +kernel
theorem dL_changesIn_4 : decode cL_changesIn 4 = .ok (.iload_n 2, 1) := by decide +kernel
theorem dL_changesIn_5 : decode cL_changesIn 5 = .ok (.invokevirtual 152, 3) := by decide +kernel
theorem dL_changesIn_8 : decode cL_changesIn 8 = .ok (.i2l, 1) := by decide +kernel
theorem dL_changesIn_9 : decode cL_changesIn 9 = .ok (.lastore, 1) := by decide +kernel
theorem dL_changesIn_10 : decode cL_changesIn 10 = .ok (.goto 11, 3) := by decide +kernel
theorem dL_changesIn_13 : decode cL_changesIn 13 = .ok (.astore 4, 2) := by decide +kernel
theorem dL_changesIn_15 : decode cL_changesIn 15 = .ok (.iconst 1, 1) := by decide +kernel
theorem dL_changesIn_16 : decode cL_changesIn 16 = .ok (.ireturn, 1) := by decide +kernel
theorem dL_changesIn_17 : decode cL_changesIn 17 = .ok (.astore 4, 2) := by decide +kernel
theorem dL_changesIn_19 : decode cL_changesIn 19 = .ok (.iconst 2, 1) := by decide +kernel
theorem dL_changesIn_20 : decode cL_changesIn 20 = .ok (.ireturn, 1) := by decide +kernel
theorem dL_changesIn_21 : decode cL_changesIn 21 = .ok (.iconst 0, 1) := by decide +kernel
theorem dL_changesIn_22 : decode cL_changesIn 22 = .ok (.ireturn, 1) := by decide +kernel
theorem dL_settlesIn_0 : decode cL_settlesIn 0 = .ok (.aload_n 3, 1) := by decide +kernel
theorem dL_settlesIn_1 : decode cL_settlesIn 1 = .ok (.iconst 0, 1) := by decide +kernel
theorem dL_settlesIn_2 : decode cL_settlesIn 2 = .ok (.aload_n 0, 1) := by decide +kernel
theorem dL_settlesIn_3 : decode cL_settlesIn 3 = .ok (.iload_n 1, 1) := by decide +kernel
theorem dL_settlesIn_4 : decode cL_settlesIn 4 = .ok (.iload_n 2, 1) := by decide +kernel
theorem dL_settlesIn_5 : decode cL_settlesIn 5 = .ok (.invokevirtual 155, 3) := by decide +kernel
theorem dL_settlesIn_8 : decode cL_settlesIn 8 = .ok (.i2l, 1) := by decide +kernel
theorem dL_settlesIn_9 : decode cL_settlesIn 9 = .ok (.lastore, 1) := by decide +kernel
theorem dL_settlesIn_10 : decode cL_settlesIn 10 = .ok (.goto 11, 3) := by decide +kernel
theorem dL_settlesIn_13 : decode cL_settlesIn 13 = .ok (.astore 4, 2) := by decide +kernel
theorem dL_settlesIn_15 : decode cL_settlesIn 15 = .ok (.iconst 1, 1) := by decide +kernel
theorem dL_settlesIn_16 : decode cL_settlesIn 16 = .ok (.ireturn, 1) := by decide +kernel
theorem dL_settlesIn_17 : decode cL_settlesIn 17 = .ok (.astore 4, 2) := by decide +kernel
theorem dL_settlesIn_19 : decode cL_settlesIn 19 = .ok (.iconst 2, 1) := by decide +kernel
theorem dL_settlesIn_20 : decode cL_settlesIn 20 = .ok (.ireturn, 1) := by decide +kernel
theorem dL_settlesIn_21 : decode cL_settlesIn 21 = .ok (.iconst 0, 1) := by decide +kernel
theorem dL_settlesIn_22 : decode cL_settlesIn 22 = .ok (.ireturn, 1) := by decide +kernel
theorem dL_bestCool_0 : decode cL_bestCool 0 = .ok (.aload_n 3, 1) := by decide +kernel
theorem dL_bestCool_1 : decode cL_bestCool 1 = .ok (.iconst 0, 1) := by decide +kernel
theorem dL_bestCool_2 : decode cL_bestCool 2 = .ok (.aload_n 0, 1) := by decide +kernel
theorem dL_bestCool_3 : decode cL_bestCool 3 = .ok (.iload_n 1, 1) := by decide +kernel
theorem dL_bestCool_4 : decode cL_bestCool 4 = .ok (.iload_n 2, 1) := by decide +kernel
theorem dL_bestCool_5 : decode cL_bestCool 5 = .ok (.invokevirtual 158, 3) := by decide +kernel
theorem dL_bestCool_8 : decode cL_bestCool 8 = .ok (.i2l, 1) := by decide +kernel
theorem dL_bestCool_9 : decode cL_bestCool 9 = .ok (.lastore, 1) := by decide +kernel
theorem dL_bestCool_10 : decode cL_bestCool 10 = .ok (.goto 11, 3) := by decide +kernel
theorem dL_bestCool_13 : decode cL_bestCool 13 = .ok (.astore 4, 2) := by decide +kernel
theorem dL_bestCool_15 : decode cL_bestCool 15 = .ok (.iconst 1, 1) := by decide +kernel
theorem dL_bestCool_16 : decode cL_bestCool 16 = .ok (.ireturn, 1) := by decide +kernel
theorem dL_bestCool_17 : decode cL_bestCool 17 = .ok (.astore 4, 2) := by decide +kernel
theorem dL_bestCool_19 : decode cL_bestCool 19 = .ok (.iconst 2, 1) := by decide +kernel
theorem dL_bestCool_20 : decode cL_bestCool 20 = .ok (.ireturn, 1) := by decide +kernel
theorem dL_bestCool_21 : decode cL_bestCool 21 = .ok (.iconst 0, 1) := by decide +kernel
theorem dL_bestCool_22 : decode cL_bestCool 22 = .ok (.ireturn, 1) := by decide +kernel
theorem dL_meanAge_0 : decode cL_meanAge 0 = .ok (.aload_n 2, 1) := by decide +kernel
theorem dL_meanAge_1 : decode cL_meanAge 1 = .ok (.iconst 0, 1) := by decide +kernel
theorem dL_meanAge_2 : decode cL_meanAge 2 = .ok (.aload_n 0, 1) := by decide +kernel
theorem dL_meanAge_3 : decode cL_meanAge 3 = .ok (.iload_n 1, 1) := by decide +kernel
theorem dL_meanAge_4 : decode cL_meanAge 4 = .ok (.invokevirtual 161, 3) := by decide +kernel
theorem dL_meanAge_7 : decode cL_meanAge 7 = .ok (.dastore, 1) := by decide +kernel
theorem dL_meanAge_8 : decode cL_meanAge 8 = .ok (.goto 6, 3) := by decide +kernel
theorem dL_meanAge_11 : decode cL_meanAge 11 = .ok (.astore_n 3, 1) := by decide +kernel
theorem dL_meanAge_12 : decode cL_meanAge 12 = .ok (.iconst 1, 1) := by decide +kernel
theorem dL_meanAge_13 : decode cL_meanAge 13 = .ok (.ireturn, 1) := by decide +kernel
theorem dL_meanAge_14 : decode cL_meanAge 14 = .ok (.iconst 0, 1) := by decide +kernel
theorem dL_meanAge_15 : decode cL_meanAge 15 = .ok (.ireturn, 1) := by decide +kernel
theorem dL_dropCold_0 : decode cL_dropCold 0 = .ok (.aload_n 2, 1) := by decide +kernel
theorem dL_dropCold_1 : decode cL_dropCold 1 = .ok (.iconst 0, 1) := by decide +kernel
theorem dL_dropCold_2 : decode cL_dropCold 2 = .ok (.aload_n 0, 1) := by decide +kernel
theorem dL_dropCold_3 : decode cL_dropCold 3 = .ok (.iload_n 1, 1) := by decide +kernel
theorem dL_dropCold_4 : decode cL_dropCold 4 = .ok (.invokevirtual 164, 3) := by decide +kernel
theorem dL_dropCold_7 : decode cL_dropCold 7 = .ok (.i2l, 1) := by decide +kernel
theorem dL_dropCold_8 : decode cL_dropCold 8 = .ok (.lastore, 1) := by decide +kernel
theorem dL_dropCold_9 : decode cL_dropCold 9 = .ok (.goto 6, 3) := by decide +kernel
theorem dL_dropCold_12 : decode cL_dropCold 12 = .ok (.astore_n 3, 1) := by decide +kernel
theorem dL_dropCold_13 : decode cL_dropCold 13 = .ok (.iconst 1, 1) := by decide +kernel
theorem dL_dropCold_14 : decode cL_dropCold 14 = .ok (.ireturn, 1) := by decide +kernel
theorem dL_dropCold_15 : decode cL_dropCold 15 = .ok (.iconst 0, 1) := by decide +kernel
theorem dL_dropCold_16 : decode cL_dropCold 16 = .ok (.ireturn, 1) := by decide +kernel
theorem dL_hurry_0 : decode cL_hurry 0 = .ok (.aload_n 2, 1) := by decide +kernel
theorem dL_hurry_1 : decode cL_hurry 1 = .ok (.iconst 0, 1) := by decide +kernel
theorem dL_hurry_2 : decode cL_hurry 2 = .ok (.aload_n 0, 1) := by decide +kernel
theorem dL_hurry_3 : decode cL_hurry 3 = .ok (.iload_n 1, 1) := by decide +kernel
theorem dL_hurry_4 : decode cL_hurry 4 = .ok (.invokevirtual 167, 3) := by decide +kernel
theorem dL_hurry_7 : decode cL_hurry 7 = .ok (.i2l, 1) := by decide +kernel
theorem dL_hurry_8 : decode cL_hurry 8 = .ok (.lastore, 1) := by decide +kernel
theorem dL_hurry_9 : decode cL_hurry 9 = .ok (.goto 6, 3) := by decide +kernel
theorem dL_hurry_12 : decode cL_hurry 12 = .ok (.astore_n 3, 1) := by decide +kernel
theorem dL_hurry_13 : decode cL_hurry 13 = .ok (.iconst 1, 1) := by decide +kernel
theorem dL_hurry_14 : decode cL_hurry 14 = .ok (.ireturn, 1) := by decide +kernel
theorem dL_hurry_15 : decode cL_hurry 15 = .ok (.iconst 0, 1) := by decide +kernel
theorem dL_hurry_16 : decode cL_hurry 16 = .ok (.ireturn, 1) := by decide +kernel
theorem dL_greatestIn_0 : decode cL_greatestIn 0 = .ok (.aload_n 3, 1) := by decide +kernel
theorem dL_greatestIn_1 : decode cL_greatestIn 1 = .ok (.iconst 0, 1) := by decide +kernel
theorem dL_greatestIn_2 : decode cL_greatestIn 2 = .ok (.aload_n 0, 1) := by decide +kernel
theorem dL_greatestIn_3 : decode cL_greatestIn 3 = .ok (.iload_n 1, 1) := by decide +kernel
theorem dL_greatestIn_4 : decode cL_greatestIn 4 = .ok (.iload_n 2, 1) := by decide +kernel
theorem dL_greatestIn_5 : decode cL_greatestIn 5 = .ok (.invokevirtual 170, 3) := by decide +kernel
theorem dL_greatestIn_8 : decode cL_greatestIn 8 = .ok (.i2l, 1) := by decide +kernel
theorem dL_greatestIn_9 : decode cL_greatestIn 9 = .ok (.lastore, 1) := by decide +kernel
theorem dL_greatestIn_10 : decode cL_greatestIn 10 = .ok (.goto 11, 3) := by decide +kernel
theorem dL_greatestIn_13 : decode cL_greatestIn 13 = .ok (.astore 4, 2) := by decide +kernel
theorem dL_greatestIn_15 : decode cL_greatestIn 15 = .ok (.iconst 1, 1) := by decide +kernel
theorem dL_greatestIn_16 : decode cL_greatestIn 16 = .ok (.ireturn, 1) := by decide +kernel
theorem dL_greatestIn_17 : decode cL_greatestIn 17 = .ok (.astore 4, 2) := by decide +kernel
theorem dL_greatestIn_19 : decode cL_greatestIn 19 = .ok (.iconst 2, 1) := by decide +kernel
theorem dL_greatestIn_20 : decode cL_greatestIn 20 = .ok (.ireturn, 1) := by decide +kernel
theorem dL_greatestIn_21 : decode cL_greatestIn 21 = .ok (.iconst 0, 1) := by decide +kernel
theorem dL_greatestIn_22 : decode cL_greatestIn 22 = .ok (.ireturn, 1) := by decide +kernel
theorem dL_errorsWith_0 : decode cL_errorsWith 0 = .ok (.aload 4, 2) := by decide +kernel
theorem dL_errorsWith_2 : decode cL_errorsWith 2 = .ok (.iconst 0, 1) := by decide +kernel
theorem dL_errorsWith_3 : decode cL_errorsWith 3 = .ok (.aload_n 0, 1) := by decide +kernel
theorem dL_errorsWith_4 : decode cL_errorsWith 4 = .ok (.iload_n 1, 1) := by decide +kernel
theorem dL_errorsWith_5 : decode cL_errorsWith 5 = .ok (.iload_n 2, 1) := by decide +kernel
theorem dL_errorsWith_6 : decode cL_errorsWith 6 = .ok (.iload_n 3, 1) := by decide +kernel
theorem dL_errorsWith_7 : decode cL_errorsWith 7 = .ok (.invokevirtual 173, 3) := by decide +kernel
theorem dL_errorsWith_10 : decode cL_errorsWith 10 = .ok (.lastore, 1) := by decide +kernel
theorem dL_errorsWith_11 : decode cL_errorsWith 11 = .ok (.goto 11, 3) := by decide +kernel
theorem dL_errorsWith_14 : decode cL_errorsWith 14 = .ok (.astore 5, 2) := by decide +kernel
theorem dL_errorsWith_16 : decode cL_errorsWith 16 = .ok (.iconst 1, 1) := by decide +kernel
theorem dL_errorsWith_17 : decode cL_errorsWith 17 = .ok (.ireturn, 1) := by decide +kernel
theorem dL_errorsWith_18 : decode cL_errorsWith 18 = .ok (.astore 5, 2) := by decide +kernel
theorem dL_errorsWith_20 : decode cL_errorsWith 20 = .ok (.iconst 2, 1) := by decide +kernel
theorem dL_errorsWith_21 : decode cL_errorsWith 21 = .ok (.ireturn, 1) := by decide +kernel
theorem dL_errorsWith_22 : decode cL_errorsWith 22 = .ok (.iconst 0, 1) := by decide +kernel
theorem dL_errorsWith_23 : decode cL_errorsWith 23 = .ok (.ireturn, 1) := by decide +kernel
theorem dL_median_0 : decode cL_median 0 = .ok (.aload_n 2, 1) := by decide +kernel
theorem dL_median_1 : decode cL_median 1 = .ok (.iconst 0, 1) := by decide +kernel
theorem dL_median_2 : decode cL_median 2 = .ok (.aload_n 0, 1) := by decide +kernel
theorem dL_median_3 : decode cL_median 3 = .ok (.iload_n 1, 1) := by decide +kernel
theorem dL_median_4 : decode cL_median 4 = .ok (.invokevirtual 177, 3) := by decide +kernel
theorem dL_median_7 : decode cL_median 7 = .ok (.i2l, 1) := by decide +kernel
theorem dL_median_8 : decode cL_median 8 = .ok (.lastore, 1) := by decide +kernel
theorem dL_median_9 : decode cL_median 9 = .ok (.goto 6, 3) := by decide +kernel
theorem dL_median_12 : decode cL_median 12 = .ok (.astore_n 3, 1) := by decide +kernel
theorem dL_median_13 : decode cL_median 13 = .ok (.iconst 1, 1) := by decide +kernel
theorem dL_median_14 : decode cL_median 14 = .ok (.ireturn, 1) := by decide +kernel
theorem dL_median_15 : decode cL_median 15 = .ok (.iconst 0, 1) := by decide +kernel
theorem dL_median_16 : decode cL_median 16 = .ok (.ireturn, 1) := by decide +kernel
theorem dL_demandsWithin_0 : decode cL_demandsWithin 0 = .ok (.aload 4, 2) := by decide +kernel
theorem dL_demandsWithin_2 : decode cL_demandsWithin 2 = .ok (.iconst 0, 1) := by decide +kernel
theorem dL_demandsWithin_3 : decode cL_demandsWithin 3 = .ok (.aload_n 0, 1) := by decide +kernel
theorem dL_demandsWithin_4 : decode cL_demandsWithin 4 = .ok (.iload_n 1, 1) := by decide +kernel
theorem dL_demandsWithin_5 : decode cL_demandsWithin 5 = .ok (.iload_n 2, 1) := by decide +kernel
theorem dL_demandsWithin_6 : decode cL_demandsWithin 6 = .ok (.iload_n 3, 1) := by decide +kernel
theorem dL_demandsWithin_7 : decode cL_demandsWithin 7 = .ok (.invokevirtual 180, 3) := by decide +kernel
theorem dL_demandsWithin_10 : decode cL_demandsWithin 10 = .ok (.i2l, 1) := by decide +kernel
theorem dL_demandsWithin_11 : decode cL_demandsWithin 11 = .ok (.lastore, 1) := by decide +kernel
theorem dL_demandsWithin_12 : decode cL_demandsWithin 12 = .ok (.goto 7, 3) := by decide +kernel
theorem dL_demandsWithin_15 : decode cL_demandsWithin 15 = .ok (.astore 5, 2) := by decide +kernel
theorem dL_demandsWithin_17 : decode cL_demandsWithin 17 = .ok (.iconst 1, 1) := by decide +kernel
theorem dL_demandsWithin_18 : decode cL_demandsWithin 18 = .ok (.ireturn, 1) := by decide +kernel
theorem dL_demandsWithin_19 : decode cL_demandsWithin 19 = .ok (.iconst 0, 1) := by decide +kernel
theorem dL_demandsWithin_20 : decode cL_demandsWithin 20 = .ok (.ireturn, 1) := by decide +kernel
theorem dL_printPool_0 : decode cL_printPool 0 = .ok (.aload_n 2, 1) := by decide +kernel
theorem dL_printPool_1 : decode cL_printPool 1 = .ok (.iconst 0, 1) := by decide +kernel
theorem dL_printPool_2 : decode cL_printPool 2 = .ok (.aload_n 0, 1) := by decide +kernel
theorem dL_printPool_3 : decode cL_printPool 3 = .ok (.iload_n 1, 1) := by decide +kernel
theorem dL_printPool_4 : decode cL_printPool 4 = .ok (.invokevirtual 183, 3) := by decide +kernel
theorem dL_printPool_7 : decode cL_printPool 7 = .ok (.i2l, 1) := by decide +kernel
theorem dL_printPool_8 : decode cL_printPool 8 = .ok (.lastore, 1) := by decide +kernel
theorem dL_printPool_9 : decode cL_printPool 9 = .ok (.goto 6, 3) := by decide +kernel
theorem dL_printPool_12 : decode cL_printPool 12 = .ok (.astore_n 3, 1) := by decide +kernel
theorem dL_printPool_13 : decode cL_printPool 13 = .ok (.iconst 1, 1) := by decide +kernel
theorem dL_printPool_14 : decode cL_printPool 14 = .ok (.ireturn, 1) := by decide +kernel
theorem dL_printPool_15 : decode cL_printPool 15 = .ok (.iconst 0, 1) := by decide +kernel
theorem dL_printPool_16 : decode cL_printPool 16 = .ok (.ireturn, 1) := by decide +kernel
theorem dL_restoreState_0 : decode cL_restoreState 0 = .ok (.aload_n 1, 1) := by decide +kernel
theorem dL_restoreState_1 : decode cL_restoreState 1 = .ok (.iconst 0, 1) := by decide +kernel
theorem dL_restoreState_2 : decode cL_restoreState 2 = .ok (.aload_n 0, 1) := by decide +kernel
theorem dL_restoreState_3 : decode cL_restoreState 3 = .ok (.invokevirtual 186, 3) := by decide +kernel
theorem dL_restoreState_6 : decode cL_restoreState 6 = .ok (.i2l, 1) := by decide +kernel
theorem dL_restoreState_7 : decode cL_restoreState 7 = .ok (.lastore, 1) := by decide +kernel
theorem dL_restoreState_8 : decode cL_restoreState 8 = .ok (.goto 6, 3) := by decide +kernel
theorem dL_restoreState_11 : decode cL_restoreState 11 = .ok (.astore_n 2, 1) := by decide +kernel
theorem dL_restoreState_12 : decode cL_restoreState 12 = .ok (.iconst 1, 1) := by decide +kernel
theorem dL_restoreState_13 : decode cL_restoreState 13 = .ok (.ireturn, 1) := by decide +kernel
theorem dL_restoreState_14 : decode cL_restoreState 14 = .ok (.iconst 0, 1) := by decide +kernel
theorem dL_restoreState_15 : decode cL_restoreState 15 = .ok (.ireturn, 1) := by decide +kernel
