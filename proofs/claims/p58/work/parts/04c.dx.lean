theorem dX7_temperature_0 : decode cX7_temperature 0 = .ok (.aload_n 0, 1) := by decide +kernel
theorem dX7_temperature_1 : decode cX7_temperature 1 = .ok (.getfield 10, 3) := by decide +kernel
theorem dX7_temperature_4 : decode cX7_temperature 4 = .ok (.getfield 132, 3) := by decide +kernel
theorem dX7_temperature_7 : decode cX7_temperature 7 = .ok (.ireturn, 1) := by decide +kernel
theorem dX7_skill_0 : decode cX7_skill 0 = .ok (.aload_n 0, 1) := by decide +kernel
theorem dX7_skill_1 : decode cX7_skill 1 = .ok (.getfield 10, 3) := by decide +kernel
theorem dX7_skill_4 : decode cX7_skill 4 = .ok (.getfield 135, 3) := by decide +kernel
theorem dX7_skill_7 : decode cX7_skill 7 = .ok (.ireturn, 1) := by decide +kernel
theorem dX7_hairStock_0 : decode cX7_hairStock 0 = .ok (.aload_n 0, 1) := by decide +kernel
theorem dX7_hairStock_1 : decode cX7_hairStock 1 = .ok (.getfield 10, 3) := by decide +kernel
theorem dX7_hairStock_4 : decode cX7_hairStock 4 = .ok (.getfield 138, 3) := by decide +kernel
theorem dX7_hairStock_7 : decode cX7_hairStock 7 = .ok (.ireturn, 1) := by decide +kernel
theorem dX7_fixedPoint_0 : decode cX7_fixedPoint 0 = .ok (.iload_n 1, 1) := by decide +kernel
theorem dX7_fixedPoint_1 : decode cX7_fixedPoint 1 = .ok (.invokestatic 141, 3) := by decide +kernel
theorem dX7_fixedPoint_4 : decode cX7_fixedPoint 4 = .ok (.ifCond .ne 13, 3) := by decide +kernel
theorem dX7_fixedPoint_7 : decode cX7_fixedPoint 7 = .ok (.new 107, 3) := by decide +kernel
theorem dX7_fixedPoint_10 : decode cX7_fixedPoint 10 = .ok (.dup, 1) := by decide +kernel
theorem dX7_fixedPoint_11 : decode cX7_fixedPoint 11 = .ok (.ldc 145, 2) := by decide +kernel
theorem dX7_fixedPoint_13 : decode cX7_fixedPoint 13 = .ok (.invokespecial 111, 3) := by decide +kernel
theorem dX7_fixedPoint_16 : decode cX7_fixedPoint 16 = .ok (.athrow, 1) := by decide +kernel
theorem dX7_fixedPoint_17 : decode cX7_fixedPoint 17 = .ok (.iload_n 1, 1) := by decide +kernel
theorem dX7_fixedPoint_18 : decode cX7_fixedPoint 18 = .ok (.iconst (-1), 1) := by decide +kernel
theorem dX7_fixedPoint_19 : decode cX7_fixedPoint 19 = .ok (.invokestatic 147, 3) := by decide +kernel
theorem dX7_fixedPoint_22 : decode cX7_fixedPoint 22 = .ok (.ireturn, 1) := by decide +kernel
theorem dX7_instrumentCount_0 : decode cX7_instrumentCount 0 = .ok (.aload_n 0, 1) := by decide +kernel
theorem dX7_instrumentCount_1 : decode cX7_instrumentCount 1 = .ok (.getfield 10, 3) := by decide +kernel
theorem dX7_instrumentCount_4 : decode cX7_instrumentCount 4 = .ok (.getfield 123, 3) := by decide +kernel
theorem dX7_instrumentCount_7 : decode cX7_instrumentCount 7 = .ok (.ireturn, 1) := by decide +kernel
theorem dX7_isHair_0 : decode cX7_isHair 0 = .ok (.aload_n 0, 1) := by decide +kernel
theorem dX7_isHair_1 : decode cX7_isHair 1 = .ok (.iload_n 1, 1) := by decide +kernel
theorem dX7_isHair_2 : decode cX7_isHair 2 = .ok (.invokevirtual 151, 3) := by decide +kernel
theorem dX7_isHair_5 : decode cX7_isHair 5 = .ok (.getfield 155, 3) := by decide +kernel
theorem dX7_isHair_8 : decode cX7_isHair 8 = .ok (.ireturn, 1) := by decide +kernel
theorem dX7_hairsOf_0 : decode cX7_hairsOf 0 = .ok (.aload_n 0, 1) := by decide +kernel
theorem dX7_hairsOf_1 : decode cX7_hairsOf 1 = .ok (.iload_n 1, 1) := by decide +kernel
theorem dX7_hairsOf_2 : decode cX7_hairsOf 2 = .ok (.invokevirtual 151, 3) := by decide +kernel
theorem dX7_hairsOf_5 : decode cX7_hairsOf 5 = .ok (.astore_n 2, 1) := by decide +kernel
theorem dX7_hairsOf_6 : decode cX7_hairsOf 6 = .ok (.aload_n 2, 1) := by decide +kernel
theorem dX7_hairsOf_7 : decode cX7_hairsOf 7 = .ok (.getfield 155, 3) := by decide +kernel
theorem dX7_hairsOf_10 : decode cX7_hairsOf 10 = .ok (.ifCond .eq 10, 3) := by decide +kernel
theorem dX7_hairsOf_13 : decode cX7_hairsOf 13 = .ok (.aload_n 2, 1) := by decide +kernel
theorem dX7_hairsOf_14 : decode cX7_hairsOf 14 = .ok (.getfield 159, 3) := by decide +kernel
theorem dX7_hairsOf_17 : decode cX7_hairsOf 17 = .ok (.goto 4, 3) := by decide +kernel
theorem dX7_hairsOf_20 : decode cX7_hairsOf 20 = .ok (.iconst (-1), 1) := by decide +kernel
theorem dX7_hairsOf_21 : decode cX7_hairsOf 21 = .ok (.ireturn, 1) := by decide +kernel
theorem dX7_brokenOf_0 : decode cX7_brokenOf 0 = .ok (.aload_n 0, 1) := by decide +kernel
theorem dX7_brokenOf_1 : decode cX7_brokenOf 1 = .ok (.iload_n 1, 1) := by decide +kernel
theorem dX7_brokenOf_2 : decode cX7_brokenOf 2 = .ok (.invokevirtual 151, 3) := by decide +kernel
theorem dX7_brokenOf_5 : decode cX7_brokenOf 5 = .ok (.astore_n 2, 1) := by decide +kernel
theorem dX7_brokenOf_6 : decode cX7_brokenOf 6 = .ok (.aload_n 2, 1) := by decide +kernel
theorem dX7_brokenOf_7 : decode cX7_brokenOf 7 = .ok (.getfield 155, 3) := by decide +kernel
theorem dX7_brokenOf_10 : decode cX7_brokenOf 10 = .ok (.ifCond .eq 10, 3) := by decide +kernel
theorem dX7_brokenOf_13 : decode cX7_brokenOf 13 = .ok (.aload_n 2, 1) := by decide +kernel
theorem dX7_brokenOf_14 : decode cX7_brokenOf 14 = .ok (.getfield 162, 3) := by decide +kernel
theorem dX7_brokenOf_17 : decode cX7_brokenOf 17 = .ok (.goto 4, 3) := by decide +kernel
theorem dX7_brokenOf_20 : decode cX7_brokenOf 20 = .ok (.iconst (-1), 1) := by decide +kernel
theorem dX7_brokenOf_21 : decode cX7_brokenOf 21 = .ok (.ireturn, 1) := by decide +kernel
theorem dX7_wetnessOf_0 : decode cX7_wetnessOf 0 = .ok (.aload_n 0, 1) := by decide +kernel
theorem dX7_wetnessOf_1 : decode cX7_wetnessOf 1 = .ok (.iload_n 1, 1) := by decide +kernel
theorem dX7_wetnessOf_2 : decode cX7_wetnessOf 2 = .ok (.invokevirtual 151, 3) := by decide +kernel
theorem dX7_wetnessOf_5 : decode cX7_wetnessOf 5 = .ok (.astore_n 2, 1) := by decide +kernel
theorem dX7_wetnessOf_6 : decode cX7_wetnessOf 6 = .ok (.aload_n 2, 1) := by decide +kernel
theorem dX7_wetnessOf_7 : decode cX7_wetnessOf 7 = .ok (.getfield 155, 3) := by decide +kernel
theorem dX7_wetnessOf_10 : decode cX7_wetnessOf 10 = .ok (.ifCond .eq 10, 3) := by decide +kernel
theorem dX7_wetnessOf_13 : decode cX7_wetnessOf 13 = .ok (.aload_n 2, 1) := by decide +kernel
theorem dX7_wetnessOf_14 : decode cX7_wetnessOf 14 = .ok (.getfield 165, 3) := by decide +kernel
theorem dX7_wetnessOf_17 : decode cX7_wetnessOf 17 = .ok (.goto 4, 3) := by decide +kernel
theorem dX7_wetnessOf_20 : decode cX7_wetnessOf 20 = .ok (.iconst (-1), 1) := by decide +kernel
theorem dX7_wetnessOf_21 : decode cX7_wetnessOf 21 = .ok (.ireturn, 1) := by decide +kernel
theorem dX7_slackOf_0 : decode cX7_slackOf 0 = .ok (.aload_n 0, 1) := by decide +kernel
theorem dX7_slackOf_1 : decode cX7_slackOf 1 = .ok (.iload_n 1, 1) := by decide +kernel
theorem dX7_slackOf_2 : decode cX7_slackOf 2 = .ok (.invokevirtual 151, 3) := by decide +kernel
theorem dX7_slackOf_5 : decode cX7_slackOf 5 = .ok (.astore_n 2, 1) := by decide +kernel
theorem dX7_slackOf_6 : decode cX7_slackOf 6 = .ok (.aload_n 2, 1) := by decide +kernel
theorem dX7_slackOf_7 : decode cX7_slackOf 7 = .ok (.getfield 155, 3) := by decide +kernel
theorem dX7_slackOf_10 : decode cX7_slackOf 10 = .ok (.ifCond .eq 10, 3) := by decide +kernel
theorem dX7_slackOf_13 : decode cX7_slackOf 13 = .ok (.aload_n 2, 1) := by decide +kernel
theorem dX7_slackOf_14 : decode cX7_slackOf 14 = .ok (.getfield 168, 3) := by decide +kernel
theorem dX7_slackOf_17 : decode cX7_slackOf 17 = .ok (.goto 4, 3) := by decide +kernel
theorem dX7_slackOf_20 : decode cX7_slackOf 20 = .ok (.iconst (-1), 1) := by decide +kernel
theorem dX7_slackOf_21 : decode cX7_slackOf 21 = .ok (.ireturn, 1) := by decide +kernel
theorem dX7_waterOf_0 : decode cX7_waterOf 0 = .ok (.aload_n 0, 1) := by decide +kernel
theorem dX7_waterOf_1 : decode cX7_waterOf 1 = .ok (.iload_n 1, 1) := by decide +kernel
theorem dX7_waterOf_2 : decode cX7_waterOf 2 = .ok (.invokevirtual 151, 3) := by decide +kernel
theorem dX7_waterOf_5 : decode cX7_waterOf 5 = .ok (.astore_n 2, 1) := by decide +kernel
theorem dX7_waterOf_6 : decode cX7_waterOf 6 = .ok (.aload_n 2, 1) := by decide +kernel
theorem dX7_waterOf_7 : decode cX7_waterOf 7 = .ok (.getfield 155, 3) := by decide +kernel
theorem dX7_waterOf_10 : decode cX7_waterOf 10 = .ok (.ifCond .eq 7, 3) := by decide +kernel
theorem dX7_waterOf_13 : decode cX7_waterOf 13 = .ok (.iconst (-1), 1) := by decide +kernel
theorem dX7_waterOf_14 : decode cX7_waterOf 14 = .ok (.goto 7, 3) := by decide +kernel
theorem dX7_waterOf_17 : decode cX7_waterOf 17 = .ok (.aload_n 2, 1) := by decide +kernel
theorem dX7_waterOf_18 : decode cX7_waterOf 18 = .ok (.getfield 171, 3) := by decide +kernel
theorem dX7_waterOf_21 : decode cX7_waterOf 21 = .ok (.ireturn, 1) := by decide +kernel
theorem dX7_depressionOf_0 : decode cX7_depressionOf 0 = .ok (.aload_n 0, 1) := by decide +kernel
theorem dX7_depressionOf_1 : decode cX7_depressionOf 1 = .ok (.iload_n 1, 1) := by decide +kernel
theorem dX7_depressionOf_2 : decode cX7_depressionOf 2 = .ok (.invokevirtual 151, 3) := by decide +kernel
theorem dX7_depressionOf_5 : decode cX7_depressionOf 5 = .ok (.astore_n 2, 1) := by decide +kernel
theorem dX7_depressionOf_6 : decode cX7_depressionOf 6 = .ok (.aload_n 2, 1) := by decide +kernel
theorem dX7_depressionOf_7 : decode cX7_depressionOf 7 = .ok (.getfield 155, 3) := by decide +kernel
theorem dX7_depressionOf_10 : decode cX7_depressionOf 10 = .ok (.ifCond .eq 7, 3) := by decide +kernel
theorem dX7_depressionOf_13 : decode cX7_depressionOf 13 = .ok (.iconst (-1), 1) := by decide +kernel
theorem dX7_depressionOf_14 : decode cX7_depressionOf 14 = .ok (.goto 11, 3) := by decide +kernel
theorem dX7_depressionOf_17 : decode cX7_depressionOf 17 = .ok (.aload_n 0, 1) := by decide +kernel
theorem dX7_depressionOf_18 : decode cX7_depressionOf 18 = .ok (.getfield 10, 3) := by decide +kernel
theorem dX7_depressionOf_21 : decode cX7_depressionOf 21 = .ok (.aload_n 2, 1) := by decide +kernel
theorem dX7_depressionOf_22 : decode cX7_depressionOf 22 = .ok (.invokevirtual 174, 3) := by decide +kernel
theorem dX7_depressionOf_25 : decode cX7_depressionOf 25 = .ok (.ireturn, 1) := by decide +kernel
theorem dX7_zeroOf_0 : decode cX7_zeroOf 0 = .ok (.aload_n 0, 1) := by decide +kernel
theorem dX7_zeroOf_1 : decode cX7_zeroOf 1 = .ok (.iload_n 1, 1) := by decide +kernel
theorem dX7_zeroOf_2 : decode cX7_zeroOf 2 = .ok (.invokevirtual 151, 3) := by decide +kernel
theorem dX7_zeroOf_5 : decode cX7_zeroOf 5 = .ok (.getfield 178, 3) := by decide +kernel
theorem dX7_zeroOf_8 : decode cX7_zeroOf 8 = .ok (.ireturn, 1) := by decide +kernel
theorem dX7_boxOf_0 : decode cX7_boxOf 0 = .ok (.aload_n 0, 1) := by decide +kernel
theorem dX7_boxOf_1 : decode cX7_boxOf 1 = .ok (.iload_n 1, 1) := by decide +kernel
theorem dX7_boxOf_2 : decode cX7_boxOf 2 = .ok (.invokevirtual 151, 3) := by decide +kernel
theorem dX7_boxOf_5 : decode cX7_boxOf 5 = .ok (.getfield 74, 3) := by decide +kernel
theorem dX7_boxOf_8 : decode cX7_boxOf 8 = .ok (.ireturn, 1) := by decide +kernel
theorem dX7_surroundingOf_0 : decode cX7_surroundingOf 0 = .ok (.aload_n 0, 1) := by decide +kernel
theorem dX7_surroundingOf_1 : decode cX7_surroundingOf 1 = .ok (.getfield 10, 3) := by decide +kernel
theorem dX7_surroundingOf_4 : decode cX7_surroundingOf 4 = .ok (.aload_n 0, 1) := by decide +kernel
theorem dX7_surroundingOf_5 : decode cX7_surroundingOf 5 = .ok (.iload_n 1, 1) := by decide +kernel
theorem dX7_surroundingOf_6 : decode cX7_surroundingOf 6 = .ok (.invokevirtual 151, 3) := by decide +kernel
theorem dX7_surroundingOf_9 : decode cX7_surroundingOf 9 = .ok (.invokevirtual 181, 3) := by decide +kernel
theorem dX7_surroundingOf_12 : decode cX7_surroundingOf 12 = .ok (.ireturn, 1) := by decide +kernel
theorem dX7_rawValue_0 : decode cX7_rawValue 0 = .ok (.aload_n 0, 1) := by decide +kernel
theorem dX7_rawValue_1 : decode cX7_rawValue 1 = .ok (.getfield 10, 3) := by decide +kernel
theorem dX7_rawValue_4 : decode cX7_rawValue 4 = .ok (.aload_n 0, 1) := by decide +kernel
theorem dX7_rawValue_5 : decode cX7_rawValue 5 = .ok (.iload_n 1, 1) := by decide +kernel
theorem dX7_rawValue_6 : decode cX7_rawValue 6 = .ok (.invokevirtual 151, 3) := by decide +kernel
theorem dX7_rawValue_9 : decode cX7_rawValue 9 = .ok (.invokevirtual 184, 3) := by decide +kernel
theorem dX7_rawValue_12 : decode cX7_rawValue 12 = .ok (.ireturn, 1) := by decide +kernel
theorem dX7_readingOf_0 : decode cX7_readingOf 0 = .ok (.aload_n 0, 1) := by decide +kernel
theorem dX7_readingOf_1 : decode cX7_readingOf 1 = .ok (.getfield 10, 3) := by decide +kernel
theorem dX7_readingOf_4 : decode cX7_readingOf 4 = .ok (.aload_n 0, 1) := by decide +kernel
theorem dX7_readingOf_5 : decode cX7_readingOf 5 = .ok (.iload_n 1, 1) := by decide +kernel
theorem dX7_readingOf_6 : decode cX7_readingOf 6 = .ok (.invokevirtual 151, 3) := by decide +kernel
theorem dX7_readingOf_9 : decode cX7_readingOf 9 = .ok (.invokevirtual 187, 3) := by decide +kernel
theorem dX7_readingOf_12 : decode cX7_readingOf 12 = .ok (.ireturn, 1) := by decide +kernel
theorem dX7_errorOf_0 : decode cX7_errorOf 0 = .ok (.aload_n 0, 1) := by decide +kernel
theorem dX7_errorOf_1 : decode cX7_errorOf 1 = .ok (.iload_n 1, 1) := by decide +kernel
theorem dX7_errorOf_2 : decode cX7_errorOf 2 = .ok (.invokevirtual 151, 3) := by decide +kernel
theorem dX7_errorOf_5 : decode cX7_errorOf 5 = .ok (.astore_n 2, 1) := by decide +kernel
theorem dX7_errorOf_6 : decode cX7_errorOf 6 = .ok (.aload_n 0, 1) := by decide +kernel
theorem dX7_errorOf_7 : decode cX7_errorOf 7 = .ok (.getfield 10, 3) := by decide +kernel
theorem dX7_errorOf_10 : decode cX7_errorOf 10 = .ok (.aload_n 2, 1) := by decide +kernel
theorem dX7_errorOf_11 : decode cX7_errorOf 11 = .ok (.invokevirtual 187, 3) := by decide +kernel
theorem dX7_errorOf_14 : decode cX7_errorOf 14 = .ok (.aload_n 0, 1) := by decide +kernel
theorem dX7_errorOf_15 : decode cX7_errorOf 15 = .ok (.getfield 10, 3) := by decide +kernel
theorem dX7_errorOf_18 : decode cX7_errorOf 18 = .ok (.aload_n 2, 1) := by decide +kernel
theorem dX7_errorOf_19 : decode cX7_errorOf 19 = .ok (.invokevirtual 181, 3) := by decide +kernel
theorem dX7_errorOf_22 : decode cX7_errorOf 22 = .ok (.isub, 1) := by decide +kernel
theorem dX7_errorOf_23 : decode cX7_errorOf 23 = .ok (.ireturn, 1) := by decide +kernel
theorem dX7_isSettled_0 : decode cX7_isSettled 0 = .ok (.aload_n 0, 1) := by decide +kernel
theorem dX7_isSettled_1 : decode cX7_isSettled 1 = .ok (.getfield 10, 3) := by decide +kernel
theorem dX7_isSettled_4 : decode cX7_isSettled 4 = .ok (.aload_n 0, 1) := by decide +kernel
theorem dX7_isSettled_5 : decode cX7_isSettled 5 = .ok (.iload_n 1, 1) := by decide +kernel
theorem dX7_isSettled_6 : decode cX7_isSettled 6 = .ok (.invokevirtual 151, 3) := by decide +kernel
theorem dX7_isSettled_9 : decode cX7_isSettled 9 = .ok (.invokevirtual 190, 3) := by decide +kernel
theorem dX7_isSettled_12 : decode cX7_isSettled 12 = .ok (.ireturn, 1) := by decide +kernel
theorem dX7_whyUnusable_0 : decode cX7_whyUnusable 0 = .ok (.aload_n 0, 1) := by decide +kernel
theorem dX7_whyUnusable_1 : decode cX7_whyUnusable 1 = .ok (.iload_n 1, 1) := by decide +kernel
theorem dX7_whyUnusable_2 : decode cX7_whyUnusable 2 = .ok (.invokevirtual 151, 3) := by decide +kernel
theorem dX7_whyUnusable_5 : decode cX7_whyUnusable 5 = .ok (.invokevirtual 194, 3) := by decide +kernel
theorem dX7_whyUnusable_8 : decode cX7_whyUnusable 8 = .ok (.ireturn, 1) := by decide +kernel
theorem dX7_weightOf_0 : decode cX7_weightOf 0 = .ok (.aload_n 0, 1) := by decide +kernel
theorem dX7_weightOf_1 : decode cX7_weightOf 1 = .ok (.iload_n 1, 1) := by decide +kernel
theorem dX7_weightOf_2 : decode cX7_weightOf 2 = .ok (.invokevirtual 151, 3) := by decide +kernel
theorem dX7_weightOf_5 : decode cX7_weightOf 5 = .ok (.invokevirtual 198, 3) := by decide +kernel
theorem dX7_weightOf_8 : decode cX7_weightOf 8 = .ok (.ireturn, 1) := by decide +kernel
theorem dX7_calibrationObstacle_0 : decode cX7_calibrationObstacle 0 = .ok (.aload_n 0, 1) := by decide +kernel
theorem dX7_calibrationObstacle_1 : decode cX7_calibrationObstacle 1 = .ok (.getfield 10, 3) := by decide +kernel
theorem dX7_calibrationObstacle_4 : decode cX7_calibrationObstacle 4 = .ok (.aload_n 0, 1) := by decide +kernel
theorem dX7_calibrationObstacle_5 : decode cX7_calibrationObstacle 5 = .ok (.iload_n 1, 1) := by decide +kernel
theorem dX7_calibrationObstacle_6 : decode cX7_calibrationObstacle 6 = .ok (.invokevirtual 151, 3) := by decide +kernel
theorem dX7_calibrationObstacle_9 : decode cX7_calibrationObstacle 9 = .ok (.invokevirtual 201, 3) := by decide +kernel
theorem dX7_calibrationObstacle_12 : decode cX7_calibrationObstacle 12 = .ok (.ireturn, 1) := by decide +kernel
theorem dX7_usableInstruments_0 : decode cX7_usableInstruments 0 = .ok (.aload_n 0, 1) := by decide +kernel
theorem dX7_usableInstruments_1 : decode cX7_usableInstruments 1 = .ok (.getfield 10, 3) := by decide +kernel
theorem dX7_usableInstruments_4 : decode cX7_usableInstruments 4 = .ok (.invokevirtual 204, 3) := by decide +kernel
theorem dX7_usableInstruments_7 : decode cX7_usableInstruments 7 = .ok (.ireturn, 1) := by decide +kernel
theorem dX7_blend_0 : decode cX7_blend 0 = .ok (.aload_n 0, 1) := by decide +kernel
theorem dX7_blend_1 : decode cX7_blend 1 = .ok (.getfield 10, 3) := by decide +kernel
theorem dX7_blend_4 : decode cX7_blend 4 = .ok (.invokevirtual 207, 3) := by decide +kernel
theorem dX7_blend_7 : decode cX7_blend 7 = .ok (.ireturn, 1) := by decide +kernel
theorem dX7_bestInstrument_0 : decode cX7_bestInstrument 0 = .ok (.aload_n 0, 1) := by decide +kernel
theorem dX7_bestInstrument_1 : decode cX7_bestInstrument 1 = .ok (.getfield 10, 3) := by decide +kernel
theorem dX7_bestInstrument_4 : decode cX7_bestInstrument 4 = .ok (.invokevirtual 210, 3) := by decide +kernel
theorem dX7_bestInstrument_7 : decode cX7_bestInstrument 7 = .ok (.ireturn, 1) := by decide +kernel
theorem dX7_slackestInstrument_0 : decode cX7_slackestInstrument 0 = .ok (.aload_n 0, 1) := by decide +kernel
theorem dX7_slackestInstrument_1 : decode cX7_slackestInstrument 1 = .ok (.getfield 10, 3) := by decide +kernel
theorem dX7_slackestInstrument_4 : decode cX7_slackestInstrument 4 = .ok (.invokevirtual 213, 3) := by decide +kernel
theorem dX7_slackestInstrument_7 : decode cX7_slackestInstrument 7 = .ok (.ireturn, 1) := by decide +kernel
theorem dX7_disagreements_0 : decode cX7_disagreements 0 = .ok (.aload_n 0, 1) := by decide +kernel
theorem dX7_disagreements_1 : decode cX7_disagreements 1 = .ok (.getfield 10, 3) := by decide +kernel
theorem dX7_disagreements_4 : decode cX7_disagreements 4 = .ok (.invokevirtual 216, 3) := by decide +kernel
theorem dX7_disagreements_7 : decode cX7_disagreements 7 = .ok (.ireturn, 1) := by decide +kernel
theorem dX7_spread_0 : decode cX7_spread 0 = .ok (.aload_n 0, 1) := by decide +kernel
theorem dX7_spread_1 : decode cX7_spread 1 = .ok (.getfield 10, 3) := by decide +kernel
theorem dX7_spread_4 : decode cX7_spread 4 = .ok (.invokevirtual 219, 3) := by decide +kernel
theorem dX7_spread_7 : decode cX7_spread 7 = .ok (.ireturn, 1) := by decide +kernel
theorem dX7_readingAfter_0 : decode cX7_readingAfter 0 = .ok (.aload_n 0, 1) := by decide +kernel
theorem dX7_readingAfter_1 : decode cX7_readingAfter 1 = .ok (.getfield 47, 3) := by decide +kernel
theorem dX7_readingAfter_4 : decode cX7_readingAfter 4 = .ok (.aload_n 0, 1) := by decide +kernel
theorem dX7_readingAfter_5 : decode cX7_readingAfter 5 = .ok (.iload_n 1, 1) := by decide +kernel
theorem dX7_readingAfter_6 : decode cX7_readingAfter 6 = .ok (.invokevirtual 151, 3) := by decide +kernel
theorem dX7_readingAfter_9 : decode cX7_readingAfter 9 = .ok (.invokevirtual 222, 3) := by decide +kernel
theorem dX7_readingAfter_12 : decode cX7_readingAfter 12 = .ok (.iload_n 2, 1) := by decide +kernel
theorem dX7_readingAfter_13 : decode cX7_readingAfter 13 = .ok (.ifCond .lt 10, 3) := by decide +kernel
theorem dX7_readingAfter_16 : decode cX7_readingAfter 16 = .ok (.iload_n 2, 1) := by decide +kernel
theorem dX7_readingAfter_17 : decode cX7_readingAfter 17 = .ok (.sipush 200, 3) := by decide +kernel
theorem dX7_readingAfter_20 : decode cX7_readingAfter 20 = .ok (.if_icmp .le 13, 3) := by decide +kernel
theorem dX7_readingAfter_23 : decode cX7_readingAfter 23 = .ok (.new 107, 3) := by decide +kernel
theorem dX7_readingAfter_26 : decode cX7_readingAfter 26 = .ok (.dup, 1) := by decide +kernel
theorem dX7_readingAfter_27 : decode cX7_readingAfter 27 = .ok (.ldc 225, 2) := by decide +kernel
theorem dX7_readingAfter_29 : decode cX7_readingAfter 29 = .ok (.invokespecial 111, 3) := by decide +kernel
theorem dX7_readingAfter_32 : decode cX7_readingAfter 32 = .ok (.athrow, 1) := by decide +kernel
theorem dX7_readingAfter_33 : decode cX7_readingAfter 33 = .ok (.iconst 1, 1) := by decide +kernel
theorem dX7_readingAfter_34 : decode cX7_readingAfter 34 = .ok (.istore_n 3, 1) := by decide +kernel
theorem dX7_readingAfter_35 : decode cX7_readingAfter 35 = .ok (.iload_n 3, 1) := by decide +kernel
theorem dX7_readingAfter_36 : decode cX7_readingAfter 36 = .ok (.iload_n 2, 1) := by decide +kernel
theorem dX7_readingAfter_37 : decode cX7_readingAfter 37 = .ok (.if_icmp .gt 36, 3) := by decide +kernel
theorem dX7_readingAfter_40 : decode cX7_readingAfter 40 = .ok (.aload_n 0, 1) := by decide +kernel
theorem dX7_readingAfter_41 : decode cX7_readingAfter 41 = .ok (.getfield 47, 3) := by decide +kernel
theorem dX7_readingAfter_44 : decode cX7_readingAfter 44 = .ok (.aload_n 0, 1) := by decide +kernel
theorem dX7_readingAfter_45 : decode cX7_readingAfter 45 = .ok (.getfield 10, 3) := by decide +kernel
theorem dX7_readingAfter_48 : decode cX7_readingAfter 48 = .ok (.getfield 129, 3) := by decide +kernel
theorem dX7_readingAfter_51 : decode cX7_readingAfter 51 = .ok (.iload_n 3, 1) := by decide +kernel
theorem dX7_readingAfter_52 : decode cX7_readingAfter 52 = .ok (.iadd, 1) := by decide +kernel
theorem dX7_readingAfter_53 : decode cX7_readingAfter 53 = .ok (.aload_n 0, 1) := by decide +kernel
theorem dX7_readingAfter_54 : decode cX7_readingAfter 54 = .ok (.getfield 10, 3) := by decide +kernel
theorem dX7_readingAfter_57 : decode cX7_readingAfter 57 = .ok (.aload_n 0, 1) := by decide +kernel
theorem dX7_readingAfter_58 : decode cX7_readingAfter 58 = .ok (.getfield 47, 3) := by decide +kernel
theorem dX7_readingAfter_61 : decode cX7_readingAfter 61 = .ok (.invokevirtual 181, 3) := by decide +kernel
theorem dX7_readingAfter_64 : decode cX7_readingAfter 64 = .ok (.invokevirtual 227, 3) := by decide +kernel
theorem dX7_readingAfter_67 : decode cX7_readingAfter 67 = .ok (.iinc 3 1, 3) := by decide +kernel
theorem dX7_readingAfter_70 : decode cX7_readingAfter 70 = .ok (.goto (-35), 3) := by decide +kernel
theorem dX7_readingAfter_73 : decode cX7_readingAfter 73 = .ok (.aload_n 0, 1) := by decide +kernel
theorem dX7_readingAfter_74 : decode cX7_readingAfter 74 = .ok (.getfield 10, 3) := by decide +kernel
theorem dX7_readingAfter_77 : decode cX7_readingAfter 77 = .ok (.aload_n 0, 1) := by decide +kernel
theorem dX7_readingAfter_78 : decode cX7_readingAfter 78 = .ok (.getfield 47, 3) := by decide +kernel
theorem dX7_readingAfter_81 : decode cX7_readingAfter 81 = .ok (.invokevirtual 187, 3) := by decide +kernel
theorem dX7_readingAfter_84 : decode cX7_readingAfter 84 = .ok (.ireturn, 1) := by decide +kernel
theorem dX7_minutesUntilStill_0 : decode cX7_minutesUntilStill 0 = .ok (.aload_n 0, 1) := by decide +kernel
theorem dX7_minutesUntilStill_1 : decode cX7_minutesUntilStill 1 = .ok (.getfield 47, 3) := by decide +kernel
theorem dX7_minutesUntilStill_4 : decode cX7_minutesUntilStill 4 = .ok (.aload_n 0, 1) := by decide +kernel
theorem dX7_minutesUntilStill_5 : decode cX7_minutesUntilStill 5 = .ok (.iload_n 1, 1) := by decide +kernel
theorem dX7_minutesUntilStill_6 : decode cX7_minutesUntilStill 6 = .ok (.invokevirtual 151, 3) := by decide +kernel
theorem dX7_minutesUntilStill_9 : decode cX7_minutesUntilStill 9 = .ok (.invokevirtual 222, 3) := by decide +kernel
theorem dX7_minutesUntilStill_12 : decode cX7_minutesUntilStill 12 = .ok (.iconst 0, 1) := by decide +kernel
theorem dX7_minutesUntilStill_13 : decode cX7_minutesUntilStill 13 = .ok (.istore_n 2, 1) := by decide +kernel
theorem dX7_minutesUntilStill_14 : decode cX7_minutesUntilStill 14 = .ok (.iload_n 2, 1) := by decide +kernel
theorem dX7_minutesUntilStill_15 : decode cX7_minutesUntilStill 15 = .ok (.sipush 200, 3) := by decide +kernel
theorem dX7_minutesUntilStill_18 : decode cX7_minutesUntilStill 18 = .ok (.if_icmp .gt 54, 3) := by decide +kernel
theorem dX7_minutesUntilStill_21 : decode cX7_minutesUntilStill 21 = .ok (.aload_n 0, 1) := by decide +kernel
theorem dX7_minutesUntilStill_22 : decode cX7_minutesUntilStill 22 = .ok (.getfield 10, 3) := by decide +kernel
theorem dX7_minutesUntilStill_25 : decode cX7_minutesUntilStill 25 = .ok (.aload_n 0, 1) := by decide +kernel
theorem dX7_minutesUntilStill_26 : decode cX7_minutesUntilStill 26 = .ok (.getfield 47, 3) := by decide +kernel
theorem dX7_minutesUntilStill_29 : decode cX7_minutesUntilStill 29 = .ok (.invokevirtual 231, 3) := by decide +kernel
theorem dX7_minutesUntilStill_32 : decode cX7_minutesUntilStill 32 = .ok (.ifCond .eq 5, 3) := by decide +kernel
theorem dX7_minutesUntilStill_35 : decode cX7_minutesUntilStill 35 = .ok (.iload_n 2, 1) := by decide +kernel
theorem dX7_minutesUntilStill_36 : decode cX7_minutesUntilStill 36 = .ok (.ireturn, 1) := by decide +kernel
theorem dX7_minutesUntilStill_37 : decode cX7_minutesUntilStill 37 = .ok (.aload_n 0, 1) := by decide +kernel
theorem dX7_minutesUntilStill_38 : decode cX7_minutesUntilStill 38 = .ok (.getfield 47, 3) := by decide +kernel
theorem dX7_minutesUntilStill_41 : decode cX7_minutesUntilStill 41 = .ok (.aload_n 0, 1) := by decide +kernel
theorem dX7_minutesUntilStill_42 : decode cX7_minutesUntilStill 42 = .ok (.getfield 10, 3) := by decide +kernel
theorem dX7_minutesUntilStill_45 : decode cX7_minutesUntilStill 45 = .ok (.getfield 129, 3) := by decide +kernel
theorem dX7_minutesUntilStill_48 : decode cX7_minutesUntilStill 48 = .ok (.iload_n 2, 1) := by decide +kernel
theorem dX7_minutesUntilStill_49 : decode cX7_minutesUntilStill 49 = .ok (.iadd, 1) := by decide +kernel
theorem dX7_minutesUntilStill_50 : decode cX7_minutesUntilStill 50 = .ok (.iconst 1, 1) := by decide +kernel
theorem dX7_minutesUntilStill_51 : decode cX7_minutesUntilStill 51 = .ok (.iadd, 1) := by decide +kernel
theorem dX7_minutesUntilStill_52 : decode cX7_minutesUntilStill 52 = .ok (.aload_n 0, 1) := by decide +kernel
theorem dX7_minutesUntilStill_53 : decode cX7_minutesUntilStill 53 = .ok (.getfield 10, 3) := by decide +kernel
theorem dX7_minutesUntilStill_56 : decode cX7_minutesUntilStill 56 = .ok (.aload_n 0, 1) := by decide +kernel
theorem dX7_minutesUntilStill_57 : decode cX7_minutesUntilStill 57 = .ok (.getfield 47, 3) := by decide +kernel
theorem dX7_minutesUntilStill_60 : decode cX7_minutesUntilStill 60 = .ok (.invokevirtual 181, 3) := by decide +kernel
theorem dX7_minutesUntilStill_63 : decode cX7_minutesUntilStill 63 = .ok (.invokevirtual 227, 3) := by decide +kernel
theorem dX7_minutesUntilStill_66 : decode cX7_minutesUntilStill 66 = .ok (.iinc 2 1, 3) := by decide +kernel
theorem dX7_minutesUntilStill_69 : decode cX7_minutesUntilStill 69 = .ok (.goto (-55), 3) := by decide +kernel
theorem dX7_minutesUntilStill_72 : decode cX7_minutesUntilStill 72 = .ok (.iconst (-1), 1) := by decide +kernel
theorem dX7_minutesUntilStill_73 : decode cX7_minutesUntilStill 73 = .ok (.ireturn, 1) := by decide +kernel
theorem dX7_hairDifference_0 : decode cX7_hairDifference 0 = .ok (.aload_n 0, 1) := by decide +kernel
theorem dX7_hairDifference_1 : decode cX7_hairDifference 1 = .ok (.getfield 10, 3) := by decide +kernel
theorem dX7_hairDifference_4 : decode cX7_hairDifference 4 = .ok (.invokevirtual 234, 3) := by decide +kernel
theorem dX7_hairDifference_7 : decode cX7_hairDifference 7 = .ok (.aload_n 0, 1) := by decide +kernel
theorem dX7_hairDifference_8 : decode cX7_hairDifference 8 = .ok (.getfield 10, 3) := by decide +kernel
theorem dX7_hairDifference_11 : decode cX7_hairDifference 11 = .ok (.invokevirtual 237, 3) := by decide +kernel
theorem dX7_hairDifference_14 : decode cX7_hairDifference 14 = .ok (.isub, 1) := by decide +kernel
theorem dX7_hairDifference_15 : decode cX7_hairDifference 15 = .ok (.invokestatic 240, 3) := by decide +kernel
theorem dX7_hairDifference_18 : decode cX7_hairDifference 18 = .ok (.ireturn, 1) := by decide +kernel
theorem dX7_meanReading_0 : decode cX7_meanReading 0 = .ok (.aload_n 0, 1) := by decide +kernel
theorem dX7_meanReading_1 : decode cX7_meanReading 1 = .ok (.getfield 10, 3) := by decide +kernel
theorem dX7_meanReading_4 : decode cX7_meanReading 4 = .ok (.getfield 123, 3) := by decide +kernel
theorem dX7_meanReading_7 : decode cX7_meanReading 7 = .ok (.ifCond .ne 5, 3) := by decide +kernel
theorem dX7_meanReading_10 : decode cX7_meanReading 10 = .ok (.dconst 0, 1) := by decide +kernel
theorem dX7_meanReading_11 : decode cX7_meanReading 11 = .ok (.dreturn, 1) := by decide +kernel
theorem dX7_meanReading_12 : decode cX7_meanReading 12 = .ok (.aload_n 0, 1) := by decide +kernel
theorem dX7_meanReading_13 : decode cX7_meanReading 13 = .ok (.getfield 10, 3) := by decide +kernel
theorem dX7_meanReading_16 : decode cX7_meanReading 16 = .ok (.invokevirtual 245, 3) := by decide +kernel
theorem dX7_meanReading_19 : decode cX7_meanReading 19 = .ok (.i2d, 1) := by decide +kernel
theorem dX7_meanReading_20 : decode cX7_meanReading 20 = .ok (.aload_n 0, 1) := by decide +kernel
theorem dX7_meanReading_21 : decode cX7_meanReading 21 = .ok (.getfield 10, 3) := by decide +kernel
theorem dX7_meanReading_24 : decode cX7_meanReading 24 = .ok (.getfield 123, 3) := by decide +kernel
theorem dX7_meanReading_27 : decode cX7_meanReading 27 = .ok (.i2d, 1) := by decide +kernel
theorem dX7_meanReading_28 : decode cX7_meanReading 28 = .ok (.ddiv, 1) := by decide +kernel
theorem dX7_meanReading_29 : decode cX7_meanReading 29 = .ok (.dreturn, 1) := by decide +kernel
theorem dX7_usableShare_0 : decode cX7_usableShare 0 = .ok (.aload_n 0, 1) := by decide +kernel
theorem dX7_usableShare_1 : decode cX7_usableShare 1 = .ok (.getfield 10, 3) := by decide +kernel
theorem dX7_usableShare_4 : decode cX7_usableShare 4 = .ok (.getfield 123, 3) := by decide +kernel
theorem dX7_usableShare_7 : decode cX7_usableShare 7 = .ok (.ifCond .ne 5, 3) := by decide +kernel
theorem dX7_usableShare_10 : decode cX7_usableShare 10 = .ok (.fconst 0, 1) := by decide +kernel
theorem dX7_usableShare_11 : decode cX7_usableShare 11 = .ok (.freturn, 1) := by decide +kernel
theorem dX7_usableShare_12 : decode cX7_usableShare 12 = .ok (.aload_n 0, 1) := by decide +kernel
theorem dX7_usableShare_13 : decode cX7_usableShare 13 = .ok (.getfield 10, 3) := by decide +kernel
theorem dX7_usableShare_16 : decode cX7_usableShare 16 = .ok (.invokevirtual 204, 3) := by decide +kernel
theorem dX7_usableShare_19 : decode cX7_usableShare 19 = .ok (.i2f, 1) := by decide +kernel
theorem dX7_usableShare_20 : decode cX7_usableShare 20 = .ok (.aload_n 0, 1) := by decide +kernel
theorem dX7_usableShare_21 : decode cX7_usableShare 21 = .ok (.getfield 10, 3) := by decide +kernel
theorem dX7_usableShare_24 : decode cX7_usableShare 24 = .ok (.getfield 123, 3) := by decide +kernel
theorem dX7_usableShare_27 : decode cX7_usableShare 27 = .ok (.i2f, 1) := by decide +kernel
theorem dX7_usableShare_28 : decode cX7_usableShare 28 = .ok (.fdiv, 1) := by decide +kernel
theorem dX7_usableShare_29 : decode cX7_usableShare 29 = .ok (.freturn, 1) := by decide +kernel
theorem dX7_advance_0 : decode cX7_advance 0 = .ok (.iload_n 1, 1) := by decide +kernel
theorem dX7_advance_1 : decode cX7_advance 1 = .ok (.iconst 1, 1) := by decide +kernel
theorem dX7_advance_2 : decode cX7_advance 2 = .ok (.if_icmp .lt 9, 3) := by decide +kernel
theorem dX7_advance_5 : decode cX7_advance 5 = .ok (.iload_n 1, 1) := by decide +kernel
theorem dX7_advance_6 : decode cX7_advance 6 = .ok (.bipush 99, 2) := by decide +kernel
theorem dX7_advance_8 : decode cX7_advance 8 = .ok (.if_icmp .le 13, 3) := by decide +kernel
theorem dX7_advance_11 : decode cX7_advance 11 = .ok (.new 107, 3) := by decide +kernel
theorem dX7_advance_14 : decode cX7_advance 14 = .ok (.dup, 1) := by decide +kernel
theorem dX7_advance_15 : decode cX7_advance 15 = .ok (.ldc 225, 2) := by decide +kernel
theorem dX7_advance_17 : decode cX7_advance 17 = .ok (.invokespecial 111, 3) := by decide +kernel
theorem dX7_advance_20 : decode cX7_advance 20 = .ok (.athrow, 1) := by decide +kernel
theorem dX7_advance_21 : decode cX7_advance 21 = .ok (.iload_n 1, 1) := by decide +kernel
theorem dX7_advance_22 : decode cX7_advance 22 = .ok (.sipush 9999, 3) := by decide +kernel
theorem dX7_advance_25 : decode cX7_advance 25 = .ok (.aload_n 0, 1) := by decide +kernel
theorem dX7_advance_26 : decode cX7_advance 26 = .ok (.getfield 10, 3) := by decide +kernel
theorem dX7_advance_29 : decode cX7_advance 29 = .ok (.getfield 129, 3) := by decide +kernel
theorem dX7_advance_32 : decode cX7_advance 32 = .ok (.isub, 1) := by decide +kernel
theorem dX7_advance_33 : decode cX7_advance 33 = .ok (.if_icmp .le 13, 3) := by decide +kernel
theorem dX7_advance_36 : decode cX7_advance 36 = .ok (.new 86, 3) := by decide +kernel
theorem dX7_advance_39 : decode cX7_advance 39 = .ok (.dup, 1) := by decide +kernel
theorem dX7_advance_40 : decode cX7_advance 40 = .ok (.ldc 248, 2) := by decide +kernel
theorem dX7_advance_42 : decode cX7_advance 42 = .ok (.invokespecial 90, 3) := by decide +kernel
theorem dX7_advance_45 : decode cX7_advance 45 = .ok (.athrow, 1) := by decide +kernel
theorem dX7_advance_46 : decode cX7_advance 46 = .ok (.aload_n 0, 1) := by decide +kernel
theorem dX7_advance_47 : decode cX7_advance 47 = .ok (.getfield 26, 3) := by decide +kernel
theorem dX7_advance_50 : decode cX7_advance 50 = .ok (.aload_n 0, 1) := by decide +kernel
theorem dX7_advance_51 : decode cX7_advance 51 = .ok (.getfield 10, 3) := by decide +kernel
theorem dX7_advance_54 : decode cX7_advance 54 = .ok (.invokevirtual 250, 3) := by decide +kernel
theorem dX7_advance_57 : decode cX7_advance 57 = .ok (.aload_n 0, 1) := by decide +kernel
theorem dX7_advance_58 : decode cX7_advance 58 = .ok (.getfield 10, 3) := by decide +kernel
theorem dX7_advance_61 : decode cX7_advance 61 = .ok (.iload_n 1, 1) := by decide +kernel
theorem dX7_advance_62 : decode cX7_advance 62 = .ok (.invokevirtual 66, 3) := by decide +kernel
theorem dX7_advance_65 : decode cX7_advance 65 = .ok (.ireturn, 1) := by decide +kernel
theorem dX7_setHumidity_0 : decode cX7_setHumidity 0 = .ok (.iload_n 1, 1) := by decide +kernel
theorem dX7_setHumidity_1 : decode cX7_setHumidity 1 = .ok (.ifCond .lt 9, 3) := by decide +kernel
theorem dX7_setHumidity_4 : decode cX7_setHumidity 4 = .ok (.iload_n 1, 1) := by decide +kernel
theorem dX7_setHumidity_5 : decode cX7_setHumidity 5 = .ok (.bipush 100, 2) := by decide +kernel
theorem dX7_setHumidity_7 : decode cX7_setHumidity 7 = .ok (.if_icmp .le 13, 3) := by decide +kernel
theorem dX7_setHumidity_10 : decode cX7_setHumidity 10 = .ok (.new 107, 3) := by decide +kernel
theorem dX7_setHumidity_13 : decode cX7_setHumidity 13 = .ok (.dup, 1) := by decide +kernel
theorem dX7_setHumidity_14 : decode cX7_setHumidity 14 = .ok (.ldc 253, 2) := by decide +kernel
theorem dX7_setHumidity_16 : decode cX7_setHumidity 16 = .ok (.invokespecial 111, 3) := by decide +kernel
theorem dX7_setHumidity_19 : decode cX7_setHumidity 19 = .ok (.athrow, 1) := by decide +kernel
theorem dX7_setHumidity_20 : decode cX7_setHumidity 20 = .ok (.aload_n 0, 1) := by decide +kernel
theorem dX7_setHumidity_21 : decode cX7_setHumidity 21 = .ok (.getfield 26, 3) := by decide +kernel
theorem dX7_setHumidity_24 : decode cX7_setHumidity 24 = .ok (.aload_n 0, 1) := by decide +kernel
theorem dX7_setHumidity_25 : decode cX7_setHumidity 25 = .ok (.getfield 10, 3) := by decide +kernel
theorem dX7_setHumidity_28 : decode cX7_setHumidity 28 = .ok (.invokevirtual 250, 3) := by decide +kernel
theorem dX7_setHumidity_31 : decode cX7_setHumidity 31 = .ok (.aload_n 0, 1) := by decide +kernel
theorem dX7_setHumidity_32 : decode cX7_setHumidity 32 = .ok (.getfield 10, 3) := by decide +kernel
theorem dX7_setHumidity_35 : decode cX7_setHumidity 35 = .ok (.getfield 62, 3) := by decide +kernel
theorem dX7_setHumidity_38 : decode cX7_setHumidity 38 = .ok (.istore_n 2, 1) := by decide +kernel
theorem dX7_setHumidity_39 : decode cX7_setHumidity 39 = .ok (.aload_n 0, 1) := by decide +kernel
theorem dX7_setHumidity_40 : decode cX7_setHumidity 40 = .ok (.getfield 10, 3) := by decide +kernel
theorem dX7_setHumidity_43 : decode cX7_setHumidity 43 = .ok (.iload_n 1, 1) := by decide +kernel
theorem dX7_setHumidity_44 : decode cX7_setHumidity 44 = .ok (.putfield 62, 3) := by decide +kernel
theorem dX7_setHumidity_47 : decode cX7_setHumidity 47 = .ok (.iload_n 2, 1) := by decide +kernel
theorem dX7_setHumidity_48 : decode cX7_setHumidity 48 = .ok (.ireturn, 1) := by decide +kernel
theorem dX7_setTemperature_0 : decode cX7_setTemperature 0 = .ok (.iload_n 1, 1) := by decide +kernel
theorem dX7_setTemperature_1 : decode cX7_setTemperature 1 = .ok (.ifCond .lt 9, 3) := by decide +kernel
theorem dX7_setTemperature_4 : decode cX7_setTemperature 4 = .ok (.iload_n 1, 1) := by decide +kernel
theorem dX7_setTemperature_5 : decode cX7_setTemperature 5 = .ok (.bipush 40, 2) := by decide +kernel
theorem dX7_setTemperature_7 : decode cX7_setTemperature 7 = .ok (.if_icmp .le 13, 3) := by decide +kernel
theorem dX7_setTemperature_10 : decode cX7_setTemperature 10 = .ok (.new 107, 3) := by decide +kernel
theorem dX7_setTemperature_13 : decode cX7_setTemperature 13 = .ok (.dup, 1) := by decide +kernel
theorem dX7_setTemperature_14 : decode cX7_setTemperature 14 = .ok (.ldc 255, 2) := by decide +kernel
theorem dX7_setTemperature_16 : decode cX7_setTemperature 16 = .ok (.invokespecial 111, 3) := by decide +kernel
theorem dX7_setTemperature_19 : decode cX7_setTemperature 19 = .ok (.athrow, 1) := by decide +kernel
theorem dX7_setTemperature_20 : decode cX7_setTemperature 20 = .ok (.aload_n 0, 1) := by decide +kernel
theorem dX7_setTemperature_21 : decode cX7_setTemperature 21 = .ok (.getfield 26, 3) := by decide +kernel
theorem dX7_setTemperature_24 : decode cX7_setTemperature 24 = .ok (.aload_n 0, 1) := by decide +kernel
theorem dX7_setTemperature_25 : decode cX7_setTemperature 25 = .ok (.getfield 10, 3) := by decide +kernel
theorem dX7_setTemperature_28 : decode cX7_setTemperature 28 = .ok (.invokevirtual 250, 3) := by decide +kernel
theorem dX7_setTemperature_31 : decode cX7_setTemperature 31 = .ok (.aload_n 0, 1) := by decide +kernel
theorem dX7_setTemperature_32 : decode cX7_setTemperature 32 = .ok (.getfield 10, 3) := by decide +kernel
theorem dX7_setTemperature_35 : decode cX7_setTemperature 35 = .ok (.getfield 132, 3) := by decide +kernel
theorem dX7_setTemperature_38 : decode cX7_setTemperature 38 = .ok (.istore_n 2, 1) := by decide +kernel
theorem dX7_setTemperature_39 : decode cX7_setTemperature 39 = .ok (.aload_n 0, 1) := by decide +kernel
theorem dX7_setTemperature_40 : decode cX7_setTemperature 40 = .ok (.getfield 10, 3) := by decide +kernel
theorem dX7_setTemperature_43 : decode cX7_setTemperature 43 = .ok (.iload_n 1, 1) := by decide +kernel
theorem dX7_setTemperature_44 : decode cX7_setTemperature 44 = .ok (.putfield 132, 3) := by decide +kernel
theorem dX7_setTemperature_47 : decode cX7_setTemperature 47 = .ok (.iload_n 2, 1) := by decide +kernel
theorem dX7_setTemperature_48 : decode cX7_setTemperature 48 = .ok (.ireturn, 1) := by decide +kernel
theorem dX7_setSkill_0 : decode cX7_setSkill 0 = .ok (.iload_n 1, 1) := by decide +kernel
theorem dX7_setSkill_1 : decode cX7_setSkill 1 = .ok (.ifCond .lt 8, 3) := by decide +kernel
theorem dX7_setSkill_4 : decode cX7_setSkill 4 = .ok (.iload_n 1, 1) := by decide +kernel
theorem dX7_setSkill_5 : decode cX7_setSkill 5 = .ok (.iconst 5, 1) := by decide +kernel
theorem dX7_setSkill_6 : decode cX7_setSkill 6 = .ok (.if_icmp .le 14, 3) := by decide +kernel
theorem dX7_setSkill_9 : decode cX7_setSkill 9 = .ok (.new 107, 3) := by decide +kernel
theorem dX7_setSkill_12 : decode cX7_setSkill 12 = .ok (.dup, 1) := by decide +kernel
theorem dX7_setSkill_13 : decode cX7_setSkill 13 = .ok (.ldc_w 257, 3) := by decide +kernel
theorem dX7_setSkill_16 : decode cX7_setSkill 16 = .ok (.invokespecial 111, 3) := by decide +kernel
theorem dX7_setSkill_19 : decode cX7_setSkill 19 = .ok (.athrow, 1) := by decide +kernel
theorem dX7_setSkill_20 : decode cX7_setSkill 20 = .ok (.aload_n 0, 1) := by decide +kernel
theorem dX7_setSkill_21 : decode cX7_setSkill 21 = .ok (.getfield 26, 3) := by decide +kernel
theorem dX7_setSkill_24 : decode cX7_setSkill 24 = .ok (.aload_n 0, 1) := by decide +kernel
theorem dX7_setSkill_25 : decode cX7_setSkill 25 = .ok (.getfield 10, 3) := by decide +kernel
theorem dX7_setSkill_28 : decode cX7_setSkill 28 = .ok (.invokevirtual 250, 3) := by decide +kernel
theorem dX7_setSkill_31 : decode cX7_setSkill 31 = .ok (.aload_n 0, 1) := by decide +kernel
theorem dX7_setSkill_32 : decode cX7_setSkill 32 = .ok (.getfield 10, 3) := by decide +kernel
theorem dX7_setSkill_35 : decode cX7_setSkill 35 = .ok (.getfield 135, 3) := by decide +kernel
theorem dX7_setSkill_38 : decode cX7_setSkill 38 = .ok (.istore_n 2, 1) := by decide +kernel
theorem dX7_setSkill_39 : decode cX7_setSkill 39 = .ok (.aload_n 0, 1) := by decide +kernel
theorem dX7_setSkill_40 : decode cX7_setSkill 40 = .ok (.getfield 10, 3) := by decide +kernel
theorem dX7_setSkill_43 : decode cX7_setSkill 43 = .ok (.iload_n 1, 1) := by decide +kernel
theorem dX7_setSkill_44 : decode cX7_setSkill 44 = .ok (.putfield 135, 3) := by decide +kernel
theorem dX7_setSkill_47 : decode cX7_setSkill 47 = .ok (.iload_n 2, 1) := by decide +kernel
theorem dX7_setSkill_48 : decode cX7_setSkill 48 = .ok (.ireturn, 1) := by decide +kernel
theorem dX7_putInBox_0 : decode cX7_putInBox 0 = .ok (.aload_n 0, 1) := by decide +kernel
theorem dX7_putInBox_1 : decode cX7_putInBox 1 = .ok (.iload_n 1, 1) := by decide +kernel
theorem dX7_putInBox_2 : decode cX7_putInBox 2 = .ok (.invokevirtual 151, 3) := by decide +kernel
theorem dX7_putInBox_5 : decode cX7_putInBox 5 = .ok (.astore_n 3, 1) := by decide +kernel
theorem dX7_putInBox_6 : decode cX7_putInBox 6 = .ok (.iload_n 2, 1) := by decide +kernel
theorem dX7_putInBox_7 : decode cX7_putInBox 7 = .ok (.invokestatic 141, 3) := by decide +kernel
theorem dX7_putInBox_10 : decode cX7_putInBox 10 = .ok (.ifCond .ne 13, 3) := by decide +kernel
theorem dX7_putInBox_13 : decode cX7_putInBox 13 = .ok (.new 107, 3) := by decide +kernel
theorem dX7_putInBox_16 : decode cX7_putInBox 16 = .ok (.dup, 1) := by decide +kernel
theorem dX7_putInBox_17 : decode cX7_putInBox 17 = .ok (.ldc 145, 2) := by decide +kernel
theorem dX7_putInBox_19 : decode cX7_putInBox 19 = .ok (.invokespecial 111, 3) := by decide +kernel
theorem dX7_putInBox_22 : decode cX7_putInBox 22 = .ok (.athrow, 1) := by decide +kernel
theorem dX7_putInBox_23 : decode cX7_putInBox 23 = .ok (.aload_n 3, 1) := by decide +kernel
theorem dX7_putInBox_24 : decode cX7_putInBox 24 = .ok (.invokevirtual 259, 3) := by decide +kernel
theorem dX7_putInBox_27 : decode cX7_putInBox 27 = .ok (.ifCond .eq 14, 3) := by decide +kernel
theorem dX7_putInBox_30 : decode cX7_putInBox 30 = .ok (.new 86, 3) := by decide +kernel
theorem dX7_putInBox_33 : decode cX7_putInBox 33 = .ok (.dup, 1) := by decide +kernel
theorem dX7_putInBox_34 : decode cX7_putInBox 34 = .ok (.ldc_w 263, 3) := by decide +kernel
theorem dX7_putInBox_37 : decode cX7_putInBox 37 = .ok (.invokespecial 90, 3) := by decide +kernel
theorem dX7_putInBox_40 : decode cX7_putInBox 40 = .ok (.athrow, 1) := by decide +kernel
theorem dX7_putInBox_41 : decode cX7_putInBox 41 = .ok (.aload_n 0, 1) := by decide +kernel
theorem dX7_putInBox_42 : decode cX7_putInBox 42 = .ok (.getfield 26, 3) := by decide +kernel
theorem dX7_putInBox_45 : decode cX7_putInBox 45 = .ok (.aload_n 0, 1) := by decide +kernel
theorem dX7_putInBox_46 : decode cX7_putInBox 46 = .ok (.getfield 10, 3) := by decide +kernel
theorem dX7_putInBox_49 : decode cX7_putInBox 49 = .ok (.invokevirtual 250, 3) := by decide +kernel
theorem dX7_putInBox_52 : decode cX7_putInBox 52 = .ok (.aload_n 3, 1) := by decide +kernel
theorem dX7_putInBox_53 : decode cX7_putInBox 53 = .ok (.iload_n 2, 1) := by decide +kernel
theorem dX7_putInBox_54 : decode cX7_putInBox 54 = .ok (.putfield 74, 3) := by decide +kernel
theorem dX7_putInBox_57 : decode cX7_putInBox 57 = .ok (.aload_n 0, 1) := by decide +kernel
theorem dX7_putInBox_58 : decode cX7_putInBox 58 = .ok (.getfield 10, 3) := by decide +kernel
theorem dX7_putInBox_61 : decode cX7_putInBox 61 = .ok (.aload_n 3, 1) := by decide +kernel
theorem dX7_putInBox_62 : decode cX7_putInBox 62 = .ok (.invokevirtual 181, 3) := by decide +kernel
theorem dX7_putInBox_65 : decode cX7_putInBox 65 = .ok (.ireturn, 1) := by decide +kernel
theorem dX7_takeOut_0 : decode cX7_takeOut 0 = .ok (.aload_n 0, 1) := by decide +kernel
theorem dX7_takeOut_1 : decode cX7_takeOut 1 = .ok (.iload_n 1, 1) := by decide +kernel
theorem dX7_takeOut_2 : decode cX7_takeOut 2 = .ok (.invokevirtual 151, 3) := by decide +kernel
theorem dX7_takeOut_5 : decode cX7_takeOut 5 = .ok (.astore_n 2, 1) := by decide +kernel
theorem dX7_takeOut_6 : decode cX7_takeOut 6 = .ok (.aload_n 2, 1) := by decide +kernel
theorem dX7_takeOut_7 : decode cX7_takeOut 7 = .ok (.invokevirtual 259, 3) := by decide +kernel
theorem dX7_takeOut_10 : decode cX7_takeOut 10 = .ok (.ifCond .ne 14, 3) := by decide +kernel
theorem dX7_takeOut_13 : decode cX7_takeOut 13 = .ok (.new 86, 3) := by decide +kernel
theorem dX7_takeOut_16 : decode cX7_takeOut 16 = .ok (.dup, 1) := by decide +kernel
theorem dX7_takeOut_17 : decode cX7_takeOut 17 = .ok (.ldc_w 265, 3) := by decide +kernel
theorem dX7_takeOut_20 : decode cX7_takeOut 20 = .ok (.invokespecial 90, 3) := by decide +kernel
theorem dX7_takeOut_23 : decode cX7_takeOut 23 = .ok (.athrow, 1) := by decide +kernel
theorem dX7_takeOut_24 : decode cX7_takeOut 24 = .ok (.aload_n 0, 1) := by decide +kernel
theorem dX7_takeOut_25 : decode cX7_takeOut 25 = .ok (.getfield 26, 3) := by decide +kernel
theorem dX7_takeOut_28 : decode cX7_takeOut 28 = .ok (.aload_n 0, 1) := by decide +kernel
theorem dX7_takeOut_29 : decode cX7_takeOut 29 = .ok (.getfield 10, 3) := by decide +kernel
theorem dX7_takeOut_32 : decode cX7_takeOut 32 = .ok (.invokevirtual 250, 3) := by decide +kernel
theorem dX7_takeOut_35 : decode cX7_takeOut 35 = .ok (.aload_n 2, 1) := by decide +kernel
theorem dX7_takeOut_36 : decode cX7_takeOut 36 = .ok (.getfield 74, 3) := by decide +kernel
theorem dX7_takeOut_39 : decode cX7_takeOut 39 = .ok (.istore_n 3, 1) := by decide +kernel
theorem dX7_takeOut_40 : decode cX7_takeOut 40 = .ok (.aload_n 2, 1) := by decide +kernel
theorem dX7_takeOut_41 : decode cX7_takeOut 41 = .ok (.iconst (-1), 1) := by decide +kernel
theorem dX7_takeOut_42 : decode cX7_takeOut 42 = .ok (.putfield 74, 3) := by decide +kernel
theorem dX7_takeOut_45 : decode cX7_takeOut 45 = .ok (.iload_n 3, 1) := by decide +kernel
theorem dX7_takeOut_46 : decode cX7_takeOut 46 = .ok (.ireturn, 1) := by decide +kernel
theorem dX7_calibrate_0 : decode cX7_calibrate 0 = .ok (.aload_n 0, 1) := by decide +kernel
theorem dX7_calibrate_1 : decode cX7_calibrate 1 = .ok (.iload_n 1, 1) := by decide +kernel
theorem dX7_calibrate_2 : decode cX7_calibrate 2 = .ok (.invokevirtual 151, 3) := by decide +kernel
theorem dX7_calibrate_5 : decode cX7_calibrate 5 = .ok (.astore_n 2, 1) := by decide +kernel
theorem dX7_calibrate_6 : decode cX7_calibrate 6 = .ok (.aload_n 0, 1) := by decide +kernel
theorem dX7_calibrate_7 : decode cX7_calibrate 7 = .ok (.getfield 10, 3) := by decide +kernel
theorem dX7_calibrate_10 : decode cX7_calibrate 10 = .ok (.aload_n 2, 1) := by decide +kernel
theorem dX7_calibrate_11 : decode cX7_calibrate 11 = .ok (.invokevirtual 201, 3) := by decide +kernel
theorem dX7_calibrate_14 : decode cX7_calibrate 14 = .ok (.ifCond .eq 14, 3) := by decide +kernel
theorem dX7_calibrate_17 : decode cX7_calibrate 17 = .ok (.new 86, 3) := by decide +kernel
theorem dX7_calibrate_20 : decode cX7_calibrate 20 = .ok (.dup, 1) := by decide +kernel
theorem dX7_calibrate_21 : decode cX7_calibrate 21 = .ok (.ldc_w 267, 3) := by decide +kernel
theorem dX7_calibrate_24 : decode cX7_calibrate 24 = .ok (.invokespecial 90, 3) := by decide +kernel
theorem dX7_calibrate_27 : decode cX7_calibrate 27 = .ok (.athrow, 1) := by decide +kernel
theorem dX7_calibrate_28 : decode cX7_calibrate 28 = .ok (.aload_n 0, 1) := by decide +kernel
theorem dX7_calibrate_29 : decode cX7_calibrate 29 = .ok (.getfield 26, 3) := by decide +kernel
theorem dX7_calibrate_32 : decode cX7_calibrate 32 = .ok (.aload_n 0, 1) := by decide +kernel
theorem dX7_calibrate_33 : decode cX7_calibrate 33 = .ok (.getfield 10, 3) := by decide +kernel
theorem dX7_calibrate_36 : decode cX7_calibrate 36 = .ok (.invokevirtual 250, 3) := by decide +kernel
theorem dX7_calibrate_39 : decode cX7_calibrate 39 = .ok (.aload_n 2, 1) := by decide +kernel
theorem dX7_calibrate_40 : decode cX7_calibrate 40 = .ok (.getfield 178, 3) := by decide +kernel
theorem dX7_calibrate_43 : decode cX7_calibrate 43 = .ok (.istore_n 3, 1) := by decide +kernel
theorem dX7_calibrate_44 : decode cX7_calibrate 44 = .ok (.aload_n 2, 1) := by decide +kernel
theorem dX7_calibrate_45 : decode cX7_calibrate 45 = .ok (.aload_n 0, 1) := by decide +kernel
theorem dX7_calibrate_46 : decode cX7_calibrate 46 = .ok (.getfield 10, 3) := by decide +kernel
theorem dX7_calibrate_49 : decode cX7_calibrate 49 = .ok (.aload_n 2, 1) := by decide +kernel
theorem dX7_calibrate_50 : decode cX7_calibrate 50 = .ok (.invokevirtual 181, 3) := by decide +kernel
theorem dX7_calibrate_53 : decode cX7_calibrate 53 = .ok (.aload_n 0, 1) := by decide +kernel
theorem dX7_calibrate_54 : decode cX7_calibrate 54 = .ok (.getfield 10, 3) := by decide +kernel
theorem dX7_calibrate_57 : decode cX7_calibrate 57 = .ok (.aload_n 2, 1) := by decide +kernel
theorem dX7_calibrate_58 : decode cX7_calibrate 58 = .ok (.invokevirtual 184, 3) := by decide +kernel
theorem dX7_calibrate_61 : decode cX7_calibrate 61 = .ok (.isub, 1) := by decide +kernel
theorem dX7_calibrate_62 : decode cX7_calibrate 62 = .ok (.putfield 178, 3) := by decide +kernel
theorem dX7_calibrate_65 : decode cX7_calibrate 65 = .ok (.iload_n 3, 1) := by decide +kernel
theorem dX7_calibrate_66 : decode cX7_calibrate 66 = .ok (.ireturn, 1) := by decide +kernel
theorem dX7_tighten_0 : decode cX7_tighten 0 = .ok (.aload_n 0, 1) := by decide +kernel
theorem dX7_tighten_1 : decode cX7_tighten 1 = .ok (.iload_n 1, 1) := by decide +kernel
theorem dX7_tighten_2 : decode cX7_tighten 2 = .ok (.invokevirtual 151, 3) := by decide +kernel
theorem dX7_tighten_5 : decode cX7_tighten 5 = .ok (.astore_n 2, 1) := by decide +kernel
theorem dX7_tighten_6 : decode cX7_tighten 6 = .ok (.aload_n 2, 1) := by decide +kernel
theorem dX7_tighten_7 : decode cX7_tighten 7 = .ok (.getfield 155, 3) := by decide +kernel
theorem dX7_tighten_10 : decode cX7_tighten 10 = .ok (.ifCond .eq 10, 3) := by decide +kernel
theorem dX7_tighten_13 : decode cX7_tighten 13 = .ok (.aload_n 2, 1) := by decide +kernel
theorem dX7_tighten_14 : decode cX7_tighten 14 = .ok (.getfield 159, 3) := by decide +kernel
theorem dX7_tighten_17 : decode cX7_tighten 17 = .ok (.ifCond .ne 14, 3) := by decide +kernel
theorem dX7_tighten_20 : decode cX7_tighten 20 = .ok (.new 86, 3) := by decide +kernel
theorem dX7_tighten_23 : decode cX7_tighten 23 = .ok (.dup, 1) := by decide +kernel
theorem dX7_tighten_24 : decode cX7_tighten 24 = .ok (.ldc_w 269, 3) := by decide +kernel
theorem dX7_tighten_27 : decode cX7_tighten 27 = .ok (.invokespecial 90, 3) := by decide +kernel
theorem dX7_tighten_30 : decode cX7_tighten 30 = .ok (.athrow, 1) := by decide +kernel
theorem dX7_tighten_31 : decode cX7_tighten 31 = .ok (.aload_n 0, 1) := by decide +kernel
theorem dX7_tighten_32 : decode cX7_tighten 32 = .ok (.getfield 26, 3) := by decide +kernel
theorem dX7_tighten_35 : decode cX7_tighten 35 = .ok (.aload_n 0, 1) := by decide +kernel
theorem dX7_tighten_36 : decode cX7_tighten 36 = .ok (.getfield 10, 3) := by decide +kernel
theorem dX7_tighten_39 : decode cX7_tighten 39 = .ok (.invokevirtual 250, 3) := by decide +kernel
theorem dX7_tighten_42 : decode cX7_tighten 42 = .ok (.aload_n 2, 1) := by decide +kernel
theorem dX7_tighten_43 : decode cX7_tighten 43 = .ok (.getfield 168, 3) := by decide +kernel
theorem dX7_tighten_46 : decode cX7_tighten 46 = .ok (.istore_n 3, 1) := by decide +kernel
theorem dX7_tighten_47 : decode cX7_tighten 47 = .ok (.aload_n 2, 1) := by decide +kernel
theorem dX7_tighten_48 : decode cX7_tighten 48 = .ok (.invokevirtual 271, 3) := by decide +kernel
theorem dX7_tighten_51 : decode cX7_tighten 51 = .ok (.iload_n 3, 1) := by decide +kernel
theorem dX7_tighten_52 : decode cX7_tighten 52 = .ok (.ireturn, 1) := by decide +kernel
theorem dX7_moisten_0 : decode cX7_moisten 0 = .ok (.aload_n 0, 1) := by decide +kernel
theorem dX7_moisten_1 : decode cX7_moisten 1 = .ok (.iload_n 1, 1) := by decide +kernel
theorem dX7_moisten_2 : decode cX7_moisten 2 = .ok (.invokevirtual 151, 3) := by decide +kernel
theorem dX7_moisten_5 : decode cX7_moisten 5 = .ok (.astore_n 2, 1) := by decide +kernel
theorem dX7_moisten_6 : decode cX7_moisten 6 = .ok (.aload_n 2, 1) := by decide +kernel
theorem dX7_moisten_7 : decode cX7_moisten 7 = .ok (.getfield 155, 3) := by decide +kernel
theorem dX7_moisten_10 : decode cX7_moisten 10 = .ok (.ifCond .eq 14, 3) := by decide +kernel
theorem dX7_moisten_13 : decode cX7_moisten 13 = .ok (.new 86, 3) := by decide +kernel
theorem dX7_moisten_16 : decode cX7_moisten 16 = .ok (.dup, 1) := by decide +kernel
theorem dX7_moisten_17 : decode cX7_moisten 17 = .ok (.ldc_w 274, 3) := by decide +kernel
theorem dX7_moisten_20 : decode cX7_moisten 20 = .ok (.invokespecial 90, 3) := by decide +kernel
theorem dX7_moisten_23 : decode cX7_moisten 23 = .ok (.athrow, 1) := by decide +kernel
theorem dX7_moisten_24 : decode cX7_moisten 24 = .ok (.aload_n 0, 1) := by decide +kernel
theorem dX7_moisten_25 : decode cX7_moisten 25 = .ok (.getfield 26, 3) := by decide +kernel
theorem dX7_moisten_28 : decode cX7_moisten 28 = .ok (.aload_n 0, 1) := by decide +kernel
theorem dX7_moisten_29 : decode cX7_moisten 29 = .ok (.getfield 10, 3) := by decide +kernel
theorem dX7_moisten_32 : decode cX7_moisten 32 = .ok (.invokevirtual 250, 3) := by decide +kernel
theorem dX7_moisten_35 : decode cX7_moisten 35 = .ok (.aload_n 2, 1) := by decide +kernel
theorem dX7_moisten_36 : decode cX7_moisten 36 = .ok (.getfield 171, 3) := by decide +kernel
theorem dX7_moisten_39 : decode cX7_moisten 39 = .ok (.istore_n 3, 1) := by decide +kernel
theorem dX7_moisten_40 : decode cX7_moisten 40 = .ok (.aload_n 2, 1) := by decide +kernel
theorem dX7_moisten_41 : decode cX7_moisten 41 = .ok (.bipush 60, 2) := by decide +kernel
theorem dX7_moisten_43 : decode cX7_moisten 43 = .ok (.putfield 171, 3) := by decide +kernel
theorem dX7_moisten_46 : decode cX7_moisten 46 = .ok (.iload_n 3, 1) := by decide +kernel
theorem dX7_moisten_47 : decode cX7_moisten 47 = .ok (.ireturn, 1) := by decide +kernel
theorem dX7_addHairs_0 : decode cX7_addHairs 0 = .ok (.aload_n 0, 1) := by decide +kernel
theorem dX7_addHairs_1 : decode cX7_addHairs 1 = .ok (.iload_n 1, 1) := by decide +kernel
theorem dX7_addHairs_2 : decode cX7_addHairs 2 = .ok (.invokevirtual 151, 3) := by decide +kernel
theorem dX7_addHairs_5 : decode cX7_addHairs 5 = .ok (.astore_n 3, 1) := by decide +kernel
theorem dX7_addHairs_6 : decode cX7_addHairs 6 = .ok (.iload_n 2, 1) := by decide +kernel
theorem dX7_addHairs_7 : decode cX7_addHairs 7 = .ok (.iconst 1, 1) := by decide +kernel
theorem dX7_addHairs_8 : decode cX7_addHairs 8 = .ok (.if_icmp .lt 9, 3) := by decide +kernel
theorem dX7_addHairs_11 : decode cX7_addHairs 11 = .ok (.iload_n 2, 1) := by decide +kernel
theorem dX7_addHairs_12 : decode cX7_addHairs 12 = .ok (.bipush 20, 2) := by decide +kernel
theorem dX7_addHairs_14 : decode cX7_addHairs 14 = .ok (.if_icmp .le 14, 3) := by decide +kernel
theorem dX7_addHairs_17 : decode cX7_addHairs 17 = .ok (.new 107, 3) := by decide +kernel
theorem dX7_addHairs_20 : decode cX7_addHairs 20 = .ok (.dup, 1) := by decide +kernel
theorem dX7_addHairs_21 : decode cX7_addHairs 21 = .ok (.ldc_w 276, 3) := by decide +kernel
theorem dX7_addHairs_24 : decode cX7_addHairs 24 = .ok (.invokespecial 111, 3) := by decide +kernel
theorem dX7_addHairs_27 : decode cX7_addHairs 27 = .ok (.athrow, 1) := by decide +kernel
theorem dX7_addHairs_28 : decode cX7_addHairs 28 = .ok (.aload_n 3, 1) := by decide +kernel
theorem dX7_addHairs_29 : decode cX7_addHairs 29 = .ok (.getfield 155, 3) := by decide +kernel
theorem dX7_addHairs_32 : decode cX7_addHairs 32 = .ok (.ifCond .eq 25, 3) := by decide +kernel
theorem dX7_addHairs_35 : decode cX7_addHairs 35 = .ok (.aload_n 0, 1) := by decide +kernel
theorem dX7_addHairs_36 : decode cX7_addHairs 36 = .ok (.getfield 10, 3) := by decide +kernel
theorem dX7_addHairs_39 : decode cX7_addHairs 39 = .ok (.getfield 138, 3) := by decide +kernel
theorem dX7_addHairs_42 : decode cX7_addHairs 42 = .ok (.iload_n 2, 1) := by decide +kernel
theorem dX7_addHairs_43 : decode cX7_addHairs 43 = .ok (.if_icmp .lt 14, 3) := by decide +kernel
theorem dX7_addHairs_46 : decode cX7_addHairs 46 = .ok (.aload_n 3, 1) := by decide +kernel
theorem dX7_addHairs_47 : decode cX7_addHairs 47 = .ok (.getfield 159, 3) := by decide +kernel
theorem dX7_addHairs_50 : decode cX7_addHairs 50 = .ok (.iload_n 2, 1) := by decide +kernel
theorem dX7_addHairs_51 : decode cX7_addHairs 51 = .ok (.iadd, 1) := by decide +kernel
theorem dX7_addHairs_52 : decode cX7_addHairs 52 = .ok (.bipush 20, 2) := by decide +kernel
theorem dX7_addHairs_54 : decode cX7_addHairs 54 = .ok (.if_icmp .le 14, 3) := by decide +kernel
theorem dX7_addHairs_57 : decode cX7_addHairs 57 = .ok (.new 86, 3) := by decide +kernel
theorem dX7_addHairs_60 : decode cX7_addHairs 60 = .ok (.dup, 1) := by decide +kernel
theorem dX7_addHairs_61 : decode cX7_addHairs 61 = .ok (.ldc_w 278, 3) := by decide +kernel
theorem dX7_addHairs_64 : decode cX7_addHairs 64 = .ok (.invokespecial 90, 3) := by decide +kernel
theorem dX7_addHairs_67 : decode cX7_addHairs 67 = .ok (.athrow, 1) := by decide +kernel
theorem dX7_addHairs_68 : decode cX7_addHairs 68 = .ok (.aload_n 0, 1) := by decide +kernel
theorem dX7_addHairs_69 : decode cX7_addHairs 69 = .ok (.getfield 26, 3) := by decide +kernel
theorem dX7_addHairs_72 : decode cX7_addHairs 72 = .ok (.aload_n 0, 1) := by decide +kernel
theorem dX7_addHairs_73 : decode cX7_addHairs 73 = .ok (.getfield 10, 3) := by decide +kernel
theorem dX7_addHairs_76 : decode cX7_addHairs 76 = .ok (.invokevirtual 250, 3) := by decide +kernel
theorem dX7_addHairs_79 : decode cX7_addHairs 79 = .ok (.aload_n 0, 1) := by decide +kernel
theorem dX7_addHairs_80 : decode cX7_addHairs 80 = .ok (.getfield 10, 3) := by decide +kernel
theorem dX7_addHairs_83 : decode cX7_addHairs 83 = .ok (.dup, 1) := by decide +kernel
theorem dX7_addHairs_84 : decode cX7_addHairs 84 = .ok (.getfield 138, 3) := by decide +kernel
theorem dX7_addHairs_87 : decode cX7_addHairs 87 = .ok (.iload_n 2, 1) := by decide +kernel
theorem dX7_addHairs_88 : decode cX7_addHairs 88 = .ok (.isub, 1) := by decide +kernel
theorem dX7_addHairs_89 : decode cX7_addHairs 89 = .ok (.putfield 138, 3) := by decide +kernel
theorem dX7_addHairs_92 : decode cX7_addHairs 92 = .ok (.aload_n 3, 1) := by decide +kernel
theorem dX7_addHairs_93 : decode cX7_addHairs 93 = .ok (.dup, 1) := by decide +kernel
theorem dX7_addHairs_94 : decode cX7_addHairs 94 = .ok (.getfield 159, 3) := by decide +kernel
theorem dX7_addHairs_97 : decode cX7_addHairs 97 = .ok (.iload_n 2, 1) := by decide +kernel
theorem dX7_addHairs_98 : decode cX7_addHairs 98 = .ok (.iadd, 1) := by decide +kernel
theorem dX7_addHairs_99 : decode cX7_addHairs 99 = .ok (.putfield 159, 3) := by decide +kernel
theorem dX7_addHairs_102 : decode cX7_addHairs 102 = .ok (.aload_n 3, 1) := by decide +kernel
theorem dX7_addHairs_103 : decode cX7_addHairs 103 = .ok (.getfield 159, 3) := by decide +kernel
theorem dX7_addHairs_106 : decode cX7_addHairs 106 = .ok (.ireturn, 1) := by decide +kernel
theorem dX7_restore_0 : decode cX7_restore 0 = .ok (.iload_n 1, 1) := by decide +kernel
theorem dX7_restore_1 : decode cX7_restore 1 = .ok (.invokestatic 280, 3) := by decide +kernel
theorem dX7_restore_4 : decode cX7_restore 4 = .ok (.ifCond .ne 14, 3) := by decide +kernel
theorem dX7_restore_7 : decode cX7_restore 7 = .ok (.new 96, 3) := by decide +kernel
theorem dX7_restore_10 : decode cX7_restore 10 = .ok (.dup, 1) := by decide +kernel
theorem dX7_restore_11 : decode cX7_restore 11 = .ok (.ldc_w 283, 3) := by decide +kernel
theorem dX7_restore_14 : decode cX7_restore 14 = .ok (.invokespecial 100, 3) := by decide +kernel
theorem dX7_restore_17 : decode cX7_restore 17 = .ok (.athrow, 1) := by decide +kernel
theorem dX7_restore_18 : decode cX7_restore 18 = .ok (.aload_n 0, 1) := by decide +kernel
theorem dX7_restore_19 : decode cX7_restore 19 = .ok (.getfield 33, 3) := by decide +kernel
theorem dX7_restore_22 : decode cX7_restore 22 = .ok (.iload_n 1, 1) := by decide +kernel
theorem dX7_restore_23 : decode cX7_restore 23 = .ok (.invokevirtual 285, 3) := by decide +kernel
theorem dX7_restore_26 : decode cX7_restore 26 = .ok (.astore_n 2, 1) := by decide +kernel
theorem dX7_restore_27 : decode cX7_restore 27 = .ok (.aload_n 2, 1) := by decide +kernel
theorem dX7_restore_28 : decode cX7_restore 28 = .ok (.ifnonnull 14, 3) := by decide +kernel
theorem dX7_restore_31 : decode cX7_restore 31 = .ok (.new 86, 3) := by decide +kernel
theorem dX7_restore_34 : decode cX7_restore 34 = .ok (.dup, 1) := by decide +kernel
theorem dX7_restore_35 : decode cX7_restore 35 = .ok (.ldc_w 289, 3) := by decide +kernel
theorem dX7_restore_38 : decode cX7_restore 38 = .ok (.invokespecial 90, 3) := by decide +kernel
theorem dX7_restore_41 : decode cX7_restore 41 = .ok (.athrow, 1) := by decide +kernel
theorem dX7_restore_42 : decode cX7_restore 42 = .ok (.aload_n 0, 1) := by decide +kernel
theorem dX7_restore_43 : decode cX7_restore 43 = .ok (.getfield 26, 3) := by decide +kernel
theorem dX7_restore_46 : decode cX7_restore 46 = .ok (.aload_n 0, 1) := by decide +kernel
theorem dX7_restore_47 : decode cX7_restore 47 = .ok (.getfield 10, 3) := by decide +kernel
theorem dX7_restore_50 : decode cX7_restore 50 = .ok (.invokevirtual 250, 3) := by decide +kernel
theorem dX7_restore_53 : decode cX7_restore 53 = .ok (.aload_n 0, 1) := by decide +kernel
theorem dX7_restore_54 : decode cX7_restore 54 = .ok (.getfield 10, 3) := by decide +kernel
theorem dX7_restore_57 : decode cX7_restore 57 = .ok (.aload_n 2, 1) := by decide +kernel
theorem dX7_restore_58 : decode cX7_restore 58 = .ok (.invokevirtual 115, 3) := by decide +kernel
theorem dX7_restore_61 : decode cX7_restore 61 = .ok (.aload_n 0, 1) := by decide +kernel
theorem dX7_restore_62 : decode cX7_restore 62 = .ok (.getfield 10, 3) := by decide +kernel
theorem dX7_restore_65 : decode cX7_restore 65 = .ok (.getfield 129, 3) := by decide +kernel
theorem dX7_restore_68 : decode cX7_restore 68 = .ok (.ireturn, 1) := by decide +kernel
theorem dX7_undo_0 : decode cX7_undo 0 = .ok (.aload_n 0, 1) := by decide +kernel
theorem dX7_undo_1 : decode cX7_undo 1 = .ok (.getfield 26, 3) := by decide +kernel
theorem dX7_undo_4 : decode cX7_undo 4 = .ok (.getfield 291, 3) := by decide +kernel
theorem dX7_undo_7 : decode cX7_undo 7 = .ok (.ifCond .ne 14, 3) := by decide +kernel
theorem dX7_undo_10 : decode cX7_undo 10 = .ok (.new 86, 3) := by decide +kernel
theorem dX7_undo_13 : decode cX7_undo 13 = .ok (.dup, 1) := by decide +kernel
theorem dX7_undo_14 : decode cX7_undo 14 = .ok (.ldc_w 294, 3) := by decide +kernel
theorem dX7_undo_17 : decode cX7_undo 17 = .ok (.invokespecial 90, 3) := by decide +kernel
theorem dX7_undo_20 : decode cX7_undo 20 = .ok (.athrow, 1) := by decide +kernel
theorem dX7_undo_21 : decode cX7_undo 21 = .ok (.aload_n 0, 1) := by decide +kernel
theorem dX7_undo_22 : decode cX7_undo 22 = .ok (.getfield 26, 3) := by decide +kernel
theorem dX7_undo_25 : decode cX7_undo 25 = .ok (.aload_n 0, 1) := by decide +kernel
theorem dX7_undo_26 : decode cX7_undo 26 = .ok (.getfield 10, 3) := by decide +kernel
theorem dX7_undo_29 : decode cX7_undo 29 = .ok (.invokevirtual 296, 3) := by decide +kernel
theorem dX7_undo_32 : decode cX7_undo 32 = .ok (.aload_n 0, 1) := by decide +kernel
theorem dX7_undo_33 : decode cX7_undo 33 = .ok (.getfield 26, 3) := by decide +kernel
theorem dX7_undo_36 : decode cX7_undo 36 = .ok (.getfield 291, 3) := by decide +kernel
theorem dX7_undo_39 : decode cX7_undo 39 = .ok (.ireturn, 1) := by decide +kernel
theorem dX7_save_0 : decode cX7_save 0 = .ok (.iload_n 1, 1) := by decide +kernel
theorem dX7_save_1 : decode cX7_save 1 = .ok (.invokestatic 280, 3) := by decide +kernel
theorem dX7_save_4 : decode cX7_save 4 = .ok (.ifCond .ne 14, 3) := by decide +kernel
theorem dX7_save_7 : decode cX7_save 7 = .ok (.new 96, 3) := by decide +kernel
theorem dX7_save_10 : decode cX7_save 10 = .ok (.dup, 1) := by decide +kernel
theorem dX7_save_11 : decode cX7_save 11 = .ok (.ldc_w 283, 3) := by decide +kernel
theorem dX7_save_14 : decode cX7_save 14 = .ok (.invokespecial 100, 3) := by decide +kernel
theorem dX7_save_17 : decode cX7_save 17 = .ok (.athrow, 1) := by decide +kernel
theorem dX7_save_18 : decode cX7_save 18 = .ok (.aload_n 0, 1) := by decide +kernel
theorem dX7_save_19 : decode cX7_save 19 = .ok (.getfield 33, 3) := by decide +kernel
theorem dX7_save_22 : decode cX7_save 22 = .ok (.iload_n 1, 1) := by decide +kernel
theorem dX7_save_23 : decode cX7_save 23 = .ok (.aload_n 0, 1) := by decide +kernel
theorem dX7_save_24 : decode cX7_save 24 = .ok (.getfield 10, 3) := by decide +kernel
theorem dX7_save_27 : decode cX7_save 27 = .ok (.invokevirtual 299, 3) := by decide +kernel
theorem dX7_save_30 : decode cX7_save 30 = .ok (.aload_n 0, 1) := by decide +kernel
theorem dX7_save_31 : decode cX7_save 31 = .ok (.getfield 10, 3) := by decide +kernel
theorem dX7_save_34 : decode cX7_save 34 = .ok (.getfield 129, 3) := by decide +kernel
theorem dX7_save_37 : decode cX7_save 37 = .ok (.ireturn, 1) := by decide +kernel
theorem dX7_instrumentAt_0 : decode cX7_instrumentAt 0 = .ok (.aload_n 0, 1) := by decide +kernel
theorem dX7_instrumentAt_1 : decode cX7_instrumentAt 1 = .ok (.getfield 10, 3) := by decide +kernel
theorem dX7_instrumentAt_4 : decode cX7_instrumentAt 4 = .ok (.iload_n 1, 1) := by decide +kernel
theorem dX7_instrumentAt_5 : decode cX7_instrumentAt 5 = .ok (.invokevirtual 318, 3) := by decide +kernel
theorem dX7_instrumentAt_8 : decode cX7_instrumentAt 8 = .ok (.astore_n 2, 1) := by decide +kernel
theorem dX7_instrumentAt_9 : decode cX7_instrumentAt 9 = .ok (.aload_n 2, 1) := by decide +kernel
theorem dX7_instrumentAt_10 : decode cX7_instrumentAt 10 = .ok (.ifnonnull 14, 3) := by decide +kernel
theorem dX7_instrumentAt_13 : decode cX7_instrumentAt 13 = .ok (.new 96, 3) := by decide +kernel
theorem dX7_instrumentAt_16 : decode cX7_instrumentAt 16 = .ok (.dup, 1) := by decide +kernel
theorem dX7_instrumentAt_17 : decode cX7_instrumentAt 17 = .ok (.ldc_w 320, 3) := by decide +kernel
theorem dX7_instrumentAt_20 : decode cX7_instrumentAt 20 = .ok (.invokespecial 100, 3) := by decide +kernel
theorem dX7_instrumentAt_23 : decode cX7_instrumentAt 23 = .ok (.athrow, 1) := by decide +kernel
theorem dX7_instrumentAt_24 : decode cX7_instrumentAt 24 = .ok (.aload_n 2, 1) := by decide +kernel
theorem dX7_instrumentAt_25 : decode cX7_instrumentAt 25 = .ok (.areturn, 1) := by decide +kernel
theorem dX7_isSalt_0 : decode cX7_isSalt 0 = .ok (.iload_n 0, 1) := by decide +kernel
theorem dX7_isSalt_1 : decode cX7_isSalt 1 = .ok (.ifCond .lt 15, 3) := by decide +kernel
theorem dX7_isSalt_4 : decode cX7_isSalt 4 = .ok (.iload_n 0, 1) := by decide +kernel
theorem dX7_isSalt_5 : decode cX7_isSalt 5 = .ok (.getstatic 322, 3) := by decide +kernel
theorem dX7_isSalt_8 : decode cX7_isSalt 8 = .ok (.arraylength, 1) := by decide +kernel
theorem dX7_isSalt_9 : decode cX7_isSalt 9 = .ok (.if_icmp .ge 7, 3) := by decide +kernel
theorem dX7_isSalt_12 : decode cX7_isSalt 12 = .ok (.iconst 1, 1) := by decide +kernel
theorem dX7_isSalt_13 : decode cX7_isSalt 13 = .ok (.goto 4, 3) := by decide +kernel
theorem dX7_isSalt_16 : decode cX7_isSalt 16 = .ok (.iconst 0, 1) := by decide +kernel
theorem dX7_isSalt_17 : decode cX7_isSalt 17 = .ok (.ireturn, 1) := by decide +kernel
theorem dX7_isSlot_0 : decode cX7_isSlot 0 = .ok (.iload_n 0, 1) := by decide +kernel
theorem dX7_isSlot_1 : decode cX7_isSlot 1 = .ok (.ifCond .lt 12, 3) := by decide +kernel
theorem dX7_isSlot_4 : decode cX7_isSlot 4 = .ok (.iload_n 0, 1) := by decide +kernel
theorem dX7_isSlot_5 : decode cX7_isSlot 5 = .ok (.iconst 2, 1) := by decide +kernel
theorem dX7_isSlot_6 : decode cX7_isSlot 6 = .ok (.if_icmp .ge 7, 3) := by decide +kernel
theorem dX7_isSlot_9 : decode cX7_isSlot 9 = .ok (.iconst 1, 1) := by decide +kernel
theorem dX7_isSlot_10 : decode cX7_isSlot 10 = .ok (.goto 4, 3) := by decide +kernel
theorem dX7_isSlot_13 : decode cX7_isSlot 13 = .ok (.iconst 0, 1) := by decide +kernel
theorem dX7_isSlot_14 : decode cX7_isSlot 14 = .ok (.ireturn, 1) := by decide +kernel
theorem dX7_fixedPointOr_0 : decode cX7_fixedPointOr 0 = .ok (.iload_n 0, 1) := by decide +kernel
theorem dX7_fixedPointOr_1 : decode cX7_fixedPointOr 1 = .ok (.ifCond .lt 19, 3) := by decide +kernel
theorem dX7_fixedPointOr_4 : decode cX7_fixedPointOr 4 = .ok (.iload_n 0, 1) := by decide +kernel
theorem dX7_fixedPointOr_5 : decode cX7_fixedPointOr 5 = .ok (.getstatic 322, 3) := by decide +kernel
theorem dX7_fixedPointOr_8 : decode cX7_fixedPointOr 8 = .ok (.arraylength, 1) := by decide +kernel
theorem dX7_fixedPointOr_9 : decode cX7_fixedPointOr 9 = .ok (.if_icmp .ge 11, 3) := by decide +kernel
theorem dX7_fixedPointOr_12 : decode cX7_fixedPointOr 12 = .ok (.getstatic 322, 3) := by decide +kernel
theorem dX7_fixedPointOr_15 : decode cX7_fixedPointOr 15 = .ok (.iload_n 0, 1) := by decide +kernel
theorem dX7_fixedPointOr_16 : decode cX7_fixedPointOr 16 = .ok (.iaload, 1) := by decide +kernel
theorem dX7_fixedPointOr_17 : decode cX7_fixedPointOr 17 = .ok (.goto 4, 3) := by decide +kernel
theorem dX7_fixedPointOr_20 : decode cX7_fixedPointOr 20 = .ok (.iload_n 1, 1) := by decide +kernel
theorem dX7_fixedPointOr_21 : decode cX7_fixedPointOr 21 = .ok (.ireturn, 1) := by decide +kernel
theorem dX7_quotient_0 : decode cX7_quotient 0 = .ok (.iload_n 1, 1) := by decide +kernel
theorem dX7_quotient_1 : decode cX7_quotient 1 = .ok (.ifCond .ne 7, 3) := by decide +kernel
theorem dX7_quotient_4 : decode cX7_quotient 4 = .ok (.iconst 0, 1) := by decide +kernel
theorem dX7_quotient_5 : decode cX7_quotient 5 = .ok (.goto 6, 3) := by decide +kernel
theorem dX7_quotient_8 : decode cX7_quotient 8 = .ok (.iload_n 0, 1) := by decide +kernel
theorem dX7_quotient_9 : decode cX7_quotient 9 = .ok (.iload_n 1, 1) := by decide +kernel
theorem dX7_quotient_10 : decode cX7_quotient 10 = .ok (.idiv, 1) := by decide +kernel
theorem dX7_quotient_11 : decode cX7_quotient 11 = .ok (.ireturn, 1) := by decide +kernel
