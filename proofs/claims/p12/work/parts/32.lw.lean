/-! Every word of every program says what the bytes under it say. -/
theorem wc_0_e : wk SSX CLS tyX ftX mdx D_0 P_0 1837 [] = true := by decide +kernel
theorem gp_0 : GPd SSX TBL CLS ftX mdx D_0 P_0 := fun pc h => by
  by_cases c0 : pc < 234
  · exact wkc_t hbx LW_0_0 0 wc_0_0 pc (by omega) c0 h
  by_cases c1 : pc < 285
  · exact wkc_t hbx LW_0_1 234 wc_0_1 pc (by omega) c1 h
  by_cases c2 : pc < 354
  · exact wkc_t hbx LW_0_2 285 wc_0_2 pc (by omega) c2 h
  by_cases c3 : pc < 415
  · exact wkc_t hbx LW_0_3 354 wc_0_3 pc (by omega) c3 h
  by_cases c4 : pc < 474
  · exact wkc_t hbx LW_0_4 415 wc_0_4 pc (by omega) c4 h
  by_cases c5 : pc < 533
  · exact wkc_t hbx LW_0_5 474 wc_0_5 pc (by omega) c5 h
  by_cases c6 : pc < 595
  · exact wkc_t hbx LW_0_6 533 wc_0_6 pc (by omega) c6 h
  by_cases c7 : pc < 649
  · exact wkc_t hbx LW_0_7 595 wc_0_7 pc (by omega) c7 h
  by_cases c8 : pc < 706
  · exact wkc_t hbx LW_0_8 649 wc_0_8 pc (by omega) c8 h
  by_cases c9 : pc < 771
  · exact wkc_t hbx LW_0_9 706 wc_0_9 pc (by omega) c9 h
  by_cases c10 : pc < 825
  · exact wkc_t hbx LW_0_10 771 wc_0_10 pc (by omega) c10 h
  by_cases c11 : pc < 880
  · exact wkc_t hbx LW_0_11 825 wc_0_11 pc (by omega) c11 h
  by_cases c12 : pc < 934
  · exact wkc_t hbx LW_0_12 880 wc_0_12 pc (by omega) c12 h
  by_cases c13 : pc < 995
  · exact wkc_t hbx LW_0_13 934 wc_0_13 pc (by omega) c13 h
  by_cases c14 : pc < 1049
  · exact wkc_t hbx LW_0_14 995 wc_0_14 pc (by omega) c14 h
  by_cases c15 : pc < 1104
  · exact wkc_t hbx LW_0_15 1049 wc_0_15 pc (by omega) c15 h
  by_cases c16 : pc < 1158
  · exact wkc_t hbx LW_0_16 1104 wc_0_16 pc (by omega) c16 h
  by_cases c17 : pc < 1218
  · exact wkc_t hbx LW_0_17 1158 wc_0_17 pc (by omega) c17 h
  by_cases c18 : pc < 1276
  · exact wkc_t hbx LW_0_18 1218 wc_0_18 pc (by omega) c18 h
  by_cases c19 : pc < 1330
  · exact wkc_t hbx LW_0_19 1276 wc_0_19 pc (by omega) c19 h
  by_cases c20 : pc < 1396
  · exact wkc_t hbx LW_0_20 1330 wc_0_20 pc (by omega) c20 h
  by_cases c21 : pc < 1450
  · exact wkc_t hbx LW_0_21 1396 wc_0_21 pc (by omega) c21 h
  by_cases c22 : pc < 1505
  · exact wkc_t hbx LW_0_22 1450 wc_0_22 pc (by omega) c22 h
  by_cases c23 : pc < 1564
  · exact wkc_t hbx LW_0_23 1505 wc_0_23 pc (by omega) c23 h
  by_cases c24 : pc < 1618
  · exact wkc_t hbx LW_0_24 1564 wc_0_24 pc (by omega) c24 h
  by_cases c25 : pc < 1675
  · exact wkc_t hbx LW_0_25 1618 wc_0_25 pc (by omega) c25 h
  by_cases c26 : pc < 1729
  · exact wkc_t hbx LW_0_26 1675 wc_0_26 pc (by omega) c26 h
  by_cases c27 : pc < 1786
  · exact wkc_t hbx LW_0_27 1729 wc_0_27 pc (by omega) c27 h
  by_cases c28 : pc < 1837
  · exact wkc_t hbx LW_0_28 1786 wc_0_28 pc (by omega) c28 h
  exact wk_t hbx [] 1837 wc_0_e pc (by omega) h
