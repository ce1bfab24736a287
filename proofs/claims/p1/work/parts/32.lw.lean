/-! Every word of every program says what the bytes under it say. -/
theorem wc_0_e : wk SSX CLS tyX ftX mdx D_0 P_0 2827 [] = true := by decide +kernel
theorem gp_0 : GPd SSX TBL CLS ftX mdx D_0 P_0 := fun pc h => by
  by_cases c0 : pc < 234
  · exact wkc_t hbx LW_0_0 0 wc_0_0 pc (by omega) c0 h
  by_cases c1 : pc < 285
  · exact wkc_t hbx LW_0_1 234 wc_0_1 pc (by omega) c1 h
  by_cases c2 : pc < 360
  · exact wkc_t hbx LW_0_2 285 wc_0_2 pc (by omega) c2 h
  by_cases c3 : pc < 457
  · exact wkc_t hbx LW_0_3 360 wc_0_3 pc (by omega) c3 h
  by_cases c4 : pc < 526
  · exact wkc_t hbx LW_0_4 457 wc_0_4 pc (by omega) c4 h
  by_cases c5 : pc < 593
  · exact wkc_t hbx LW_0_5 526 wc_0_5 pc (by omega) c5 h
  by_cases c6 : pc < 668
  · exact wkc_t hbx LW_0_6 593 wc_0_6 pc (by omega) c6 h
  by_cases c7 : pc < 742
  · exact wkc_t hbx LW_0_7 668 wc_0_7 pc (by omega) c7 h
  by_cases c8 : pc < 808
  · exact wkc_t hbx LW_0_8 742 wc_0_8 pc (by omega) c8 h
  by_cases c9 : pc < 884
  · exact wkc_t hbx LW_0_9 808 wc_0_9 pc (by omega) c9 h
  by_cases c10 : pc < 959
  · exact wkc_t hbx LW_0_10 884 wc_0_10 pc (by omega) c10 h
  by_cases c11 : pc < 1026
  · exact wkc_t hbx LW_0_11 959 wc_0_11 pc (by omega) c11 h
  by_cases c12 : pc < 1118
  · exact wkc_t hbx LW_0_12 1026 wc_0_12 pc (by omega) c12 h
  by_cases c13 : pc < 1183
  · exact wkc_t hbx LW_0_13 1118 wc_0_13 pc (by omega) c13 h
  by_cases c14 : pc < 1239
  · exact wkc_t hbx LW_0_14 1183 wc_0_14 pc (by omega) c14 h
  by_cases c15 : pc < 1309
  · exact wkc_t hbx LW_0_15 1239 wc_0_15 pc (by omega) c15 h
  by_cases c16 : pc < 1387
  · exact wkc_t hbx LW_0_16 1309 wc_0_16 pc (by omega) c16 h
  by_cases c17 : pc < 1457
  · exact wkc_t hbx LW_0_17 1387 wc_0_17 pc (by omega) c17 h
  by_cases c18 : pc < 1524
  · exact wkc_t hbx LW_0_18 1457 wc_0_18 pc (by omega) c18 h
  by_cases c19 : pc < 1582
  · exact wkc_t hbx LW_0_19 1524 wc_0_19 pc (by omega) c19 h
  by_cases c20 : pc < 1656
  · exact wkc_t hbx LW_0_20 1582 wc_0_20 pc (by omega) c20 h
  by_cases c21 : pc < 1722
  · exact wkc_t hbx LW_0_21 1656 wc_0_21 pc (by omega) c21 h
  by_cases c22 : pc < 1798
  · exact wkc_t hbx LW_0_22 1722 wc_0_22 pc (by omega) c22 h
  by_cases c23 : pc < 1868
  · exact wkc_t hbx LW_0_23 1798 wc_0_23 pc (by omega) c23 h
  by_cases c24 : pc < 1935
  · exact wkc_t hbx LW_0_24 1868 wc_0_24 pc (by omega) c24 h
  by_cases c25 : pc < 2009
  · exact wkc_t hbx LW_0_25 1935 wc_0_25 pc (by omega) c25 h
  by_cases c26 : pc < 2109
  · exact wkc_t hbx LW_0_26 2009 wc_0_26 pc (by omega) c26 h
  by_cases c27 : pc < 2183
  · exact wkc_t hbx LW_0_27 2109 wc_0_27 pc (by omega) c27 h
  by_cases c28 : pc < 2257
  · exact wkc_t hbx LW_0_28 2183 wc_0_28 pc (by omega) c28 h
  by_cases c29 : pc < 2331
  · exact wkc_t hbx LW_0_29 2257 wc_0_29 pc (by omega) c29 h
  by_cases c30 : pc < 2412
  · exact wkc_t hbx LW_0_30 2331 wc_0_30 pc (by omega) c30 h
  by_cases c31 : pc < 2486
  · exact wkc_t hbx LW_0_31 2412 wc_0_31 pc (by omega) c31 h
  by_cases c32 : pc < 2561
  · exact wkc_t hbx LW_0_32 2486 wc_0_32 pc (by omega) c32 h
  by_cases c33 : pc < 2635
  · exact wkc_t hbx LW_0_33 2561 wc_0_33 pc (by omega) c33 h
  by_cases c34 : pc < 2701
  · exact wkc_t hbx LW_0_34 2635 wc_0_34 pc (by omega) c34 h
  by_cases c35 : pc < 2766
  · exact wkc_t hbx LW_0_35 2701 wc_0_35 pc (by omega) c35 h
  by_cases c36 : pc < 2827
  · exact wkc_t hbx LW_0_36 2766 wc_0_36 pc (by omega) c36 h
  exact wk_t hbx [] 2827 wc_0_e pc (by omega) h
