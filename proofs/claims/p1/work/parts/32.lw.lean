/-! Every word of every program says what the bytes under it say. -/
theorem wc_0_e : wk SSX CLS tyX ftX mdx D_0 P_0 2827 [] = true := by decide +kernel
theorem gp_0 : GPd SSX TBL CLS ftX mdx D_0 P_0 := fun pc h => by
  by_cases c0 : pc < 285
  · exact wkc_t hbx LW_0_0 0 wc_0_0 pc (by omega) c0 h
  by_cases c1 : pc < 457
  · exact wkc_t hbx LW_0_1 285 wc_0_1 pc (by omega) c1 h
  by_cases c2 : pc < 593
  · exact wkc_t hbx LW_0_2 457 wc_0_2 pc (by omega) c2 h
  by_cases c3 : pc < 742
  · exact wkc_t hbx LW_0_3 593 wc_0_3 pc (by omega) c3 h
  by_cases c4 : pc < 884
  · exact wkc_t hbx LW_0_4 742 wc_0_4 pc (by omega) c4 h
  by_cases c5 : pc < 1026
  · exact wkc_t hbx LW_0_5 884 wc_0_5 pc (by omega) c5 h
  by_cases c6 : pc < 1183
  · exact wkc_t hbx LW_0_6 1026 wc_0_6 pc (by omega) c6 h
  by_cases c7 : pc < 1309
  · exact wkc_t hbx LW_0_7 1183 wc_0_7 pc (by omega) c7 h
  by_cases c8 : pc < 1457
  · exact wkc_t hbx LW_0_8 1309 wc_0_8 pc (by omega) c8 h
  by_cases c9 : pc < 1582
  · exact wkc_t hbx LW_0_9 1457 wc_0_9 pc (by omega) c9 h
  by_cases c10 : pc < 1722
  · exact wkc_t hbx LW_0_10 1582 wc_0_10 pc (by omega) c10 h
  by_cases c11 : pc < 1868
  · exact wkc_t hbx LW_0_11 1722 wc_0_11 pc (by omega) c11 h
  by_cases c12 : pc < 2009
  · exact wkc_t hbx LW_0_12 1868 wc_0_12 pc (by omega) c12 h
  by_cases c13 : pc < 2183
  · exact wkc_t hbx LW_0_13 2009 wc_0_13 pc (by omega) c13 h
  by_cases c14 : pc < 2331
  · exact wkc_t hbx LW_0_14 2183 wc_0_14 pc (by omega) c14 h
  by_cases c15 : pc < 2486
  · exact wkc_t hbx LW_0_15 2331 wc_0_15 pc (by omega) c15 h
  by_cases c16 : pc < 2635
  · exact wkc_t hbx LW_0_16 2486 wc_0_16 pc (by omega) c16 h
  by_cases c17 : pc < 2766
  · exact wkc_t hbx LW_0_17 2635 wc_0_17 pc (by omega) c17 h
  by_cases c18 : pc < 2827
  · exact wkc_t hbx LW_0_18 2766 wc_0_18 pc (by omega) c18 h
  exact wk_t hbx [] 2827 wc_0_e pc (by omega) h
