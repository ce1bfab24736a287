/-! The boxes cover the scripts. -/
theorem cov_0 {xs : Nat → Int32} (hk : iEx (xs 0 &&& 63) = 0 + 2147483648) : Cov xs := by
  have z1 := iEx_lt (xs 1)
  have z2 := iEx_lt (xs 2)
  have z3 := iEx_lt (xs 3)
  have z4 := iEx_lt (xs 4)
  have z5 := iEx_lt (xs 5)
  exact ⟨BX_0_0, vr6 (k := 0) (l1 := 0) (h1 := 4294967295) (l2 := 0) (h2 := 4294967295) (l3 := 0) (h3 := 4294967295) (l4 := 0) (h4 := 4294967295) (l5 := 0) (h5 := 4294967295) (by decide +kernel) (by decide +kernel) hk ⟨⟨by omega, by omega⟩, ⟨by omega, by omega⟩, ⟨by omega, by omega⟩, ⟨by omega, by omega⟩, by omega, by omega⟩, bx_0_0⟩
theorem cov_1 {xs : Nat → Int32} (hk : iEx (xs 0 &&& 63) = 1 + 2147483648) : Cov xs := by
  have z1 := iEx_lt (xs 1)
  have z2 := iEx_lt (xs 2)
  have z3 := iEx_lt (xs 3)
  have z4 := iEx_lt (xs 4)
  have z5 := iEx_lt (xs 5)
  by_cases c2 : iEx (xs 1) < 2147483648
  · skip
    exact ⟨BX_1_0, vr6 (k := 1) (l1 := 0) (h1 := 2147483647) (l2 := 0) (h2 := 4294967295) (l3 := 0) (h3 := 4294967295) (l4 := 0) (h4 := 4294967295) (l5 := 0) (h5 := 4294967295) (by decide +kernel) (by decide +kernel) hk ⟨⟨by omega, by omega⟩, ⟨by omega, by omega⟩, ⟨by omega, by omega⟩, ⟨by omega, by omega⟩, by omega, by omega⟩, bx_1_0⟩
  · skip
    by_cases c4 : iEx (xs 1) < 2147483649
    · skip
      exact ⟨BX_1_1, vr6 (k := 1) (l1 := 2147483648) (h1 := 2147483648) (l2 := 0) (h2 := 4294967295) (l3 := 0) (h3 := 4294967295) (l4 := 0) (h4 := 4294967295) (l5 := 0) (h5 := 4294967295) (by decide +kernel) (by decide +kernel) hk ⟨⟨by omega, by omega⟩, ⟨by omega, by omega⟩, ⟨by omega, by omega⟩, ⟨by omega, by omega⟩, by omega, by omega⟩, bx_1_1⟩
    · skip
      exact ⟨BX_1_2, vr6 (k := 1) (l1 := 2147483649) (h1 := 4294967295) (l2 := 0) (h2 := 4294967295) (l3 := 0) (h3 := 4294967295) (l4 := 0) (h4 := 4294967295) (l5 := 0) (h5 := 4294967295) (by decide +kernel) (by decide +kernel) hk ⟨⟨by omega, by omega⟩, ⟨by omega, by omega⟩, ⟨by omega, by omega⟩, ⟨by omega, by omega⟩, by omega, by omega⟩, bx_1_2⟩
theorem cov_2 {xs : Nat → Int32} (hk : iEx (xs 0 &&& 63) = 2 + 2147483648) : Cov xs := by
  have z1 := iEx_lt (xs 1)
  have z2 := iEx_lt (xs 2)
  have z3 := iEx_lt (xs 3)
  have z4 := iEx_lt (xs 4)
  have z5 := iEx_lt (xs 5)
  exact ⟨BX_2_0, vr6 (k := 2) (l1 := 0) (h1 := 4294967295) (l2 := 0) (h2 := 4294967295) (l3 := 0) (h3 := 4294967295) (l4 := 0) (h4 := 4294967295) (l5 := 0) (h5 := 4294967295) (by decide +kernel) (by decide +kernel) hk ⟨⟨by omega, by omega⟩, ⟨by omega, by omega⟩, ⟨by omega, by omega⟩, ⟨by omega, by omega⟩, by omega, by omega⟩, bx_2_0⟩
theorem cov_3 {xs : Nat → Int32} (hk : iEx (xs 0 &&& 63) = 3 + 2147483648) : Cov xs := by
  have z1 := iEx_lt (xs 1)
  have z2 := iEx_lt (xs 2)
  have z3 := iEx_lt (xs 3)
  have z4 := iEx_lt (xs 4)
  have z5 := iEx_lt (xs 5)
  exact ⟨BX_3_0, vr6 (k := 3) (l1 := 0) (h1 := 4294967295) (l2 := 0) (h2 := 4294967295) (l3 := 0) (h3 := 4294967295) (l4 := 0) (h4 := 4294967295) (l5 := 0) (h5 := 4294967295) (by decide +kernel) (by decide +kernel) hk ⟨⟨by omega, by omega⟩, ⟨by omega, by omega⟩, ⟨by omega, by omega⟩, ⟨by omega, by omega⟩, by omega, by omega⟩, bx_3_0⟩
theorem cov_4 {xs : Nat → Int32} (hk : iEx (xs 0 &&& 63) = 4 + 2147483648) : Cov xs := by
  have z1 := iEx_lt (xs 1)
  have z2 := iEx_lt (xs 2)
  have z3 := iEx_lt (xs 3)
  have z4 := iEx_lt (xs 4)
  have z5 := iEx_lt (xs 5)
  exact ⟨BX_4_0, vr6 (k := 4) (l1 := 0) (h1 := 4294967295) (l2 := 0) (h2 := 4294967295) (l3 := 0) (h3 := 4294967295) (l4 := 0) (h4 := 4294967295) (l5 := 0) (h5 := 4294967295) (by decide +kernel) (by decide +kernel) hk ⟨⟨by omega, by omega⟩, ⟨by omega, by omega⟩, ⟨by omega, by omega⟩, ⟨by omega, by omega⟩, by omega, by omega⟩, bx_4_0⟩
theorem cov_5 {xs : Nat → Int32} (hk : iEx (xs 0 &&& 63) = 5 + 2147483648) : Cov xs := by
  have z1 := iEx_lt (xs 1)
  have z2 := iEx_lt (xs 2)
  have z3 := iEx_lt (xs 3)
  have z4 := iEx_lt (xs 4)
  have z5 := iEx_lt (xs 5)
  by_cases c2 : iEx (xs 1) < 2147483648
  · skip
    exact ⟨BX_5_0, vr6 (k := 5) (l1 := 0) (h1 := 2147483647) (l2 := 0) (h2 := 4294967295) (l3 := 0) (h3 := 4294967295) (l4 := 0) (h4 := 4294967295) (l5 := 0) (h5 := 4294967295) (by decide +kernel) (by decide +kernel) hk ⟨⟨by omega, by omega⟩, ⟨by omega, by omega⟩, ⟨by omega, by omega⟩, ⟨by omega, by omega⟩, by omega, by omega⟩, bx_5_0⟩
  · skip
    by_cases c4 : iEx (xs 1) < 2147483649
    · skip
      exact ⟨BX_5_1, vr6 (k := 5) (l1 := 2147483648) (h1 := 2147483648) (l2 := 0) (h2 := 4294967295) (l3 := 0) (h3 := 4294967295) (l4 := 0) (h4 := 4294967295) (l5 := 0) (h5 := 4294967295) (by decide +kernel) (by decide +kernel) hk ⟨⟨by omega, by omega⟩, ⟨by omega, by omega⟩, ⟨by omega, by omega⟩, ⟨by omega, by omega⟩, by omega, by omega⟩, bx_5_1⟩
    · skip
      by_cases c6 : iEx (xs 1) < 2147483650
      · skip
        exact ⟨BX_5_2, vr6 (k := 5) (l1 := 2147483649) (h1 := 2147483649) (l2 := 0) (h2 := 4294967295) (l3 := 0) (h3 := 4294967295) (l4 := 0) (h4 := 4294967295) (l5 := 0) (h5 := 4294967295) (by decide +kernel) (by decide +kernel) hk ⟨⟨by omega, by omega⟩, ⟨by omega, by omega⟩, ⟨by omega, by omega⟩, ⟨by omega, by omega⟩, by omega, by omega⟩, bx_5_2⟩
      · skip
        by_cases c8 : iEx (xs 1) < 2147483651
        · skip
          exact ⟨BX_5_3, vr6 (k := 5) (l1 := 2147483650) (h1 := 2147483650) (l2 := 0) (h2 := 4294967295) (l3 := 0) (h3 := 4294967295) (l4 := 0) (h4 := 4294967295) (l5 := 0) (h5 := 4294967295) (by decide +kernel) (by decide +kernel) hk ⟨⟨by omega, by omega⟩, ⟨by omega, by omega⟩, ⟨by omega, by omega⟩, ⟨by omega, by omega⟩, by omega, by omega⟩, bx_5_3⟩
        · skip
          by_cases c10 : iEx (xs 1) < 2147483652
          · skip
            exact ⟨BX_5_4, vr6 (k := 5) (l1 := 2147483651) (h1 := 2147483651) (l2 := 0) (h2 := 4294967295) (l3 := 0) (h3 := 4294967295) (l4 := 0) (h4 := 4294967295) (l5 := 0) (h5 := 4294967295) (by decide +kernel) (by decide +kernel) hk ⟨⟨by omega, by omega⟩, ⟨by omega, by omega⟩, ⟨by omega, by omega⟩, ⟨by omega, by omega⟩, by omega, by omega⟩, bx_5_4⟩
          · skip
            by_cases c12 : iEx (xs 1) < 2147483653
            · skip
              exact ⟨BX_5_5, vr6 (k := 5) (l1 := 2147483652) (h1 := 2147483652) (l2 := 0) (h2 := 4294967295) (l3 := 0) (h3 := 4294967295) (l4 := 0) (h4 := 4294967295) (l5 := 0) (h5 := 4294967295) (by decide +kernel) (by decide +kernel) hk ⟨⟨by omega, by omega⟩, ⟨by omega, by omega⟩, ⟨by omega, by omega⟩, ⟨by omega, by omega⟩, by omega, by omega⟩, bx_5_5⟩
            · skip
              exact ⟨BX_5_6, vr6 (k := 5) (l1 := 2147483653) (h1 := 4294967295) (l2 := 0) (h2 := 4294967295) (l3 := 0) (h3 := 4294967295) (l4 := 0) (h4 := 4294967295) (l5 := 0) (h5 := 4294967295) (by decide +kernel) (by decide +kernel) hk ⟨⟨by omega, by omega⟩, ⟨by omega, by omega⟩, ⟨by omega, by omega⟩, ⟨by omega, by omega⟩, by omega, by omega⟩, bx_5_6⟩
theorem cov_6 {xs : Nat → Int32} (hk : iEx (xs 0 &&& 63) = 6 + 2147483648) : Cov xs := by
  have z1 := iEx_lt (xs 1)
  have z2 := iEx_lt (xs 2)
  have z3 := iEx_lt (xs 3)
  have z4 := iEx_lt (xs 4)
  have z5 := iEx_lt (xs 5)
  by_cases c2 : iEx (xs 1) < 2147483648
  · skip
    exact ⟨BX_6_0, vr6 (k := 6) (l1 := 0) (h1 := 2147483647) (l2 := 0) (h2 := 4294967295) (l3 := 0) (h3 := 4294967295) (l4 := 0) (h4 := 4294967295) (l5 := 0) (h5 := 4294967295) (by decide +kernel) (by decide +kernel) hk ⟨⟨by omega, by omega⟩, ⟨by omega, by omega⟩, ⟨by omega, by omega⟩, ⟨by omega, by omega⟩, by omega, by omega⟩, bx_6_0⟩
  · skip
    by_cases c4 : iEx (xs 1) < 2147483649
    · skip
      by_cases c6 : iEx (xs 2) < 2147483648
      · skip
        exact ⟨BX_6_1, vr6 (k := 6) (l1 := 2147483648) (h1 := 2147483648) (l2 := 0) (h2 := 2147483647) (l3 := 0) (h3 := 4294967295) (l4 := 0) (h4 := 4294967295) (l5 := 0) (h5 := 4294967295) (by decide +kernel) (by decide +kernel) hk ⟨⟨by omega, by omega⟩, ⟨by omega, by omega⟩, ⟨by omega, by omega⟩, ⟨by omega, by omega⟩, by omega, by omega⟩, bx_6_1⟩
      · skip
        by_cases c8 : iEx (xs 2) < 2147483649
        · skip
          exact ⟨BX_6_2, vr6 (k := 6) (l1 := 2147483648) (h1 := 2147483648) (l2 := 2147483648) (h2 := 2147483648) (l3 := 0) (h3 := 4294967295) (l4 := 0) (h4 := 4294967295) (l5 := 0) (h5 := 4294967295) (by decide +kernel) (by decide +kernel) hk ⟨⟨by omega, by omega⟩, ⟨by omega, by omega⟩, ⟨by omega, by omega⟩, ⟨by omega, by omega⟩, by omega, by omega⟩, bx_6_2⟩
        · skip
          by_cases c10 : iEx (xs 2) < 2147483650
          · skip
            exact ⟨BX_6_3, vr6 (k := 6) (l1 := 2147483648) (h1 := 2147483648) (l2 := 2147483649) (h2 := 2147483649) (l3 := 0) (h3 := 4294967295) (l4 := 0) (h4 := 4294967295) (l5 := 0) (h5 := 4294967295) (by decide +kernel) (by decide +kernel) hk ⟨⟨by omega, by omega⟩, ⟨by omega, by omega⟩, ⟨by omega, by omega⟩, ⟨by omega, by omega⟩, by omega, by omega⟩, bx_6_3⟩
          · skip
            by_cases c12 : iEx (xs 2) < 2147483651
            · skip
              exact ⟨BX_6_4, vr6 (k := 6) (l1 := 2147483648) (h1 := 2147483648) (l2 := 2147483650) (h2 := 2147483650) (l3 := 0) (h3 := 4294967295) (l4 := 0) (h4 := 4294967295) (l5 := 0) (h5 := 4294967295) (by decide +kernel) (by decide +kernel) hk ⟨⟨by omega, by omega⟩, ⟨by omega, by omega⟩, ⟨by omega, by omega⟩, ⟨by omega, by omega⟩, by omega, by omega⟩, bx_6_4⟩
            · skip
              by_cases c14 : iEx (xs 2) < 2147483652
              · skip
                exact ⟨BX_6_5, vr6 (k := 6) (l1 := 2147483648) (h1 := 2147483648) (l2 := 2147483651) (h2 := 2147483651) (l3 := 0) (h3 := 4294967295) (l4 := 0) (h4 := 4294967295) (l5 := 0) (h5 := 4294967295) (by decide +kernel) (by decide +kernel) hk ⟨⟨by omega, by omega⟩, ⟨by omega, by omega⟩, ⟨by omega, by omega⟩, ⟨by omega, by omega⟩, by omega, by omega⟩, bx_6_5⟩
              · skip
                exact ⟨BX_6_6, vr6 (k := 6) (l1 := 2147483648) (h1 := 2147483648) (l2 := 2147483652) (h2 := 4294967295) (l3 := 0) (h3 := 4294967295) (l4 := 0) (h4 := 4294967295) (l5 := 0) (h5 := 4294967295) (by decide +kernel) (by decide +kernel) hk ⟨⟨by omega, by omega⟩, ⟨by omega, by omega⟩, ⟨by omega, by omega⟩, ⟨by omega, by omega⟩, by omega, by omega⟩, bx_6_6⟩
    · skip
      exact ⟨BX_6_7, vr6 (k := 6) (l1 := 2147483649) (h1 := 4294967295) (l2 := 0) (h2 := 4294967295) (l3 := 0) (h3 := 4294967295) (l4 := 0) (h4 := 4294967295) (l5 := 0) (h5 := 4294967295) (by decide +kernel) (by decide +kernel) hk ⟨⟨by omega, by omega⟩, ⟨by omega, by omega⟩, ⟨by omega, by omega⟩, ⟨by omega, by omega⟩, by omega, by omega⟩, bx_6_7⟩
theorem cov_7 {xs : Nat → Int32} (hk : iEx (xs 0 &&& 63) = 7 + 2147483648) : Cov xs := by
  have z1 := iEx_lt (xs 1)
  have z2 := iEx_lt (xs 2)
  have z3 := iEx_lt (xs 3)
  have z4 := iEx_lt (xs 4)
  have z5 := iEx_lt (xs 5)
  by_cases c2 : iEx (xs 1) < 2147483648
  · skip
    exact ⟨BX_7_0, vr6 (k := 7) (l1 := 0) (h1 := 2147483647) (l2 := 0) (h2 := 4294967295) (l3 := 0) (h3 := 4294967295) (l4 := 0) (h4 := 4294967295) (l5 := 0) (h5 := 4294967295) (by decide +kernel) (by decide +kernel) hk ⟨⟨by omega, by omega⟩, ⟨by omega, by omega⟩, ⟨by omega, by omega⟩, ⟨by omega, by omega⟩, by omega, by omega⟩, bx_7_0⟩
  · skip
    exact ⟨BX_7_1, vr6 (k := 7) (l1 := 2147483648) (h1 := 4294967295) (l2 := 0) (h2 := 4294967295) (l3 := 0) (h3 := 4294967295) (l4 := 0) (h4 := 4294967295) (l5 := 0) (h5 := 4294967295) (by decide +kernel) (by decide +kernel) hk ⟨⟨by omega, by omega⟩, ⟨by omega, by omega⟩, ⟨by omega, by omega⟩, ⟨by omega, by omega⟩, by omega, by omega⟩, bx_7_1⟩
theorem cov_8 {xs : Nat → Int32} (hk : iEx (xs 0 &&& 63) = 8 + 2147483648) : Cov xs := by
  have z1 := iEx_lt (xs 1)
  have z2 := iEx_lt (xs 2)
  have z3 := iEx_lt (xs 3)
  have z4 := iEx_lt (xs 4)
  have z5 := iEx_lt (xs 5)
  by_cases c2 : iEx (xs 1) < 2147483648
  · skip
    exact ⟨BX_8_0, vr6 (k := 8) (l1 := 0) (h1 := 2147483647) (l2 := 0) (h2 := 4294967295) (l3 := 0) (h3 := 4294967295) (l4 := 0) (h4 := 4294967295) (l5 := 0) (h5 := 4294967295) (by decide +kernel) (by decide +kernel) hk ⟨⟨by omega, by omega⟩, ⟨by omega, by omega⟩, ⟨by omega, by omega⟩, ⟨by omega, by omega⟩, by omega, by omega⟩, bx_8_0⟩
  · skip
    by_cases c4 : iEx (xs 1) < 2147483649
    · skip
      by_cases c6 : iEx (xs 2) < 2147483648
      · skip
        exact ⟨BX_8_1, vr6 (k := 8) (l1 := 2147483648) (h1 := 2147483648) (l2 := 0) (h2 := 2147483647) (l3 := 0) (h3 := 4294967295) (l4 := 0) (h4 := 4294967295) (l5 := 0) (h5 := 4294967295) (by decide +kernel) (by decide +kernel) hk ⟨⟨by omega, by omega⟩, ⟨by omega, by omega⟩, ⟨by omega, by omega⟩, ⟨by omega, by omega⟩, by omega, by omega⟩, bx_8_1⟩
      · skip
        by_cases c8 : iEx (xs 2) < 2147483649
        · skip
          exact ⟨BX_8_2, vr6 (k := 8) (l1 := 2147483648) (h1 := 2147483648) (l2 := 2147483648) (h2 := 2147483648) (l3 := 0) (h3 := 4294967295) (l4 := 0) (h4 := 4294967295) (l5 := 0) (h5 := 4294967295) (by decide +kernel) (by decide +kernel) hk ⟨⟨by omega, by omega⟩, ⟨by omega, by omega⟩, ⟨by omega, by omega⟩, ⟨by omega, by omega⟩, by omega, by omega⟩, bx_8_2⟩
        · skip
          by_cases c10 : iEx (xs 2) < 2147483650
          · skip
            exact ⟨BX_8_3, vr6 (k := 8) (l1 := 2147483648) (h1 := 2147483648) (l2 := 2147483649) (h2 := 2147483649) (l3 := 0) (h3 := 4294967295) (l4 := 0) (h4 := 4294967295) (l5 := 0) (h5 := 4294967295) (by decide +kernel) (by decide +kernel) hk ⟨⟨by omega, by omega⟩, ⟨by omega, by omega⟩, ⟨by omega, by omega⟩, ⟨by omega, by omega⟩, by omega, by omega⟩, bx_8_3⟩
          · skip
            exact ⟨BX_8_4, vr6 (k := 8) (l1 := 2147483648) (h1 := 2147483648) (l2 := 2147483650) (h2 := 4294967295) (l3 := 0) (h3 := 4294967295) (l4 := 0) (h4 := 4294967295) (l5 := 0) (h5 := 4294967295) (by decide +kernel) (by decide +kernel) hk ⟨⟨by omega, by omega⟩, ⟨by omega, by omega⟩, ⟨by omega, by omega⟩, ⟨by omega, by omega⟩, by omega, by omega⟩, bx_8_4⟩
    · skip
      exact ⟨BX_8_5, vr6 (k := 8) (l1 := 2147483649) (h1 := 4294967295) (l2 := 0) (h2 := 4294967295) (l3 := 0) (h3 := 4294967295) (l4 := 0) (h4 := 4294967295) (l5 := 0) (h5 := 4294967295) (by decide +kernel) (by decide +kernel) hk ⟨⟨by omega, by omega⟩, ⟨by omega, by omega⟩, ⟨by omega, by omega⟩, ⟨by omega, by omega⟩, by omega, by omega⟩, bx_8_5⟩
theorem cov_9 {xs : Nat → Int32} (hk : iEx (xs 0 &&& 63) = 9 + 2147483648) : Cov xs := by
  have z1 := iEx_lt (xs 1)
  have z2 := iEx_lt (xs 2)
  have z3 := iEx_lt (xs 3)
  have z4 := iEx_lt (xs 4)
  have z5 := iEx_lt (xs 5)
  exact ⟨BX_9_0, vr6 (k := 9) (l1 := 0) (h1 := 4294967295) (l2 := 0) (h2 := 4294967295) (l3 := 0) (h3 := 4294967295) (l4 := 0) (h4 := 4294967295) (l5 := 0) (h5 := 4294967295) (by decide +kernel) (by decide +kernel) hk ⟨⟨by omega, by omega⟩, ⟨by omega, by omega⟩, ⟨by omega, by omega⟩, ⟨by omega, by omega⟩, by omega, by omega⟩, bx_9_0⟩
theorem cov_10 {xs : Nat → Int32} (hk : iEx (xs 0 &&& 63) = 10 + 2147483648) : Cov xs := by
  have z1 := iEx_lt (xs 1)
  have z2 := iEx_lt (xs 2)
  have z3 := iEx_lt (xs 3)
  have z4 := iEx_lt (xs 4)
  have z5 := iEx_lt (xs 5)
  by_cases c2 : iEx (xs 1) < 2147483648
  · skip
    exact ⟨BX_10_0, vr6 (k := 10) (l1 := 0) (h1 := 2147483647) (l2 := 0) (h2 := 4294967295) (l3 := 0) (h3 := 4294967295) (l4 := 0) (h4 := 4294967295) (l5 := 0) (h5 := 4294967295) (by decide +kernel) (by decide +kernel) hk ⟨⟨by omega, by omega⟩, ⟨by omega, by omega⟩, ⟨by omega, by omega⟩, ⟨by omega, by omega⟩, by omega, by omega⟩, bx_10_0⟩
  · skip
    by_cases c4 : iEx (xs 1) < 2147483649
    · skip
      by_cases c6 : iEx (xs 2) < 2147483649
      · skip
        exact ⟨BX_10_1, vr6 (k := 10) (l1 := 2147483648) (h1 := 2147483648) (l2 := 0) (h2 := 2147483648) (l3 := 0) (h3 := 4294967295) (l4 := 0) (h4 := 4294967295) (l5 := 0) (h5 := 4294967295) (by decide +kernel) (by decide +kernel) hk ⟨⟨by omega, by omega⟩, ⟨by omega, by omega⟩, ⟨by omega, by omega⟩, ⟨by omega, by omega⟩, by omega, by omega⟩, bx_10_1⟩
      · skip
        by_cases c8 : iEx (xs 2) < 2147483650
        · skip
          exact ⟨BX_10_2, vr6 (k := 10) (l1 := 2147483648) (h1 := 2147483648) (l2 := 2147483649) (h2 := 2147483649) (l3 := 0) (h3 := 4294967295) (l4 := 0) (h4 := 4294967295) (l5 := 0) (h5 := 4294967295) (by decide +kernel) (by decide +kernel) hk ⟨⟨by omega, by omega⟩, ⟨by omega, by omega⟩, ⟨by omega, by omega⟩, ⟨by omega, by omega⟩, by omega, by omega⟩, bx_10_2⟩
        · skip
          by_cases c10 : iEx (xs 2) < 2147483849
          · skip
            exact ⟨BX_10_3, vr6 (k := 10) (l1 := 2147483648) (h1 := 2147483648) (l2 := 2147483650) (h2 := 2147483848) (l3 := 0) (h3 := 4294967295) (l4 := 0) (h4 := 4294967295) (l5 := 0) (h5 := 4294967295) (by decide +kernel) (by decide +kernel) hk ⟨⟨by omega, by omega⟩, ⟨by omega, by omega⟩, ⟨by omega, by omega⟩, ⟨by omega, by omega⟩, by omega, by omega⟩, bx_10_3⟩
          · skip
            exact ⟨BX_10_4, vr6 (k := 10) (l1 := 2147483648) (h1 := 2147483648) (l2 := 2147483849) (h2 := 4294967295) (l3 := 0) (h3 := 4294967295) (l4 := 0) (h4 := 4294967295) (l5 := 0) (h5 := 4294967295) (by decide +kernel) (by decide +kernel) hk ⟨⟨by omega, by omega⟩, ⟨by omega, by omega⟩, ⟨by omega, by omega⟩, ⟨by omega, by omega⟩, by omega, by omega⟩, bx_10_4⟩
    · skip
      exact ⟨BX_10_5, vr6 (k := 10) (l1 := 2147483649) (h1 := 4294967295) (l2 := 0) (h2 := 4294967295) (l3 := 0) (h3 := 4294967295) (l4 := 0) (h4 := 4294967295) (l5 := 0) (h5 := 4294967295) (by decide +kernel) (by decide +kernel) hk ⟨⟨by omega, by omega⟩, ⟨by omega, by omega⟩, ⟨by omega, by omega⟩, ⟨by omega, by omega⟩, by omega, by omega⟩, bx_10_5⟩
theorem cov_11 {xs : Nat → Int32} (hk : iEx (xs 0 &&& 63) = 11 + 2147483648) : Cov xs := by
  have z1 := iEx_lt (xs 1)
  have z2 := iEx_lt (xs 2)
  have z3 := iEx_lt (xs 3)
  have z4 := iEx_lt (xs 4)
  have z5 := iEx_lt (xs 5)
  by_cases c2 : iEx (xs 1) < 2147483648
  · skip
    exact ⟨BX_11_0, vr6 (k := 11) (l1 := 0) (h1 := 2147483647) (l2 := 0) (h2 := 4294967295) (l3 := 0) (h3 := 4294967295) (l4 := 0) (h4 := 4294967295) (l5 := 0) (h5 := 4294967295) (by decide +kernel) (by decide +kernel) hk ⟨⟨by omega, by omega⟩, ⟨by omega, by omega⟩, ⟨by omega, by omega⟩, ⟨by omega, by omega⟩, by omega, by omega⟩, bx_11_0⟩
  · skip
    exact ⟨BX_11_1, vr6 (k := 11) (l1 := 2147483648) (h1 := 4294967295) (l2 := 0) (h2 := 4294967295) (l3 := 0) (h3 := 4294967295) (l4 := 0) (h4 := 4294967295) (l5 := 0) (h5 := 4294967295) (by decide +kernel) (by decide +kernel) hk ⟨⟨by omega, by omega⟩, ⟨by omega, by omega⟩, ⟨by omega, by omega⟩, ⟨by omega, by omega⟩, by omega, by omega⟩, bx_11_1⟩
theorem cov_12 {xs : Nat → Int32} (hk : iEx (xs 0 &&& 63) = 12 + 2147483648) : Cov xs := by
  have z1 := iEx_lt (xs 1)
  have z2 := iEx_lt (xs 2)
  have z3 := iEx_lt (xs 3)
  have z4 := iEx_lt (xs 4)
  have z5 := iEx_lt (xs 5)
  by_cases c2 : iEx (xs 1) < 2147483648
  · skip
    exact ⟨BX_12_0, vr6 (k := 12) (l1 := 0) (h1 := 2147483647) (l2 := 0) (h2 := 4294967295) (l3 := 0) (h3 := 4294967295) (l4 := 0) (h4 := 4294967295) (l5 := 0) (h5 := 4294967295) (by decide +kernel) (by decide +kernel) hk ⟨⟨by omega, by omega⟩, ⟨by omega, by omega⟩, ⟨by omega, by omega⟩, ⟨by omega, by omega⟩, by omega, by omega⟩, bx_12_0⟩
  · skip
    exact ⟨BX_12_1, vr6 (k := 12) (l1 := 2147483648) (h1 := 4294967295) (l2 := 0) (h2 := 4294967295) (l3 := 0) (h3 := 4294967295) (l4 := 0) (h4 := 4294967295) (l5 := 0) (h5 := 4294967295) (by decide +kernel) (by decide +kernel) hk ⟨⟨by omega, by omega⟩, ⟨by omega, by omega⟩, ⟨by omega, by omega⟩, ⟨by omega, by omega⟩, by omega, by omega⟩, bx_12_1⟩
theorem cov_13 {xs : Nat → Int32} (hk : iEx (xs 0 &&& 63) = 13 + 2147483648) : Cov xs := by
  have z1 := iEx_lt (xs 1)
  have z2 := iEx_lt (xs 2)
  have z3 := iEx_lt (xs 3)
  have z4 := iEx_lt (xs 4)
  have z5 := iEx_lt (xs 5)
  by_cases c2 : iEx (xs 1) < 2147483648
  · skip
    exact ⟨BX_13_0, vr6 (k := 13) (l1 := 0) (h1 := 2147483647) (l2 := 0) (h2 := 4294967295) (l3 := 0) (h3 := 4294967295) (l4 := 0) (h4 := 4294967295) (l5 := 0) (h5 := 4294967295) (by decide +kernel) (by decide +kernel) hk ⟨⟨by omega, by omega⟩, ⟨by omega, by omega⟩, ⟨by omega, by omega⟩, ⟨by omega, by omega⟩, by omega, by omega⟩, bx_13_0⟩
  · skip
    by_cases c4 : iEx (xs 1) < 2147483649
    · skip
      by_cases c6 : iEx (xs 2) < 2147483648
      · skip
        exact ⟨BX_13_1, vr6 (k := 13) (l1 := 2147483648) (h1 := 2147483648) (l2 := 0) (h2 := 2147483647) (l3 := 0) (h3 := 4294967295) (l4 := 0) (h4 := 4294967295) (l5 := 0) (h5 := 4294967295) (by decide +kernel) (by decide +kernel) hk ⟨⟨by omega, by omega⟩, ⟨by omega, by omega⟩, ⟨by omega, by omega⟩, ⟨by omega, by omega⟩, by omega, by omega⟩, bx_13_1⟩
      · skip
        by_cases c8 : iEx (xs 2) < 2147483649
        · skip
          by_cases c10 : iEx (xs 3) < 2147483648
          · skip
            exact ⟨BX_13_2, vr6 (k := 13) (l1 := 2147483648) (h1 := 2147483648) (l2 := 2147483648) (h2 := 2147483648) (l3 := 0) (h3 := 2147483647) (l4 := 0) (h4 := 4294967295) (l5 := 0) (h5 := 4294967295) (by decide +kernel) (by decide +kernel) hk ⟨⟨by omega, by omega⟩, ⟨by omega, by omega⟩, ⟨by omega, by omega⟩, ⟨by omega, by omega⟩, by omega, by omega⟩, bx_13_2⟩
          · skip
            by_cases c12 : iEx (xs 3) < 2147483849
            · skip
              exact ⟨BX_13_4, vr6 (k := 13) (l1 := 2147483648) (h1 := 2147483648) (l2 := 2147483648) (h2 := 2147483648) (l3 := 2147483648) (h3 := 2147483848) (l4 := 0) (h4 := 4294967295) (l5 := 0) (h5 := 4294967295) (by decide +kernel) (by decide +kernel) hk ⟨⟨by omega, by omega⟩, ⟨by omega, by omega⟩, ⟨by omega, by omega⟩, ⟨by omega, by omega⟩, by omega, by omega⟩, bx_13_4⟩
            · skip
              exact ⟨BX_13_6, vr6 (k := 13) (l1 := 2147483648) (h1 := 2147483648) (l2 := 2147483648) (h2 := 2147483648) (l3 := 2147483849) (h3 := 4294967295) (l4 := 0) (h4 := 4294967295) (l5 := 0) (h5 := 4294967295) (by decide +kernel) (by decide +kernel) hk ⟨⟨by omega, by omega⟩, ⟨by omega, by omega⟩, ⟨by omega, by omega⟩, ⟨by omega, by omega⟩, by omega, by omega⟩, bx_13_6⟩
        · skip
          by_cases c10 : iEx (xs 2) < 2147483650
          · skip
            by_cases c12 : iEx (xs 3) < 2147483648
            · skip
              exact ⟨BX_13_3, vr6 (k := 13) (l1 := 2147483648) (h1 := 2147483648) (l2 := 2147483649) (h2 := 2147483649) (l3 := 0) (h3 := 2147483647) (l4 := 0) (h4 := 4294967295) (l5 := 0) (h5 := 4294967295) (by decide +kernel) (by decide +kernel) hk ⟨⟨by omega, by omega⟩, ⟨by omega, by omega⟩, ⟨by omega, by omega⟩, ⟨by omega, by omega⟩, by omega, by omega⟩, bx_13_3⟩
            · skip
              by_cases c14 : iEx (xs 3) < 2147483849
              · skip
                exact ⟨BX_13_5, vr6 (k := 13) (l1 := 2147483648) (h1 := 2147483648) (l2 := 2147483649) (h2 := 2147483649) (l3 := 2147483648) (h3 := 2147483848) (l4 := 0) (h4 := 4294967295) (l5 := 0) (h5 := 4294967295) (by decide +kernel) (by decide +kernel) hk ⟨⟨by omega, by omega⟩, ⟨by omega, by omega⟩, ⟨by omega, by omega⟩, ⟨by omega, by omega⟩, by omega, by omega⟩, bx_13_5⟩
              · skip
                exact ⟨BX_13_7, vr6 (k := 13) (l1 := 2147483648) (h1 := 2147483648) (l2 := 2147483649) (h2 := 2147483649) (l3 := 2147483849) (h3 := 4294967295) (l4 := 0) (h4 := 4294967295) (l5 := 0) (h5 := 4294967295) (by decide +kernel) (by decide +kernel) hk ⟨⟨by omega, by omega⟩, ⟨by omega, by omega⟩, ⟨by omega, by omega⟩, ⟨by omega, by omega⟩, by omega, by omega⟩, bx_13_7⟩
          · skip
            exact ⟨BX_13_8, vr6 (k := 13) (l1 := 2147483648) (h1 := 2147483648) (l2 := 2147483650) (h2 := 4294967295) (l3 := 0) (h3 := 4294967295) (l4 := 0) (h4 := 4294967295) (l5 := 0) (h5 := 4294967295) (by decide +kernel) (by decide +kernel) hk ⟨⟨by omega, by omega⟩, ⟨by omega, by omega⟩, ⟨by omega, by omega⟩, ⟨by omega, by omega⟩, by omega, by omega⟩, bx_13_8⟩
    · skip
      exact ⟨BX_13_9, vr6 (k := 13) (l1 := 2147483649) (h1 := 4294967295) (l2 := 0) (h2 := 4294967295) (l3 := 0) (h3 := 4294967295) (l4 := 0) (h4 := 4294967295) (l5 := 0) (h5 := 4294967295) (by decide +kernel) (by decide +kernel) hk ⟨⟨by omega, by omega⟩, ⟨by omega, by omega⟩, ⟨by omega, by omega⟩, ⟨by omega, by omega⟩, by omega, by omega⟩, bx_13_9⟩
theorem cov_14 {xs : Nat → Int32} (hk : iEx (xs 0 &&& 63) = 14 + 2147483648) : Cov xs := by
  have z1 := iEx_lt (xs 1)
  have z2 := iEx_lt (xs 2)
  have z3 := iEx_lt (xs 3)
  have z4 := iEx_lt (xs 4)
  have z5 := iEx_lt (xs 5)
  by_cases c2 : iEx (xs 1) < 2147483647
  · skip
    exact ⟨BX_14_0, vr6 (k := 14) (l1 := 0) (h1 := 2147483646) (l2 := 0) (h2 := 4294967295) (l3 := 0) (h3 := 4294967295) (l4 := 0) (h4 := 4294967295) (l5 := 0) (h5 := 4294967295) (by decide +kernel) (by decide +kernel) hk ⟨⟨by omega, by omega⟩, ⟨by omega, by omega⟩, ⟨by omega, by omega⟩, ⟨by omega, by omega⟩, by omega, by omega⟩, bx_14_0⟩
  · skip
    by_cases c4 : iEx (xs 1) < 2147483648
    · skip
      exact ⟨BX_14_1, vr6 (k := 14) (l1 := 2147483647) (h1 := 2147483647) (l2 := 0) (h2 := 4294967295) (l3 := 0) (h3 := 4294967295) (l4 := 0) (h4 := 4294967295) (l5 := 0) (h5 := 4294967295) (by decide +kernel) (by decide +kernel) hk ⟨⟨by omega, by omega⟩, ⟨by omega, by omega⟩, ⟨by omega, by omega⟩, ⟨by omega, by omega⟩, by omega, by omega⟩, bx_14_1⟩
    · skip
      by_cases c6 : iEx (xs 1) < 2147483649
      · skip
        exact ⟨BX_14_2, vr6 (k := 14) (l1 := 2147483648) (h1 := 2147483648) (l2 := 0) (h2 := 4294967295) (l3 := 0) (h3 := 4294967295) (l4 := 0) (h4 := 4294967295) (l5 := 0) (h5 := 4294967295) (by decide +kernel) (by decide +kernel) hk ⟨⟨by omega, by omega⟩, ⟨by omega, by omega⟩, ⟨by omega, by omega⟩, ⟨by omega, by omega⟩, by omega, by omega⟩, bx_14_2⟩
      · skip
        exact ⟨BX_14_3, vr6 (k := 14) (l1 := 2147483649) (h1 := 4294967295) (l2 := 0) (h2 := 4294967295) (l3 := 0) (h3 := 4294967295) (l4 := 0) (h4 := 4294967295) (l5 := 0) (h5 := 4294967295) (by decide +kernel) (by decide +kernel) hk ⟨⟨by omega, by omega⟩, ⟨by omega, by omega⟩, ⟨by omega, by omega⟩, ⟨by omega, by omega⟩, by omega, by omega⟩, bx_14_3⟩
theorem cov_15 {xs : Nat → Int32} (hk : iEx (xs 0 &&& 63) = 15 + 2147483648) : Cov xs := by
  have z1 := iEx_lt (xs 1)
  have z2 := iEx_lt (xs 2)
  have z3 := iEx_lt (xs 3)
  have z4 := iEx_lt (xs 4)
  have z5 := iEx_lt (xs 5)
  exact ⟨BX_15_0, vr6 (k := 15) (l1 := 0) (h1 := 4294967295) (l2 := 0) (h2 := 4294967295) (l3 := 0) (h3 := 4294967295) (l4 := 0) (h4 := 4294967295) (l5 := 0) (h5 := 4294967295) (by decide +kernel) (by decide +kernel) hk ⟨⟨by omega, by omega⟩, ⟨by omega, by omega⟩, ⟨by omega, by omega⟩, ⟨by omega, by omega⟩, by omega, by omega⟩, bx_15_0⟩
theorem cov_16 {xs : Nat → Int32} (hk : iEx (xs 0 &&& 63) = 16 + 2147483648) : Cov xs := by
  have z1 := iEx_lt (xs 1)
  have z2 := iEx_lt (xs 2)
  have z3 := iEx_lt (xs 3)
  have z4 := iEx_lt (xs 4)
  have z5 := iEx_lt (xs 5)
  by_cases c2 : iEx (xs 1) < 2147483648
  · skip
    exact ⟨BX_16_0, vr6 (k := 16) (l1 := 0) (h1 := 2147483647) (l2 := 0) (h2 := 4294967295) (l3 := 0) (h3 := 4294967295) (l4 := 0) (h4 := 4294967295) (l5 := 0) (h5 := 4294967295) (by decide +kernel) (by decide +kernel) hk ⟨⟨by omega, by omega⟩, ⟨by omega, by omega⟩, ⟨by omega, by omega⟩, ⟨by omega, by omega⟩, by omega, by omega⟩, bx_16_0⟩
  · skip
    by_cases c4 : iEx (xs 1) < 2147483649
    · skip
      by_cases c6 : iEx (xs 2) < 2147483648
      · skip
        exact ⟨BX_16_1, vr6 (k := 16) (l1 := 2147483648) (h1 := 2147483648) (l2 := 0) (h2 := 2147483647) (l3 := 0) (h3 := 4294967295) (l4 := 0) (h4 := 4294967295) (l5 := 0) (h5 := 4294967295) (by decide +kernel) (by decide +kernel) hk ⟨⟨by omega, by omega⟩, ⟨by omega, by omega⟩, ⟨by omega, by omega⟩, ⟨by omega, by omega⟩, by omega, by omega⟩, bx_16_1⟩
      · skip
        by_cases c8 : iEx (xs 2) < 2147483650
        · skip
          by_cases c10 : iEx (xs 3) < 2147483648
          · skip
            exact ⟨BX_16_2, vr6 (k := 16) (l1 := 2147483648) (h1 := 2147483648) (l2 := 2147483648) (h2 := 2147483649) (l3 := 0) (h3 := 2147483647) (l4 := 0) (h4 := 4294967295) (l5 := 0) (h5 := 4294967295) (by decide +kernel) (by decide +kernel) hk ⟨⟨by omega, by omega⟩, ⟨by omega, by omega⟩, ⟨by omega, by omega⟩, ⟨by omega, by omega⟩, by omega, by omega⟩, bx_16_2⟩
          · skip
            by_cases c12 : iEx (xs 3) < 2147483649
            · skip
              by_cases c14 : iEx (xs 2) < 2147483649
              · skip
                exact ⟨BX_16_3, vr6 (k := 16) (l1 := 2147483648) (h1 := 2147483648) (l2 := 2147483648) (h2 := 2147483648) (l3 := 2147483648) (h3 := 2147483648) (l4 := 0) (h4 := 4294967295) (l5 := 0) (h5 := 4294967295) (by decide +kernel) (by decide +kernel) hk ⟨⟨by omega, by omega⟩, ⟨by omega, by omega⟩, ⟨by omega, by omega⟩, ⟨by omega, by omega⟩, by omega, by omega⟩, bx_16_3⟩
              · skip
                exact ⟨BX_16_5, vr6 (k := 16) (l1 := 2147483648) (h1 := 2147483648) (l2 := 2147483649) (h2 := 2147483649) (l3 := 2147483648) (h3 := 2147483648) (l4 := 0) (h4 := 4294967295) (l5 := 0) (h5 := 4294967295) (by decide +kernel) (by decide +kernel) hk ⟨⟨by omega, by omega⟩, ⟨by omega, by omega⟩, ⟨by omega, by omega⟩, ⟨by omega, by omega⟩, by omega, by omega⟩, bx_16_5⟩
            · skip
              by_cases c14 : iEx (xs 3) < 2147483650
              · skip
                by_cases c16 : iEx (xs 2) < 2147483649
                · skip
                  exact ⟨BX_16_4, vr6 (k := 16) (l1 := 2147483648) (h1 := 2147483648) (l2 := 2147483648) (h2 := 2147483648) (l3 := 2147483649) (h3 := 2147483649) (l4 := 0) (h4 := 4294967295) (l5 := 0) (h5 := 4294967295) (by decide +kernel) (by decide +kernel) hk ⟨⟨by omega, by omega⟩, ⟨by omega, by omega⟩, ⟨by omega, by omega⟩, ⟨by omega, by omega⟩, by omega, by omega⟩, bx_16_4⟩
                · skip
                  exact ⟨BX_16_6, vr6 (k := 16) (l1 := 2147483648) (h1 := 2147483648) (l2 := 2147483649) (h2 := 2147483649) (l3 := 2147483649) (h3 := 2147483649) (l4 := 0) (h4 := 4294967295) (l5 := 0) (h5 := 4294967295) (by decide +kernel) (by decide +kernel) hk ⟨⟨by omega, by omega⟩, ⟨by omega, by omega⟩, ⟨by omega, by omega⟩, ⟨by omega, by omega⟩, by omega, by omega⟩, bx_16_6⟩
              · skip
                exact ⟨BX_16_7, vr6 (k := 16) (l1 := 2147483648) (h1 := 2147483648) (l2 := 2147483648) (h2 := 2147483649) (l3 := 2147483650) (h3 := 4294967295) (l4 := 0) (h4 := 4294967295) (l5 := 0) (h5 := 4294967295) (by decide +kernel) (by decide +kernel) hk ⟨⟨by omega, by omega⟩, ⟨by omega, by omega⟩, ⟨by omega, by omega⟩, ⟨by omega, by omega⟩, by omega, by omega⟩, bx_16_7⟩
        · skip
          exact ⟨BX_16_8, vr6 (k := 16) (l1 := 2147483648) (h1 := 2147483648) (l2 := 2147483650) (h2 := 4294967295) (l3 := 0) (h3 := 4294967295) (l4 := 0) (h4 := 4294967295) (l5 := 0) (h5 := 4294967295) (by decide +kernel) (by decide +kernel) hk ⟨⟨by omega, by omega⟩, ⟨by omega, by omega⟩, ⟨by omega, by omega⟩, ⟨by omega, by omega⟩, by omega, by omega⟩, bx_16_8⟩
    · skip
      exact ⟨BX_16_9, vr6 (k := 16) (l1 := 2147483649) (h1 := 4294967295) (l2 := 0) (h2 := 4294967295) (l3 := 0) (h3 := 4294967295) (l4 := 0) (h4 := 4294967295) (l5 := 0) (h5 := 4294967295) (by decide +kernel) (by decide +kernel) hk ⟨⟨by omega, by omega⟩, ⟨by omega, by omega⟩, ⟨by omega, by omega⟩, ⟨by omega, by omega⟩, by omega, by omega⟩, bx_16_9⟩
theorem cov_17 {xs : Nat → Int32} (hk : iEx (xs 0 &&& 63) = 17 + 2147483648) : Cov xs := by
  have z1 := iEx_lt (xs 1)
  have z2 := iEx_lt (xs 2)
  have z3 := iEx_lt (xs 3)
  have z4 := iEx_lt (xs 4)
  have z5 := iEx_lt (xs 5)
  by_cases c2 : iEx (xs 1) < 2147483648
  · skip
    exact ⟨BX_17_0, vr6 (k := 17) (l1 := 0) (h1 := 2147483647) (l2 := 0) (h2 := 4294967295) (l3 := 0) (h3 := 4294967295) (l4 := 0) (h4 := 4294967295) (l5 := 0) (h5 := 4294967295) (by decide +kernel) (by decide +kernel) hk ⟨⟨by omega, by omega⟩, ⟨by omega, by omega⟩, ⟨by omega, by omega⟩, ⟨by omega, by omega⟩, by omega, by omega⟩, bx_17_0⟩
  · skip
    by_cases c4 : iEx (xs 1) < 2147483649
    · skip
      by_cases c6 : iEx (xs 2) < 2147483648
      · skip
        exact ⟨BX_17_1, vr6 (k := 17) (l1 := 2147483648) (h1 := 2147483648) (l2 := 0) (h2 := 2147483647) (l3 := 0) (h3 := 4294967295) (l4 := 0) (h4 := 4294967295) (l5 := 0) (h5 := 4294967295) (by decide +kernel) (by decide +kernel) hk ⟨⟨by omega, by omega⟩, ⟨by omega, by omega⟩, ⟨by omega, by omega⟩, ⟨by omega, by omega⟩, by omega, by omega⟩, bx_17_1⟩
      · skip
        by_cases c8 : iEx (xs 2) < 2147483650
        · skip
          by_cases c10 : iEx (xs 3) < 2147483648
          · skip
            exact ⟨BX_17_2, vr6 (k := 17) (l1 := 2147483648) (h1 := 2147483648) (l2 := 2147483648) (h2 := 2147483649) (l3 := 0) (h3 := 2147483647) (l4 := 0) (h4 := 4294967295) (l5 := 0) (h5 := 4294967295) (by decide +kernel) (by decide +kernel) hk ⟨⟨by omega, by omega⟩, ⟨by omega, by omega⟩, ⟨by omega, by omega⟩, ⟨by omega, by omega⟩, by omega, by omega⟩, bx_17_2⟩
          · skip
            by_cases c12 : iEx (xs 3) < 2147483650
            · skip
              exact ⟨BX_17_3, vr6 (k := 17) (l1 := 2147483648) (h1 := 2147483648) (l2 := 2147483648) (h2 := 2147483649) (l3 := 2147483648) (h3 := 2147483649) (l4 := 0) (h4 := 4294967295) (l5 := 0) (h5 := 4294967295) (by decide +kernel) (by decide +kernel) hk ⟨⟨by omega, by omega⟩, ⟨by omega, by omega⟩, ⟨by omega, by omega⟩, ⟨by omega, by omega⟩, by omega, by omega⟩, bx_17_3⟩
            · skip
              exact ⟨BX_17_4, vr6 (k := 17) (l1 := 2147483648) (h1 := 2147483648) (l2 := 2147483648) (h2 := 2147483649) (l3 := 2147483650) (h3 := 4294967295) (l4 := 0) (h4 := 4294967295) (l5 := 0) (h5 := 4294967295) (by decide +kernel) (by decide +kernel) hk ⟨⟨by omega, by omega⟩, ⟨by omega, by omega⟩, ⟨by omega, by omega⟩, ⟨by omega, by omega⟩, by omega, by omega⟩, bx_17_4⟩
        · skip
          exact ⟨BX_17_5, vr6 (k := 17) (l1 := 2147483648) (h1 := 2147483648) (l2 := 2147483650) (h2 := 4294967295) (l3 := 0) (h3 := 4294967295) (l4 := 0) (h4 := 4294967295) (l5 := 0) (h5 := 4294967295) (by decide +kernel) (by decide +kernel) hk ⟨⟨by omega, by omega⟩, ⟨by omega, by omega⟩, ⟨by omega, by omega⟩, ⟨by omega, by omega⟩, by omega, by omega⟩, bx_17_5⟩
    · skip
      exact ⟨BX_17_6, vr6 (k := 17) (l1 := 2147483649) (h1 := 4294967295) (l2 := 0) (h2 := 4294967295) (l3 := 0) (h3 := 4294967295) (l4 := 0) (h4 := 4294967295) (l5 := 0) (h5 := 4294967295) (by decide +kernel) (by decide +kernel) hk ⟨⟨by omega, by omega⟩, ⟨by omega, by omega⟩, ⟨by omega, by omega⟩, ⟨by omega, by omega⟩, by omega, by omega⟩, bx_17_6⟩
theorem cov_18 {xs : Nat → Int32} (hk : iEx (xs 0 &&& 63) = 18 + 2147483648) : Cov xs := by
  have z1 := iEx_lt (xs 1)
  have z2 := iEx_lt (xs 2)
  have z3 := iEx_lt (xs 3)
  have z4 := iEx_lt (xs 4)
  have z5 := iEx_lt (xs 5)
  by_cases c2 : iEx (xs 1) < 2147483648
  · skip
    exact ⟨BX_18_0, vr6 (k := 18) (l1 := 0) (h1 := 2147483647) (l2 := 0) (h2 := 4294967295) (l3 := 0) (h3 := 4294967295) (l4 := 0) (h4 := 4294967295) (l5 := 0) (h5 := 4294967295) (by decide +kernel) (by decide +kernel) hk ⟨⟨by omega, by omega⟩, ⟨by omega, by omega⟩, ⟨by omega, by omega⟩, ⟨by omega, by omega⟩, by omega, by omega⟩, bx_18_0⟩
  · skip
    by_cases c4 : iEx (xs 1) < 2147483650
    · skip
      by_cases c6 : iEx (xs 2) < 2147483648
      · skip
        exact ⟨BX_18_1, vr6 (k := 18) (l1 := 2147483648) (h1 := 2147483649) (l2 := 0) (h2 := 2147483647) (l3 := 0) (h3 := 4294967295) (l4 := 0) (h4 := 4294967295) (l5 := 0) (h5 := 4294967295) (by decide +kernel) (by decide +kernel) hk ⟨⟨by omega, by omega⟩, ⟨by omega, by omega⟩, ⟨by omega, by omega⟩, ⟨by omega, by omega⟩, by omega, by omega⟩, bx_18_1⟩
      · skip
        by_cases c8 : iEx (xs 2) < 2147483649
        · skip
          by_cases c10 : iEx (xs 1) < 2147483649
          · skip
            by_cases c12 : iEx (xs 3) < 2147483648
            · skip
              exact ⟨BX_18_2, vr6 (k := 18) (l1 := 2147483648) (h1 := 2147483648) (l2 := 2147483648) (h2 := 2147483648) (l3 := 0) (h3 := 2147483647) (l4 := 0) (h4 := 4294967295) (l5 := 0) (h5 := 4294967295) (by decide +kernel) (by decide +kernel) hk ⟨⟨by omega, by omega⟩, ⟨by omega, by omega⟩, ⟨by omega, by omega⟩, ⟨by omega, by omega⟩, by omega, by omega⟩, bx_18_2⟩
            · skip
              by_cases c14 : iEx (xs 3) < 2147483650
              · skip
                exact ⟨BX_18_6, vr6 (k := 18) (l1 := 2147483648) (h1 := 2147483648) (l2 := 2147483648) (h2 := 2147483648) (l3 := 2147483648) (h3 := 2147483649) (l4 := 0) (h4 := 4294967295) (l5 := 0) (h5 := 4294967295) (by decide +kernel) (by decide +kernel) hk ⟨⟨by omega, by omega⟩, ⟨by omega, by omega⟩, ⟨by omega, by omega⟩, ⟨by omega, by omega⟩, by omega, by omega⟩, bx_18_6⟩
              · skip
                exact ⟨BX_18_12, vr6 (k := 18) (l1 := 2147483648) (h1 := 2147483648) (l2 := 2147483648) (h2 := 2147483648) (l3 := 2147483650) (h3 := 4294967295) (l4 := 0) (h4 := 4294967295) (l5 := 0) (h5 := 4294967295) (by decide +kernel) (by decide +kernel) hk ⟨⟨by omega, by omega⟩, ⟨by omega, by omega⟩, ⟨by omega, by omega⟩, ⟨by omega, by omega⟩, by omega, by omega⟩, bx_18_12⟩
          · skip
            by_cases c12 : iEx (xs 3) < 2147483648
            · skip
              exact ⟨BX_18_4, vr6 (k := 18) (l1 := 2147483649) (h1 := 2147483649) (l2 := 2147483648) (h2 := 2147483648) (l3 := 0) (h3 := 2147483647) (l4 := 0) (h4 := 4294967295) (l5 := 0) (h5 := 4294967295) (by decide +kernel) (by decide +kernel) hk ⟨⟨by omega, by omega⟩, ⟨by omega, by omega⟩, ⟨by omega, by omega⟩, ⟨by omega, by omega⟩, by omega, by omega⟩, bx_18_4⟩
            · skip
              by_cases c14 : iEx (xs 3) < 2147483649
              · skip
                exact ⟨BX_18_9, vr6 (k := 18) (l1 := 2147483649) (h1 := 2147483649) (l2 := 2147483648) (h2 := 2147483648) (l3 := 2147483648) (h3 := 2147483648) (l4 := 0) (h4 := 4294967295) (l5 := 0) (h5 := 4294967295) (by decide +kernel) (by decide +kernel) hk ⟨⟨by omega, by omega⟩, ⟨by omega, by omega⟩, ⟨by omega, by omega⟩, ⟨by omega, by omega⟩, by omega, by omega⟩, bx_18_9⟩
              · skip
                by_cases c16 : iEx (xs 3) < 2147483650
                · skip
                  exact ⟨BX_18_10, vr6 (k := 18) (l1 := 2147483649) (h1 := 2147483649) (l2 := 2147483648) (h2 := 2147483648) (l3 := 2147483649) (h3 := 2147483649) (l4 := 0) (h4 := 4294967295) (l5 := 0) (h5 := 4294967295) (by decide +kernel) (by decide +kernel) hk ⟨⟨by omega, by omega⟩, ⟨by omega, by omega⟩, ⟨by omega, by omega⟩, ⟨by omega, by omega⟩, by omega, by omega⟩, bx_18_10⟩
                · skip
                  exact ⟨BX_18_14, vr6 (k := 18) (l1 := 2147483649) (h1 := 2147483649) (l2 := 2147483648) (h2 := 2147483648) (l3 := 2147483650) (h3 := 4294967295) (l4 := 0) (h4 := 4294967295) (l5 := 0) (h5 := 4294967295) (by decide +kernel) (by decide +kernel) hk ⟨⟨by omega, by omega⟩, ⟨by omega, by omega⟩, ⟨by omega, by omega⟩, ⟨by omega, by omega⟩, by omega, by omega⟩, bx_18_14⟩
        · skip
          by_cases c10 : iEx (xs 2) < 2147483650
          · skip
            by_cases c12 : iEx (xs 1) < 2147483649
            · skip
              by_cases c14 : iEx (xs 3) < 2147483648
              · skip
                exact ⟨BX_18_3, vr6 (k := 18) (l1 := 2147483648) (h1 := 2147483648) (l2 := 2147483649) (h2 := 2147483649) (l3 := 0) (h3 := 2147483647) (l4 := 0) (h4 := 4294967295) (l5 := 0) (h5 := 4294967295) (by decide +kernel) (by decide +kernel) hk ⟨⟨by omega, by omega⟩, ⟨by omega, by omega⟩, ⟨by omega, by omega⟩, ⟨by omega, by omega⟩, by omega, by omega⟩, bx_18_3⟩
              · skip
                by_cases c16 : iEx (xs 3) < 2147483649
                · skip
                  exact ⟨BX_18_7, vr6 (k := 18) (l1 := 2147483648) (h1 := 2147483648) (l2 := 2147483649) (h2 := 2147483649) (l3 := 2147483648) (h3 := 2147483648) (l4 := 0) (h4 := 4294967295) (l5 := 0) (h5 := 4294967295) (by decide +kernel) (by decide +kernel) hk ⟨⟨by omega, by omega⟩, ⟨by omega, by omega⟩, ⟨by omega, by omega⟩, ⟨by omega, by omega⟩, by omega, by omega⟩, bx_18_7⟩
                · skip
                  by_cases c18 : iEx (xs 3) < 2147483650
                  · skip
                    exact ⟨BX_18_8, vr6 (k := 18) (l1 := 2147483648) (h1 := 2147483648) (l2 := 2147483649) (h2 := 2147483649) (l3 := 2147483649) (h3 := 2147483649) (l4 := 0) (h4 := 4294967295) (l5 := 0) (h5 := 4294967295) (by decide +kernel) (by decide +kernel) hk ⟨⟨by omega, by omega⟩, ⟨by omega, by omega⟩, ⟨by omega, by omega⟩, ⟨by omega, by omega⟩, by omega, by omega⟩, bx_18_8⟩
                  · skip
                    exact ⟨BX_18_13, vr6 (k := 18) (l1 := 2147483648) (h1 := 2147483648) (l2 := 2147483649) (h2 := 2147483649) (l3 := 2147483650) (h3 := 4294967295) (l4 := 0) (h4 := 4294967295) (l5 := 0) (h5 := 4294967295) (by decide +kernel) (by decide +kernel) hk ⟨⟨by omega, by omega⟩, ⟨by omega, by omega⟩, ⟨by omega, by omega⟩, ⟨by omega, by omega⟩, by omega, by omega⟩, bx_18_13⟩
            · skip
              by_cases c14 : iEx (xs 3) < 2147483648
              · skip
                exact ⟨BX_18_5, vr6 (k := 18) (l1 := 2147483649) (h1 := 2147483649) (l2 := 2147483649) (h2 := 2147483649) (l3 := 0) (h3 := 2147483647) (l4 := 0) (h4 := 4294967295) (l5 := 0) (h5 := 4294967295) (by decide +kernel) (by decide +kernel) hk ⟨⟨by omega, by omega⟩, ⟨by omega, by omega⟩, ⟨by omega, by omega⟩, ⟨by omega, by omega⟩, by omega, by omega⟩, bx_18_5⟩
              · skip
                by_cases c16 : iEx (xs 3) < 2147483650
                · skip
                  exact ⟨BX_18_11, vr6 (k := 18) (l1 := 2147483649) (h1 := 2147483649) (l2 := 2147483649) (h2 := 2147483649) (l3 := 2147483648) (h3 := 2147483649) (l4 := 0) (h4 := 4294967295) (l5 := 0) (h5 := 4294967295) (by decide +kernel) (by decide +kernel) hk ⟨⟨by omega, by omega⟩, ⟨by omega, by omega⟩, ⟨by omega, by omega⟩, ⟨by omega, by omega⟩, by omega, by omega⟩, bx_18_11⟩
                · skip
                  exact ⟨BX_18_15, vr6 (k := 18) (l1 := 2147483649) (h1 := 2147483649) (l2 := 2147483649) (h2 := 2147483649) (l3 := 2147483650) (h3 := 4294967295) (l4 := 0) (h4 := 4294967295) (l5 := 0) (h5 := 4294967295) (by decide +kernel) (by decide +kernel) hk ⟨⟨by omega, by omega⟩, ⟨by omega, by omega⟩, ⟨by omega, by omega⟩, ⟨by omega, by omega⟩, by omega, by omega⟩, bx_18_15⟩
          · skip
            exact ⟨BX_18_16, vr6 (k := 18) (l1 := 2147483648) (h1 := 2147483649) (l2 := 2147483650) (h2 := 4294967295) (l3 := 0) (h3 := 4294967295) (l4 := 0) (h4 := 4294967295) (l5 := 0) (h5 := 4294967295) (by decide +kernel) (by decide +kernel) hk ⟨⟨by omega, by omega⟩, ⟨by omega, by omega⟩, ⟨by omega, by omega⟩, ⟨by omega, by omega⟩, by omega, by omega⟩, bx_18_16⟩
    · skip
      exact ⟨BX_18_17, vr6 (k := 18) (l1 := 2147483650) (h1 := 4294967295) (l2 := 0) (h2 := 4294967295) (l3 := 0) (h3 := 4294967295) (l4 := 0) (h4 := 4294967295) (l5 := 0) (h5 := 4294967295) (by decide +kernel) (by decide +kernel) hk ⟨⟨by omega, by omega⟩, ⟨by omega, by omega⟩, ⟨by omega, by omega⟩, ⟨by omega, by omega⟩, by omega, by omega⟩, bx_18_17⟩
theorem cov_19 {xs : Nat → Int32} (hk : iEx (xs 0 &&& 63) = 19 + 2147483648) : Cov xs := by
  have z1 := iEx_lt (xs 1)
  have z2 := iEx_lt (xs 2)
  have z3 := iEx_lt (xs 3)
  have z4 := iEx_lt (xs 4)
  have z5 := iEx_lt (xs 5)
  by_cases c2 : iEx (xs 1) < 2147483648
  · skip
    exact ⟨BX_19_0, vr6 (k := 19) (l1 := 0) (h1 := 2147483647) (l2 := 0) (h2 := 4294967295) (l3 := 0) (h3 := 4294967295) (l4 := 0) (h4 := 4294967295) (l5 := 0) (h5 := 4294967295) (by decide +kernel) (by decide +kernel) hk ⟨⟨by omega, by omega⟩, ⟨by omega, by omega⟩, ⟨by omega, by omega⟩, ⟨by omega, by omega⟩, by omega, by omega⟩, bx_19_0⟩
  · skip
    by_cases c4 : iEx (xs 1) < 2147483649
    · skip
      exact ⟨BX_19_1, vr6 (k := 19) (l1 := 2147483648) (h1 := 2147483648) (l2 := 0) (h2 := 4294967295) (l3 := 0) (h3 := 4294967295) (l4 := 0) (h4 := 4294967295) (l5 := 0) (h5 := 4294967295) (by decide +kernel) (by decide +kernel) hk ⟨⟨by omega, by omega⟩, ⟨by omega, by omega⟩, ⟨by omega, by omega⟩, ⟨by omega, by omega⟩, by omega, by omega⟩, bx_19_1⟩
    · skip
      exact ⟨BX_19_2, vr6 (k := 19) (l1 := 2147483649) (h1 := 4294967295) (l2 := 0) (h2 := 4294967295) (l3 := 0) (h3 := 4294967295) (l4 := 0) (h4 := 4294967295) (l5 := 0) (h5 := 4294967295) (by decide +kernel) (by decide +kernel) hk ⟨⟨by omega, by omega⟩, ⟨by omega, by omega⟩, ⟨by omega, by omega⟩, ⟨by omega, by omega⟩, by omega, by omega⟩, bx_19_2⟩
theorem cov_20 {xs : Nat → Int32} (hk : iEx (xs 0 &&& 63) = 20 + 2147483648) : Cov xs := by
  have z1 := iEx_lt (xs 1)
  have z2 := iEx_lt (xs 2)
  have z3 := iEx_lt (xs 3)
  have z4 := iEx_lt (xs 4)
  have z5 := iEx_lt (xs 5)
  by_cases c2 : iEx (xs 1) < 2147483648
  · skip
    exact ⟨BX_20_0, vr6 (k := 20) (l1 := 0) (h1 := 2147483647) (l2 := 0) (h2 := 4294967295) (l3 := 0) (h3 := 4294967295) (l4 := 0) (h4 := 4294967295) (l5 := 0) (h5 := 4294967295) (by decide +kernel) (by decide +kernel) hk ⟨⟨by omega, by omega⟩, ⟨by omega, by omega⟩, ⟨by omega, by omega⟩, ⟨by omega, by omega⟩, by omega, by omega⟩, bx_20_0⟩
  · skip
    by_cases c4 : iEx (xs 1) < 2147483649
    · skip
      by_cases c6 : iEx (xs 2) < 2147483648
      · skip
        exact ⟨BX_20_1, vr6 (k := 20) (l1 := 2147483648) (h1 := 2147483648) (l2 := 0) (h2 := 2147483647) (l3 := 0) (h3 := 4294967295) (l4 := 0) (h4 := 4294967295) (l5 := 0) (h5 := 4294967295) (by decide +kernel) (by decide +kernel) hk ⟨⟨by omega, by omega⟩, ⟨by omega, by omega⟩, ⟨by omega, by omega⟩, ⟨by omega, by omega⟩, by omega, by omega⟩, bx_20_1⟩
      · skip
        by_cases c8 : iEx (xs 2) < 2147483649
        · skip
          exact ⟨BX_20_2, vr6 (k := 20) (l1 := 2147483648) (h1 := 2147483648) (l2 := 2147483648) (h2 := 2147483648) (l3 := 0) (h3 := 4294967295) (l4 := 0) (h4 := 4294967295) (l5 := 0) (h5 := 4294967295) (by decide +kernel) (by decide +kernel) hk ⟨⟨by omega, by omega⟩, ⟨by omega, by omega⟩, ⟨by omega, by omega⟩, ⟨by omega, by omega⟩, by omega, by omega⟩, bx_20_2⟩
        · skip
          by_cases c10 : iEx (xs 2) < 2147483650
          · skip
            exact ⟨BX_20_3, vr6 (k := 20) (l1 := 2147483648) (h1 := 2147483648) (l2 := 2147483649) (h2 := 2147483649) (l3 := 0) (h3 := 4294967295) (l4 := 0) (h4 := 4294967295) (l5 := 0) (h5 := 4294967295) (by decide +kernel) (by decide +kernel) hk ⟨⟨by omega, by omega⟩, ⟨by omega, by omega⟩, ⟨by omega, by omega⟩, ⟨by omega, by omega⟩, by omega, by omega⟩, bx_20_3⟩
          · skip
            exact ⟨BX_20_4, vr6 (k := 20) (l1 := 2147483648) (h1 := 2147483648) (l2 := 2147483650) (h2 := 4294967295) (l3 := 0) (h3 := 4294967295) (l4 := 0) (h4 := 4294967295) (l5 := 0) (h5 := 4294967295) (by decide +kernel) (by decide +kernel) hk ⟨⟨by omega, by omega⟩, ⟨by omega, by omega⟩, ⟨by omega, by omega⟩, ⟨by omega, by omega⟩, by omega, by omega⟩, bx_20_4⟩
    · skip
      exact ⟨BX_20_5, vr6 (k := 20) (l1 := 2147483649) (h1 := 4294967295) (l2 := 0) (h2 := 4294967295) (l3 := 0) (h3 := 4294967295) (l4 := 0) (h4 := 4294967295) (l5 := 0) (h5 := 4294967295) (by decide +kernel) (by decide +kernel) hk ⟨⟨by omega, by omega⟩, ⟨by omega, by omega⟩, ⟨by omega, by omega⟩, ⟨by omega, by omega⟩, by omega, by omega⟩, bx_20_5⟩
theorem cov_21 {xs : Nat → Int32} (hk : iEx (xs 0 &&& 63) = 21 + 2147483648) : Cov xs := by
  have z1 := iEx_lt (xs 1)
  have z2 := iEx_lt (xs 2)
  have z3 := iEx_lt (xs 3)
  have z4 := iEx_lt (xs 4)
  have z5 := iEx_lt (xs 5)
  by_cases c2 : iEx (xs 1) < 2147483648
  · skip
    exact ⟨BX_21_0, vr6 (k := 21) (l1 := 0) (h1 := 2147483647) (l2 := 0) (h2 := 4294967295) (l3 := 0) (h3 := 4294967295) (l4 := 0) (h4 := 4294967295) (l5 := 0) (h5 := 4294967295) (by decide +kernel) (by decide +kernel) hk ⟨⟨by omega, by omega⟩, ⟨by omega, by omega⟩, ⟨by omega, by omega⟩, ⟨by omega, by omega⟩, by omega, by omega⟩, bx_21_0⟩
  · skip
    by_cases c4 : iEx (xs 1) < 2147483649
    · skip
      by_cases c6 : iEx (xs 2) < 2147483648
      · skip
        exact ⟨BX_21_1, vr6 (k := 21) (l1 := 2147483648) (h1 := 2147483648) (l2 := 0) (h2 := 2147483647) (l3 := 0) (h3 := 4294967295) (l4 := 0) (h4 := 4294967295) (l5 := 0) (h5 := 4294967295) (by decide +kernel) (by decide +kernel) hk ⟨⟨by omega, by omega⟩, ⟨by omega, by omega⟩, ⟨by omega, by omega⟩, ⟨by omega, by omega⟩, by omega, by omega⟩, bx_21_1⟩
      · skip
        by_cases c8 : iEx (xs 2) < 2147483649
        · skip
          exact ⟨BX_21_2, vr6 (k := 21) (l1 := 2147483648) (h1 := 2147483648) (l2 := 2147483648) (h2 := 2147483648) (l3 := 0) (h3 := 4294967295) (l4 := 0) (h4 := 4294967295) (l5 := 0) (h5 := 4294967295) (by decide +kernel) (by decide +kernel) hk ⟨⟨by omega, by omega⟩, ⟨by omega, by omega⟩, ⟨by omega, by omega⟩, ⟨by omega, by omega⟩, by omega, by omega⟩, bx_21_2⟩
        · skip
          by_cases c10 : iEx (xs 2) < 2147483650
          · skip
            exact ⟨BX_21_3, vr6 (k := 21) (l1 := 2147483648) (h1 := 2147483648) (l2 := 2147483649) (h2 := 2147483649) (l3 := 0) (h3 := 4294967295) (l4 := 0) (h4 := 4294967295) (l5 := 0) (h5 := 4294967295) (by decide +kernel) (by decide +kernel) hk ⟨⟨by omega, by omega⟩, ⟨by omega, by omega⟩, ⟨by omega, by omega⟩, ⟨by omega, by omega⟩, by omega, by omega⟩, bx_21_3⟩
          · skip
            exact ⟨BX_21_4, vr6 (k := 21) (l1 := 2147483648) (h1 := 2147483648) (l2 := 2147483650) (h2 := 4294967295) (l3 := 0) (h3 := 4294967295) (l4 := 0) (h4 := 4294967295) (l5 := 0) (h5 := 4294967295) (by decide +kernel) (by decide +kernel) hk ⟨⟨by omega, by omega⟩, ⟨by omega, by omega⟩, ⟨by omega, by omega⟩, ⟨by omega, by omega⟩, by omega, by omega⟩, bx_21_4⟩
    · skip
      exact ⟨BX_21_5, vr6 (k := 21) (l1 := 2147483649) (h1 := 4294967295) (l2 := 0) (h2 := 4294967295) (l3 := 0) (h3 := 4294967295) (l4 := 0) (h4 := 4294967295) (l5 := 0) (h5 := 4294967295) (by decide +kernel) (by decide +kernel) hk ⟨⟨by omega, by omega⟩, ⟨by omega, by omega⟩, ⟨by omega, by omega⟩, ⟨by omega, by omega⟩, by omega, by omega⟩, bx_21_5⟩
theorem cov_22 {xs : Nat → Int32} (hk : iEx (xs 0 &&& 63) = 22 + 2147483648) : Cov xs := by
  have z1 := iEx_lt (xs 1)
  have z2 := iEx_lt (xs 2)
  have z3 := iEx_lt (xs 3)
  have z4 := iEx_lt (xs 4)
  have z5 := iEx_lt (xs 5)
  by_cases c2 : iEx (xs 1) < 2147483648
  · skip
    by_cases c4 : iEx (xs 2) < 2147483648
    · skip
      exact ⟨BX_22_0, vr6 (k := 22) (l1 := 0) (h1 := 2147483647) (l2 := 0) (h2 := 2147483647) (l3 := 0) (h3 := 4294967295) (l4 := 0) (h4 := 4294967295) (l5 := 0) (h5 := 4294967295) (by decide +kernel) (by decide +kernel) hk ⟨⟨by omega, by omega⟩, ⟨by omega, by omega⟩, ⟨by omega, by omega⟩, ⟨by omega, by omega⟩, by omega, by omega⟩, bx_22_0⟩
    · skip
      exact ⟨BX_22_1, vr6 (k := 22) (l1 := 0) (h1 := 2147483647) (l2 := 2147483648) (h2 := 4294967295) (l3 := 0) (h3 := 4294967295) (l4 := 0) (h4 := 4294967295) (l5 := 0) (h5 := 4294967295) (by decide +kernel) (by decide +kernel) hk ⟨⟨by omega, by omega⟩, ⟨by omega, by omega⟩, ⟨by omega, by omega⟩, ⟨by omega, by omega⟩, by omega, by omega⟩, bx_22_1⟩
  · skip
    by_cases c4 : iEx (xs 1) < 2147483649
    · skip
      by_cases c6 : iEx (xs 2) < 2147483648
      · skip
        exact ⟨BX_22_2, vr6 (k := 22) (l1 := 2147483648) (h1 := 2147483648) (l2 := 0) (h2 := 2147483647) (l3 := 0) (h3 := 4294967295) (l4 := 0) (h4 := 4294967295) (l5 := 0) (h5 := 4294967295) (by decide +kernel) (by decide +kernel) hk ⟨⟨by omega, by omega⟩, ⟨by omega, by omega⟩, ⟨by omega, by omega⟩, ⟨by omega, by omega⟩, by omega, by omega⟩, bx_22_2⟩
      · skip
        exact ⟨BX_22_3, vr6 (k := 22) (l1 := 2147483648) (h1 := 2147483648) (l2 := 2147483648) (h2 := 4294967295) (l3 := 0) (h3 := 4294967295) (l4 := 0) (h4 := 4294967295) (l5 := 0) (h5 := 4294967295) (by decide +kernel) (by decide +kernel) hk ⟨⟨by omega, by omega⟩, ⟨by omega, by omega⟩, ⟨by omega, by omega⟩, ⟨by omega, by omega⟩, by omega, by omega⟩, bx_22_3⟩
    · skip
      by_cases c6 : iEx (xs 2) < 2147483648
      · skip
        exact ⟨BX_22_4, vr6 (k := 22) (l1 := 2147483649) (h1 := 4294967295) (l2 := 0) (h2 := 2147483647) (l3 := 0) (h3 := 4294967295) (l4 := 0) (h4 := 4294967295) (l5 := 0) (h5 := 4294967295) (by decide +kernel) (by decide +kernel) hk ⟨⟨by omega, by omega⟩, ⟨by omega, by omega⟩, ⟨by omega, by omega⟩, ⟨by omega, by omega⟩, by omega, by omega⟩, bx_22_4⟩
      · skip
        exact ⟨BX_22_5, vr6 (k := 22) (l1 := 2147483649) (h1 := 4294967295) (l2 := 2147483648) (h2 := 4294967295) (l3 := 0) (h3 := 4294967295) (l4 := 0) (h4 := 4294967295) (l5 := 0) (h5 := 4294967295) (by decide +kernel) (by decide +kernel) hk ⟨⟨by omega, by omega⟩, ⟨by omega, by omega⟩, ⟨by omega, by omega⟩, ⟨by omega, by omega⟩, by omega, by omega⟩, bx_22_5⟩
theorem cov_23 {xs : Nat → Int32} (hk : iEx (xs 0 &&& 63) = 23 + 2147483648) : Cov xs := by
  have z1 := iEx_lt (xs 1)
  have z2 := iEx_lt (xs 2)
  have z3 := iEx_lt (xs 3)
  have z4 := iEx_lt (xs 4)
  have z5 := iEx_lt (xs 5)
  by_cases c2 : iEx (xs 1) < 2147483648
  · skip
    by_cases c4 : iEx (xs 2) < 2147483648
    · skip
      exact ⟨BX_23_0, vr6 (k := 23) (l1 := 0) (h1 := 2147483647) (l2 := 0) (h2 := 2147483647) (l3 := 0) (h3 := 4294967295) (l4 := 0) (h4 := 4294967295) (l5 := 0) (h5 := 4294967295) (by decide +kernel) (by decide +kernel) hk ⟨⟨by omega, by omega⟩, ⟨by omega, by omega⟩, ⟨by omega, by omega⟩, ⟨by omega, by omega⟩, by omega, by omega⟩, bx_23_0⟩
    · skip
      by_cases c6 : iEx (xs 2) < 2147483649
      · skip
        exact ⟨BX_23_1, vr6 (k := 23) (l1 := 0) (h1 := 2147483647) (l2 := 2147483648) (h2 := 2147483648) (l3 := 0) (h3 := 4294967295) (l4 := 0) (h4 := 4294967295) (l5 := 0) (h5 := 4294967295) (by decide +kernel) (by decide +kernel) hk ⟨⟨by omega, by omega⟩, ⟨by omega, by omega⟩, ⟨by omega, by omega⟩, ⟨by omega, by omega⟩, by omega, by omega⟩, bx_23_1⟩
      · skip
        exact ⟨BX_23_2, vr6 (k := 23) (l1 := 0) (h1 := 2147483647) (l2 := 2147483649) (h2 := 4294967295) (l3 := 0) (h3 := 4294967295) (l4 := 0) (h4 := 4294967295) (l5 := 0) (h5 := 4294967295) (by decide +kernel) (by decide +kernel) hk ⟨⟨by omega, by omega⟩, ⟨by omega, by omega⟩, ⟨by omega, by omega⟩, ⟨by omega, by omega⟩, by omega, by omega⟩, bx_23_2⟩
  · skip
    by_cases c4 : iEx (xs 1) < 2147483649
    · skip
      by_cases c6 : iEx (xs 2) < 2147483648
      · skip
        exact ⟨BX_23_3, vr6 (k := 23) (l1 := 2147483648) (h1 := 2147483648) (l2 := 0) (h2 := 2147483647) (l3 := 0) (h3 := 4294967295) (l4 := 0) (h4 := 4294967295) (l5 := 0) (h5 := 4294967295) (by decide +kernel) (by decide +kernel) hk ⟨⟨by omega, by omega⟩, ⟨by omega, by omega⟩, ⟨by omega, by omega⟩, ⟨by omega, by omega⟩, by omega, by omega⟩, bx_23_3⟩
      · skip
        by_cases c8 : iEx (xs 2) < 2147483649
        · skip
          by_cases c10 : iEx (xs 3) < 2147483648
          · skip
            exact ⟨BX_23_4, vr6 (k := 23) (l1 := 2147483648) (h1 := 2147483648) (l2 := 2147483648) (h2 := 2147483648) (l3 := 0) (h3 := 2147483647) (l4 := 0) (h4 := 4294967295) (l5 := 0) (h5 := 4294967295) (by decide +kernel) (by decide +kernel) hk ⟨⟨by omega, by omega⟩, ⟨by omega, by omega⟩, ⟨by omega, by omega⟩, ⟨by omega, by omega⟩, by omega, by omega⟩, bx_23_4⟩
          · skip
            by_cases c12 : iEx (xs 3) < 2147483649
            · skip
              exact ⟨BX_23_5, vr6 (k := 23) (l1 := 2147483648) (h1 := 2147483648) (l2 := 2147483648) (h2 := 2147483648) (l3 := 2147483648) (h3 := 2147483648) (l4 := 0) (h4 := 4294967295) (l5 := 0) (h5 := 4294967295) (by decide +kernel) (by decide +kernel) hk ⟨⟨by omega, by omega⟩, ⟨by omega, by omega⟩, ⟨by omega, by omega⟩, ⟨by omega, by omega⟩, by omega, by omega⟩, bx_23_5⟩
            · skip
              by_cases c14 : iEx (xs 3) < 2147483650
              · skip
                exact ⟨BX_23_6, vr6 (k := 23) (l1 := 2147483648) (h1 := 2147483648) (l2 := 2147483648) (h2 := 2147483648) (l3 := 2147483649) (h3 := 2147483649) (l4 := 0) (h4 := 4294967295) (l5 := 0) (h5 := 4294967295) (by decide +kernel) (by decide +kernel) hk ⟨⟨by omega, by omega⟩, ⟨by omega, by omega⟩, ⟨by omega, by omega⟩, ⟨by omega, by omega⟩, by omega, by omega⟩, bx_23_6⟩
              · skip
                exact ⟨BX_23_7, vr6 (k := 23) (l1 := 2147483648) (h1 := 2147483648) (l2 := 2147483648) (h2 := 2147483648) (l3 := 2147483650) (h3 := 4294967295) (l4 := 0) (h4 := 4294967295) (l5 := 0) (h5 := 4294967295) (by decide +kernel) (by decide +kernel) hk ⟨⟨by omega, by omega⟩, ⟨by omega, by omega⟩, ⟨by omega, by omega⟩, ⟨by omega, by omega⟩, by omega, by omega⟩, bx_23_7⟩
        · skip
          exact ⟨BX_23_8, vr6 (k := 23) (l1 := 2147483648) (h1 := 2147483648) (l2 := 2147483649) (h2 := 4294967295) (l3 := 0) (h3 := 4294967295) (l4 := 0) (h4 := 4294967295) (l5 := 0) (h5 := 4294967295) (by decide +kernel) (by decide +kernel) hk ⟨⟨by omega, by omega⟩, ⟨by omega, by omega⟩, ⟨by omega, by omega⟩, ⟨by omega, by omega⟩, by omega, by omega⟩, bx_23_8⟩
    · skip
      by_cases c6 : iEx (xs 2) < 2147483648
      · skip
        exact ⟨BX_23_9, vr6 (k := 23) (l1 := 2147483649) (h1 := 4294967295) (l2 := 0) (h2 := 2147483647) (l3 := 0) (h3 := 4294967295) (l4 := 0) (h4 := 4294967295) (l5 := 0) (h5 := 4294967295) (by decide +kernel) (by decide +kernel) hk ⟨⟨by omega, by omega⟩, ⟨by omega, by omega⟩, ⟨by omega, by omega⟩, ⟨by omega, by omega⟩, by omega, by omega⟩, bx_23_9⟩
      · skip
        by_cases c8 : iEx (xs 2) < 2147483649
        · skip
          exact ⟨BX_23_10, vr6 (k := 23) (l1 := 2147483649) (h1 := 4294967295) (l2 := 2147483648) (h2 := 2147483648) (l3 := 0) (h3 := 4294967295) (l4 := 0) (h4 := 4294967295) (l5 := 0) (h5 := 4294967295) (by decide +kernel) (by decide +kernel) hk ⟨⟨by omega, by omega⟩, ⟨by omega, by omega⟩, ⟨by omega, by omega⟩, ⟨by omega, by omega⟩, by omega, by omega⟩, bx_23_10⟩
        · skip
          exact ⟨BX_23_11, vr6 (k := 23) (l1 := 2147483649) (h1 := 4294967295) (l2 := 2147483649) (h2 := 4294967295) (l3 := 0) (h3 := 4294967295) (l4 := 0) (h4 := 4294967295) (l5 := 0) (h5 := 4294967295) (by decide +kernel) (by decide +kernel) hk ⟨⟨by omega, by omega⟩, ⟨by omega, by omega⟩, ⟨by omega, by omega⟩, ⟨by omega, by omega⟩, by omega, by omega⟩, bx_23_11⟩
theorem cov_24 {xs : Nat → Int32} (hk : iEx (xs 0 &&& 63) = 24 + 2147483648) : Cov xs := by
  have z1 := iEx_lt (xs 1)
  have z2 := iEx_lt (xs 2)
  have z3 := iEx_lt (xs 3)
  have z4 := iEx_lt (xs 4)
  have z5 := iEx_lt (xs 5)
  by_cases c2 : iEx (xs 1) < 2147483648
  · skip
    by_cases c4 : iEx (xs 2) < 2147483648
    · skip
      exact ⟨BX_24_0, vr6 (k := 24) (l1 := 0) (h1 := 2147483647) (l2 := 0) (h2 := 2147483647) (l3 := 0) (h3 := 4294967295) (l4 := 0) (h4 := 4294967295) (l5 := 0) (h5 := 4294967295) (by decide +kernel) (by decide +kernel) hk ⟨⟨by omega, by omega⟩, ⟨by omega, by omega⟩, ⟨by omega, by omega⟩, ⟨by omega, by omega⟩, by omega, by omega⟩, bx_24_0⟩
    · skip
      by_cases c6 : iEx (xs 2) < 2147483649
      · skip
        exact ⟨BX_24_1, vr6 (k := 24) (l1 := 0) (h1 := 2147483647) (l2 := 2147483648) (h2 := 2147483648) (l3 := 0) (h3 := 4294967295) (l4 := 0) (h4 := 4294967295) (l5 := 0) (h5 := 4294967295) (by decide +kernel) (by decide +kernel) hk ⟨⟨by omega, by omega⟩, ⟨by omega, by omega⟩, ⟨by omega, by omega⟩, ⟨by omega, by omega⟩, by omega, by omega⟩, bx_24_1⟩
      · skip
        exact ⟨BX_24_2, vr6 (k := 24) (l1 := 0) (h1 := 2147483647) (l2 := 2147483649) (h2 := 4294967295) (l3 := 0) (h3 := 4294967295) (l4 := 0) (h4 := 4294967295) (l5 := 0) (h5 := 4294967295) (by decide +kernel) (by decide +kernel) hk ⟨⟨by omega, by omega⟩, ⟨by omega, by omega⟩, ⟨by omega, by omega⟩, ⟨by omega, by omega⟩, by omega, by omega⟩, bx_24_2⟩
  · skip
    by_cases c4 : iEx (xs 1) < 2147483649
    · skip
      by_cases c6 : iEx (xs 2) < 2147483648
      · skip
        exact ⟨BX_24_3, vr6 (k := 24) (l1 := 2147483648) (h1 := 2147483648) (l2 := 0) (h2 := 2147483647) (l3 := 0) (h3 := 4294967295) (l4 := 0) (h4 := 4294967295) (l5 := 0) (h5 := 4294967295) (by decide +kernel) (by decide +kernel) hk ⟨⟨by omega, by omega⟩, ⟨by omega, by omega⟩, ⟨by omega, by omega⟩, ⟨by omega, by omega⟩, by omega, by omega⟩, bx_24_3⟩
      · skip
        by_cases c8 : iEx (xs 2) < 2147483649
        · skip
          by_cases c10 : iEx (xs 3) < 2147483648
          · skip
            exact ⟨BX_24_4, vr6 (k := 24) (l1 := 2147483648) (h1 := 2147483648) (l2 := 2147483648) (h2 := 2147483648) (l3 := 0) (h3 := 2147483647) (l4 := 0) (h4 := 4294967295) (l5 := 0) (h5 := 4294967295) (by decide +kernel) (by decide +kernel) hk ⟨⟨by omega, by omega⟩, ⟨by omega, by omega⟩, ⟨by omega, by omega⟩, ⟨by omega, by omega⟩, by omega, by omega⟩, bx_24_4⟩
          · skip
            by_cases c12 : iEx (xs 3) < 2147483650
            · skip
              exact ⟨BX_24_5, vr6 (k := 24) (l1 := 2147483648) (h1 := 2147483648) (l2 := 2147483648) (h2 := 2147483648) (l3 := 2147483648) (h3 := 2147483649) (l4 := 0) (h4 := 4294967295) (l5 := 0) (h5 := 4294967295) (by decide +kernel) (by decide +kernel) hk ⟨⟨by omega, by omega⟩, ⟨by omega, by omega⟩, ⟨by omega, by omega⟩, ⟨by omega, by omega⟩, by omega, by omega⟩, bx_24_5⟩
            · skip
              exact ⟨BX_24_6, vr6 (k := 24) (l1 := 2147483648) (h1 := 2147483648) (l2 := 2147483648) (h2 := 2147483648) (l3 := 2147483650) (h3 := 4294967295) (l4 := 0) (h4 := 4294967295) (l5 := 0) (h5 := 4294967295) (by decide +kernel) (by decide +kernel) hk ⟨⟨by omega, by omega⟩, ⟨by omega, by omega⟩, ⟨by omega, by omega⟩, ⟨by omega, by omega⟩, by omega, by omega⟩, bx_24_6⟩
        · skip
          exact ⟨BX_24_7, vr6 (k := 24) (l1 := 2147483648) (h1 := 2147483648) (l2 := 2147483649) (h2 := 4294967295) (l3 := 0) (h3 := 4294967295) (l4 := 0) (h4 := 4294967295) (l5 := 0) (h5 := 4294967295) (by decide +kernel) (by decide +kernel) hk ⟨⟨by omega, by omega⟩, ⟨by omega, by omega⟩, ⟨by omega, by omega⟩, ⟨by omega, by omega⟩, by omega, by omega⟩, bx_24_7⟩
    · skip
      by_cases c6 : iEx (xs 2) < 2147483648
      · skip
        exact ⟨BX_24_8, vr6 (k := 24) (l1 := 2147483649) (h1 := 4294967295) (l2 := 0) (h2 := 2147483647) (l3 := 0) (h3 := 4294967295) (l4 := 0) (h4 := 4294967295) (l5 := 0) (h5 := 4294967295) (by decide +kernel) (by decide +kernel) hk ⟨⟨by omega, by omega⟩, ⟨by omega, by omega⟩, ⟨by omega, by omega⟩, ⟨by omega, by omega⟩, by omega, by omega⟩, bx_24_8⟩
      · skip
        by_cases c8 : iEx (xs 2) < 2147483649
        · skip
          exact ⟨BX_24_9, vr6 (k := 24) (l1 := 2147483649) (h1 := 4294967295) (l2 := 2147483648) (h2 := 2147483648) (l3 := 0) (h3 := 4294967295) (l4 := 0) (h4 := 4294967295) (l5 := 0) (h5 := 4294967295) (by decide +kernel) (by decide +kernel) hk ⟨⟨by omega, by omega⟩, ⟨by omega, by omega⟩, ⟨by omega, by omega⟩, ⟨by omega, by omega⟩, by omega, by omega⟩, bx_24_9⟩
        · skip
          exact ⟨BX_24_10, vr6 (k := 24) (l1 := 2147483649) (h1 := 4294967295) (l2 := 2147483649) (h2 := 4294967295) (l3 := 0) (h3 := 4294967295) (l4 := 0) (h4 := 4294967295) (l5 := 0) (h5 := 4294967295) (by decide +kernel) (by decide +kernel) hk ⟨⟨by omega, by omega⟩, ⟨by omega, by omega⟩, ⟨by omega, by omega⟩, ⟨by omega, by omega⟩, by omega, by omega⟩, bx_24_10⟩
theorem cov_25 {xs : Nat → Int32} (hk : iEx (xs 0 &&& 63) = 25 + 2147483648) : Cov xs := by
  have z1 := iEx_lt (xs 1)
  have z2 := iEx_lt (xs 2)
  have z3 := iEx_lt (xs 3)
  have z4 := iEx_lt (xs 4)
  have z5 := iEx_lt (xs 5)
  by_cases c2 : iEx (xs 1) < 2147483648
  · skip
    by_cases c4 : iEx (xs 2) < 2147483648
    · skip
      exact ⟨BX_25_0, vr6 (k := 25) (l1 := 0) (h1 := 2147483647) (l2 := 0) (h2 := 2147483647) (l3 := 0) (h3 := 4294967295) (l4 := 0) (h4 := 4294967295) (l5 := 0) (h5 := 4294967295) (by decide +kernel) (by decide +kernel) hk ⟨⟨by omega, by omega⟩, ⟨by omega, by omega⟩, ⟨by omega, by omega⟩, ⟨by omega, by omega⟩, by omega, by omega⟩, bx_25_0⟩
    · skip
      by_cases c6 : iEx (xs 2) < 2147483649
      · skip
        exact ⟨BX_25_3, vr6 (k := 25) (l1 := 0) (h1 := 2147483647) (l2 := 2147483648) (h2 := 2147483648) (l3 := 0) (h3 := 4294967295) (l4 := 0) (h4 := 4294967295) (l5 := 0) (h5 := 4294967295) (by decide +kernel) (by decide +kernel) hk ⟨⟨by omega, by omega⟩, ⟨by omega, by omega⟩, ⟨by omega, by omega⟩, ⟨by omega, by omega⟩, by omega, by omega⟩, bx_25_3⟩
      · skip
        exact ⟨BX_25_6, vr6 (k := 25) (l1 := 0) (h1 := 2147483647) (l2 := 2147483649) (h2 := 4294967295) (l3 := 0) (h3 := 4294967295) (l4 := 0) (h4 := 4294967295) (l5 := 0) (h5 := 4294967295) (by decide +kernel) (by decide +kernel) hk ⟨⟨by omega, by omega⟩, ⟨by omega, by omega⟩, ⟨by omega, by omega⟩, ⟨by omega, by omega⟩, by omega, by omega⟩, bx_25_6⟩
  · skip
    by_cases c4 : iEx (xs 1) < 2147483649
    · skip
      by_cases c6 : iEx (xs 2) < 2147483648
      · skip
        exact ⟨BX_25_1, vr6 (k := 25) (l1 := 2147483648) (h1 := 2147483648) (l2 := 0) (h2 := 2147483647) (l3 := 0) (h3 := 4294967295) (l4 := 0) (h4 := 4294967295) (l5 := 0) (h5 := 4294967295) (by decide +kernel) (by decide +kernel) hk ⟨⟨by omega, by omega⟩, ⟨by omega, by omega⟩, ⟨by omega, by omega⟩, ⟨by omega, by omega⟩, by omega, by omega⟩, bx_25_1⟩
      · skip
        by_cases c8 : iEx (xs 2) < 2147483649
        · skip
          exact ⟨BX_25_4, vr6 (k := 25) (l1 := 2147483648) (h1 := 2147483648) (l2 := 2147483648) (h2 := 2147483648) (l3 := 0) (h3 := 4294967295) (l4 := 0) (h4 := 4294967295) (l5 := 0) (h5 := 4294967295) (by decide +kernel) (by decide +kernel) hk ⟨⟨by omega, by omega⟩, ⟨by omega, by omega⟩, ⟨by omega, by omega⟩, ⟨by omega, by omega⟩, by omega, by omega⟩, bx_25_4⟩
        · skip
          exact ⟨BX_25_7, vr6 (k := 25) (l1 := 2147483648) (h1 := 2147483648) (l2 := 2147483649) (h2 := 4294967295) (l3 := 0) (h3 := 4294967295) (l4 := 0) (h4 := 4294967295) (l5 := 0) (h5 := 4294967295) (by decide +kernel) (by decide +kernel) hk ⟨⟨by omega, by omega⟩, ⟨by omega, by omega⟩, ⟨by omega, by omega⟩, ⟨by omega, by omega⟩, by omega, by omega⟩, bx_25_7⟩
    · skip
      by_cases c6 : iEx (xs 2) < 2147483648
      · skip
        exact ⟨BX_25_2, vr6 (k := 25) (l1 := 2147483649) (h1 := 4294967295) (l2 := 0) (h2 := 2147483647) (l3 := 0) (h3 := 4294967295) (l4 := 0) (h4 := 4294967295) (l5 := 0) (h5 := 4294967295) (by decide +kernel) (by decide +kernel) hk ⟨⟨by omega, by omega⟩, ⟨by omega, by omega⟩, ⟨by omega, by omega⟩, ⟨by omega, by omega⟩, by omega, by omega⟩, bx_25_2⟩
      · skip
        by_cases c8 : iEx (xs 2) < 2147483649
        · skip
          exact ⟨BX_25_5, vr6 (k := 25) (l1 := 2147483649) (h1 := 4294967295) (l2 := 2147483648) (h2 := 2147483648) (l3 := 0) (h3 := 4294967295) (l4 := 0) (h4 := 4294967295) (l5 := 0) (h5 := 4294967295) (by decide +kernel) (by decide +kernel) hk ⟨⟨by omega, by omega⟩, ⟨by omega, by omega⟩, ⟨by omega, by omega⟩, ⟨by omega, by omega⟩, by omega, by omega⟩, bx_25_5⟩
        · skip
          exact ⟨BX_25_8, vr6 (k := 25) (l1 := 2147483649) (h1 := 4294967295) (l2 := 2147483649) (h2 := 4294967295) (l3 := 0) (h3 := 4294967295) (l4 := 0) (h4 := 4294967295) (l5 := 0) (h5 := 4294967295) (by decide +kernel) (by decide +kernel) hk ⟨⟨by omega, by omega⟩, ⟨by omega, by omega⟩, ⟨by omega, by omega⟩, ⟨by omega, by omega⟩, by omega, by omega⟩, bx_25_8⟩
theorem cov_26 {xs : Nat → Int32} (hk : iEx (xs 0 &&& 63) = 26 + 2147483648) : Cov xs := by
  have z1 := iEx_lt (xs 1)
  have z2 := iEx_lt (xs 2)
  have z3 := iEx_lt (xs 3)
  have z4 := iEx_lt (xs 4)
  have z5 := iEx_lt (xs 5)
  by_cases c2 : iEx (xs 1) < 2147483648
  · skip
    by_cases c4 : iEx (xs 2) < 2147483648
    · skip
      exact ⟨BX_26_0, vr6 (k := 26) (l1 := 0) (h1 := 2147483647) (l2 := 0) (h2 := 2147483647) (l3 := 0) (h3 := 4294967295) (l4 := 0) (h4 := 4294967295) (l5 := 0) (h5 := 4294967295) (by decide +kernel) (by decide +kernel) hk ⟨⟨by omega, by omega⟩, ⟨by omega, by omega⟩, ⟨by omega, by omega⟩, ⟨by omega, by omega⟩, by omega, by omega⟩, bx_26_0⟩
    · skip
      by_cases c6 : iEx (xs 2) < 2147483649
      · skip
        exact ⟨BX_26_1, vr6 (k := 26) (l1 := 0) (h1 := 2147483647) (l2 := 2147483648) (h2 := 2147483648) (l3 := 0) (h3 := 4294967295) (l4 := 0) (h4 := 4294967295) (l5 := 0) (h5 := 4294967295) (by decide +kernel) (by decide +kernel) hk ⟨⟨by omega, by omega⟩, ⟨by omega, by omega⟩, ⟨by omega, by omega⟩, ⟨by omega, by omega⟩, by omega, by omega⟩, bx_26_1⟩
      · skip
        exact ⟨BX_26_2, vr6 (k := 26) (l1 := 0) (h1 := 2147483647) (l2 := 2147483649) (h2 := 4294967295) (l3 := 0) (h3 := 4294967295) (l4 := 0) (h4 := 4294967295) (l5 := 0) (h5 := 4294967295) (by decide +kernel) (by decide +kernel) hk ⟨⟨by omega, by omega⟩, ⟨by omega, by omega⟩, ⟨by omega, by omega⟩, ⟨by omega, by omega⟩, by omega, by omega⟩, bx_26_2⟩
  · skip
    by_cases c4 : iEx (xs 1) < 2147483649
    · skip
      by_cases c6 : iEx (xs 2) < 2147483648
      · skip
        exact ⟨BX_26_3, vr6 (k := 26) (l1 := 2147483648) (h1 := 2147483648) (l2 := 0) (h2 := 2147483647) (l3 := 0) (h3 := 4294967295) (l4 := 0) (h4 := 4294967295) (l5 := 0) (h5 := 4294967295) (by decide +kernel) (by decide +kernel) hk ⟨⟨by omega, by omega⟩, ⟨by omega, by omega⟩, ⟨by omega, by omega⟩, ⟨by omega, by omega⟩, by omega, by omega⟩, bx_26_3⟩
      · skip
        by_cases c8 : iEx (xs 2) < 2147483649
        · skip
          exact ⟨BX_26_4, vr6 (k := 26) (l1 := 2147483648) (h1 := 2147483648) (l2 := 2147483648) (h2 := 2147483648) (l3 := 0) (h3 := 4294967295) (l4 := 0) (h4 := 4294967295) (l5 := 0) (h5 := 4294967295) (by decide +kernel) (by decide +kernel) hk ⟨⟨by omega, by omega⟩, ⟨by omega, by omega⟩, ⟨by omega, by omega⟩, ⟨by omega, by omega⟩, by omega, by omega⟩, bx_26_4⟩
        · skip
          exact ⟨BX_26_5, vr6 (k := 26) (l1 := 2147483648) (h1 := 2147483648) (l2 := 2147483649) (h2 := 4294967295) (l3 := 0) (h3 := 4294967295) (l4 := 0) (h4 := 4294967295) (l5 := 0) (h5 := 4294967295) (by decide +kernel) (by decide +kernel) hk ⟨⟨by omega, by omega⟩, ⟨by omega, by omega⟩, ⟨by omega, by omega⟩, ⟨by omega, by omega⟩, by omega, by omega⟩, bx_26_5⟩
    · skip
      by_cases c6 : iEx (xs 2) < 2147483648
      · skip
        exact ⟨BX_26_6, vr6 (k := 26) (l1 := 2147483649) (h1 := 4294967295) (l2 := 0) (h2 := 2147483647) (l3 := 0) (h3 := 4294967295) (l4 := 0) (h4 := 4294967295) (l5 := 0) (h5 := 4294967295) (by decide +kernel) (by decide +kernel) hk ⟨⟨by omega, by omega⟩, ⟨by omega, by omega⟩, ⟨by omega, by omega⟩, ⟨by omega, by omega⟩, by omega, by omega⟩, bx_26_6⟩
      · skip
        by_cases c8 : iEx (xs 2) < 2147483649
        · skip
          exact ⟨BX_26_7, vr6 (k := 26) (l1 := 2147483649) (h1 := 4294967295) (l2 := 2147483648) (h2 := 2147483648) (l3 := 0) (h3 := 4294967295) (l4 := 0) (h4 := 4294967295) (l5 := 0) (h5 := 4294967295) (by decide +kernel) (by decide +kernel) hk ⟨⟨by omega, by omega⟩, ⟨by omega, by omega⟩, ⟨by omega, by omega⟩, ⟨by omega, by omega⟩, by omega, by omega⟩, bx_26_7⟩
        · skip
          exact ⟨BX_26_8, vr6 (k := 26) (l1 := 2147483649) (h1 := 4294967295) (l2 := 2147483649) (h2 := 4294967295) (l3 := 0) (h3 := 4294967295) (l4 := 0) (h4 := 4294967295) (l5 := 0) (h5 := 4294967295) (by decide +kernel) (by decide +kernel) hk ⟨⟨by omega, by omega⟩, ⟨by omega, by omega⟩, ⟨by omega, by omega⟩, ⟨by omega, by omega⟩, by omega, by omega⟩, bx_26_8⟩
theorem cov_27 {xs : Nat → Int32} (hk : iEx (xs 0 &&& 63) = 27 + 2147483648) : Cov xs := by
  have z1 := iEx_lt (xs 1)
  have z2 := iEx_lt (xs 2)
  have z3 := iEx_lt (xs 3)
  have z4 := iEx_lt (xs 4)
  have z5 := iEx_lt (xs 5)
  by_cases c2 : iEx (xs 1) < 2147483648
  · skip
    by_cases c4 : iEx (xs 2) < 2147483648
    · skip
      exact ⟨BX_27_0, vr6 (k := 27) (l1 := 0) (h1 := 2147483647) (l2 := 0) (h2 := 2147483647) (l3 := 0) (h3 := 4294967295) (l4 := 0) (h4 := 4294967295) (l5 := 0) (h5 := 4294967295) (by decide +kernel) (by decide +kernel) hk ⟨⟨by omega, by omega⟩, ⟨by omega, by omega⟩, ⟨by omega, by omega⟩, ⟨by omega, by omega⟩, by omega, by omega⟩, bx_27_0⟩
    · skip
      by_cases c6 : iEx (xs 2) < 2147483649
      · skip
        exact ⟨BX_27_1, vr6 (k := 27) (l1 := 0) (h1 := 2147483647) (l2 := 2147483648) (h2 := 2147483648) (l3 := 0) (h3 := 4294967295) (l4 := 0) (h4 := 4294967295) (l5 := 0) (h5 := 4294967295) (by decide +kernel) (by decide +kernel) hk ⟨⟨by omega, by omega⟩, ⟨by omega, by omega⟩, ⟨by omega, by omega⟩, ⟨by omega, by omega⟩, by omega, by omega⟩, bx_27_1⟩
      · skip
        by_cases c8 : iEx (xs 2) < 2147483650
        · skip
          exact ⟨BX_27_2, vr6 (k := 27) (l1 := 0) (h1 := 2147483647) (l2 := 2147483649) (h2 := 2147483649) (l3 := 0) (h3 := 4294967295) (l4 := 0) (h4 := 4294967295) (l5 := 0) (h5 := 4294967295) (by decide +kernel) (by decide +kernel) hk ⟨⟨by omega, by omega⟩, ⟨by omega, by omega⟩, ⟨by omega, by omega⟩, ⟨by omega, by omega⟩, by omega, by omega⟩, bx_27_2⟩
        · skip
          exact ⟨BX_27_3, vr6 (k := 27) (l1 := 0) (h1 := 2147483647) (l2 := 2147483650) (h2 := 4294967295) (l3 := 0) (h3 := 4294967295) (l4 := 0) (h4 := 4294967295) (l5 := 0) (h5 := 4294967295) (by decide +kernel) (by decide +kernel) hk ⟨⟨by omega, by omega⟩, ⟨by omega, by omega⟩, ⟨by omega, by omega⟩, ⟨by omega, by omega⟩, by omega, by omega⟩, bx_27_3⟩
  · skip
    by_cases c4 : iEx (xs 1) < 2147483649
    · skip
      by_cases c6 : iEx (xs 2) < 2147483648
      · skip
        exact ⟨BX_27_4, vr6 (k := 27) (l1 := 2147483648) (h1 := 2147483648) (l2 := 0) (h2 := 2147483647) (l3 := 0) (h3 := 4294967295) (l4 := 0) (h4 := 4294967295) (l5 := 0) (h5 := 4294967295) (by decide +kernel) (by decide +kernel) hk ⟨⟨by omega, by omega⟩, ⟨by omega, by omega⟩, ⟨by omega, by omega⟩, ⟨by omega, by omega⟩, by omega, by omega⟩, bx_27_4⟩
      · skip
        by_cases c8 : iEx (xs 2) < 2147483649
        · skip
          by_cases c10 : iEx (xs 3) < 2147483648
          · skip
            exact ⟨BX_27_5, vr6 (k := 27) (l1 := 2147483648) (h1 := 2147483648) (l2 := 2147483648) (h2 := 2147483648) (l3 := 0) (h3 := 2147483647) (l4 := 0) (h4 := 4294967295) (l5 := 0) (h5 := 4294967295) (by decide +kernel) (by decide +kernel) hk ⟨⟨by omega, by omega⟩, ⟨by omega, by omega⟩, ⟨by omega, by omega⟩, ⟨by omega, by omega⟩, by omega, by omega⟩, bx_27_5⟩
          · skip
            by_cases c12 : iEx (xs 3) < 2147483650
            · skip
              exact ⟨BX_27_7, vr6 (k := 27) (l1 := 2147483648) (h1 := 2147483648) (l2 := 2147483648) (h2 := 2147483648) (l3 := 2147483648) (h3 := 2147483649) (l4 := 0) (h4 := 4294967295) (l5 := 0) (h5 := 4294967295) (by decide +kernel) (by decide +kernel) hk ⟨⟨by omega, by omega⟩, ⟨by omega, by omega⟩, ⟨by omega, by omega⟩, ⟨by omega, by omega⟩, by omega, by omega⟩, bx_27_7⟩
            · skip
              exact ⟨BX_27_9, vr6 (k := 27) (l1 := 2147483648) (h1 := 2147483648) (l2 := 2147483648) (h2 := 2147483648) (l3 := 2147483650) (h3 := 4294967295) (l4 := 0) (h4 := 4294967295) (l5 := 0) (h5 := 4294967295) (by decide +kernel) (by decide +kernel) hk ⟨⟨by omega, by omega⟩, ⟨by omega, by omega⟩, ⟨by omega, by omega⟩, ⟨by omega, by omega⟩, by omega, by omega⟩, bx_27_9⟩
        · skip
          by_cases c10 : iEx (xs 2) < 2147483650
          · skip
            by_cases c12 : iEx (xs 3) < 2147483648
            · skip
              exact ⟨BX_27_6, vr6 (k := 27) (l1 := 2147483648) (h1 := 2147483648) (l2 := 2147483649) (h2 := 2147483649) (l3 := 0) (h3 := 2147483647) (l4 := 0) (h4 := 4294967295) (l5 := 0) (h5 := 4294967295) (by decide +kernel) (by decide +kernel) hk ⟨⟨by omega, by omega⟩, ⟨by omega, by omega⟩, ⟨by omega, by omega⟩, ⟨by omega, by omega⟩, by omega, by omega⟩, bx_27_6⟩
            · skip
              by_cases c14 : iEx (xs 3) < 2147483650
              · skip
                exact ⟨BX_27_8, vr6 (k := 27) (l1 := 2147483648) (h1 := 2147483648) (l2 := 2147483649) (h2 := 2147483649) (l3 := 2147483648) (h3 := 2147483649) (l4 := 0) (h4 := 4294967295) (l5 := 0) (h5 := 4294967295) (by decide +kernel) (by decide +kernel) hk ⟨⟨by omega, by omega⟩, ⟨by omega, by omega⟩, ⟨by omega, by omega⟩, ⟨by omega, by omega⟩, by omega, by omega⟩, bx_27_8⟩
              · skip
                exact ⟨BX_27_10, vr6 (k := 27) (l1 := 2147483648) (h1 := 2147483648) (l2 := 2147483649) (h2 := 2147483649) (l3 := 2147483650) (h3 := 4294967295) (l4 := 0) (h4 := 4294967295) (l5 := 0) (h5 := 4294967295) (by decide +kernel) (by decide +kernel) hk ⟨⟨by omega, by omega⟩, ⟨by omega, by omega⟩, ⟨by omega, by omega⟩, ⟨by omega, by omega⟩, by omega, by omega⟩, bx_27_10⟩
          · skip
            exact ⟨BX_27_11, vr6 (k := 27) (l1 := 2147483648) (h1 := 2147483648) (l2 := 2147483650) (h2 := 4294967295) (l3 := 0) (h3 := 4294967295) (l4 := 0) (h4 := 4294967295) (l5 := 0) (h5 := 4294967295) (by decide +kernel) (by decide +kernel) hk ⟨⟨by omega, by omega⟩, ⟨by omega, by omega⟩, ⟨by omega, by omega⟩, ⟨by omega, by omega⟩, by omega, by omega⟩, bx_27_11⟩
    · skip
      by_cases c6 : iEx (xs 2) < 2147483648
      · skip
        exact ⟨BX_27_12, vr6 (k := 27) (l1 := 2147483649) (h1 := 4294967295) (l2 := 0) (h2 := 2147483647) (l3 := 0) (h3 := 4294967295) (l4 := 0) (h4 := 4294967295) (l5 := 0) (h5 := 4294967295) (by decide +kernel) (by decide +kernel) hk ⟨⟨by omega, by omega⟩, ⟨by omega, by omega⟩, ⟨by omega, by omega⟩, ⟨by omega, by omega⟩, by omega, by omega⟩, bx_27_12⟩
      · skip
        by_cases c8 : iEx (xs 2) < 2147483649
        · skip
          exact ⟨BX_27_13, vr6 (k := 27) (l1 := 2147483649) (h1 := 4294967295) (l2 := 2147483648) (h2 := 2147483648) (l3 := 0) (h3 := 4294967295) (l4 := 0) (h4 := 4294967295) (l5 := 0) (h5 := 4294967295) (by decide +kernel) (by decide +kernel) hk ⟨⟨by omega, by omega⟩, ⟨by omega, by omega⟩, ⟨by omega, by omega⟩, ⟨by omega, by omega⟩, by omega, by omega⟩, bx_27_13⟩
        · skip
          by_cases c10 : iEx (xs 2) < 2147483650
          · skip
            exact ⟨BX_27_14, vr6 (k := 27) (l1 := 2147483649) (h1 := 4294967295) (l2 := 2147483649) (h2 := 2147483649) (l3 := 0) (h3 := 4294967295) (l4 := 0) (h4 := 4294967295) (l5 := 0) (h5 := 4294967295) (by decide +kernel) (by decide +kernel) hk ⟨⟨by omega, by omega⟩, ⟨by omega, by omega⟩, ⟨by omega, by omega⟩, ⟨by omega, by omega⟩, by omega, by omega⟩, bx_27_14⟩
          · skip
            exact ⟨BX_27_15, vr6 (k := 27) (l1 := 2147483649) (h1 := 4294967295) (l2 := 2147483650) (h2 := 4294967295) (l3 := 0) (h3 := 4294967295) (l4 := 0) (h4 := 4294967295) (l5 := 0) (h5 := 4294967295) (by decide +kernel) (by decide +kernel) hk ⟨⟨by omega, by omega⟩, ⟨by omega, by omega⟩, ⟨by omega, by omega⟩, ⟨by omega, by omega⟩, by omega, by omega⟩, bx_27_15⟩
theorem cov_28 {xs : Nat → Int32} (hk : iEx (xs 0 &&& 63) = 28 + 2147483648) : Cov xs := by
  have z1 := iEx_lt (xs 1)
  have z2 := iEx_lt (xs 2)
  have z3 := iEx_lt (xs 3)
  have z4 := iEx_lt (xs 4)
  have z5 := iEx_lt (xs 5)
  by_cases c2 : iEx (xs 1) < 2147483648
  · skip
    exact ⟨BX_28_0, vr6 (k := 28) (l1 := 0) (h1 := 2147483647) (l2 := 0) (h2 := 4294967295) (l3 := 0) (h3 := 4294967295) (l4 := 0) (h4 := 4294967295) (l5 := 0) (h5 := 4294967295) (by decide +kernel) (by decide +kernel) hk ⟨⟨by omega, by omega⟩, ⟨by omega, by omega⟩, ⟨by omega, by omega⟩, ⟨by omega, by omega⟩, by omega, by omega⟩, bx_28_0⟩
  · skip
    by_cases c4 : iEx (xs 1) < 2147483649
    · skip
      exact ⟨BX_28_1, vr6 (k := 28) (l1 := 2147483648) (h1 := 2147483648) (l2 := 0) (h2 := 4294967295) (l3 := 0) (h3 := 4294967295) (l4 := 0) (h4 := 4294967295) (l5 := 0) (h5 := 4294967295) (by decide +kernel) (by decide +kernel) hk ⟨⟨by omega, by omega⟩, ⟨by omega, by omega⟩, ⟨by omega, by omega⟩, ⟨by omega, by omega⟩, by omega, by omega⟩, bx_28_1⟩
    · skip
      exact ⟨BX_28_2, vr6 (k := 28) (l1 := 2147483649) (h1 := 4294967295) (l2 := 0) (h2 := 4294967295) (l3 := 0) (h3 := 4294967295) (l4 := 0) (h4 := 4294967295) (l5 := 0) (h5 := 4294967295) (by decide +kernel) (by decide +kernel) hk ⟨⟨by omega, by omega⟩, ⟨by omega, by omega⟩, ⟨by omega, by omega⟩, ⟨by omega, by omega⟩, by omega, by omega⟩, bx_28_2⟩
theorem cov_29 {xs : Nat → Int32} (hk : iEx (xs 0 &&& 63) = 29 + 2147483648) : Cov xs := by
  have z1 := iEx_lt (xs 1)
  have z2 := iEx_lt (xs 2)
  have z3 := iEx_lt (xs 3)
  have z4 := iEx_lt (xs 4)
  have z5 := iEx_lt (xs 5)
  by_cases c2 : iEx (xs 1) < 2147483648
  · skip
    exact ⟨BX_29_0, vr6 (k := 29) (l1 := 0) (h1 := 2147483647) (l2 := 0) (h2 := 4294967295) (l3 := 0) (h3 := 4294967295) (l4 := 0) (h4 := 4294967295) (l5 := 0) (h5 := 4294967295) (by decide +kernel) (by decide +kernel) hk ⟨⟨by omega, by omega⟩, ⟨by omega, by omega⟩, ⟨by omega, by omega⟩, ⟨by omega, by omega⟩, by omega, by omega⟩, bx_29_0⟩
  · skip
    by_cases c4 : iEx (xs 1) < 2147483649
    · skip
      exact ⟨BX_29_1, vr6 (k := 29) (l1 := 2147483648) (h1 := 2147483648) (l2 := 0) (h2 := 4294967295) (l3 := 0) (h3 := 4294967295) (l4 := 0) (h4 := 4294967295) (l5 := 0) (h5 := 4294967295) (by decide +kernel) (by decide +kernel) hk ⟨⟨by omega, by omega⟩, ⟨by omega, by omega⟩, ⟨by omega, by omega⟩, ⟨by omega, by omega⟩, by omega, by omega⟩, bx_29_1⟩
    · skip
      exact ⟨BX_29_2, vr6 (k := 29) (l1 := 2147483649) (h1 := 4294967295) (l2 := 0) (h2 := 4294967295) (l3 := 0) (h3 := 4294967295) (l4 := 0) (h4 := 4294967295) (l5 := 0) (h5 := 4294967295) (by decide +kernel) (by decide +kernel) hk ⟨⟨by omega, by omega⟩, ⟨by omega, by omega⟩, ⟨by omega, by omega⟩, ⟨by omega, by omega⟩, by omega, by omega⟩, bx_29_2⟩
theorem cov_30 {xs : Nat → Int32} (hk : iEx (xs 0 &&& 63) = 30 + 2147483648) : Cov xs := by
  have z1 := iEx_lt (xs 1)
  have z2 := iEx_lt (xs 2)
  have z3 := iEx_lt (xs 3)
  have z4 := iEx_lt (xs 4)
  have z5 := iEx_lt (xs 5)
  by_cases c2 : iEx (xs 1) < 2147483648
  · skip
    by_cases c4 : iEx (xs 2) < 2147483648
    · skip
      exact ⟨BX_30_0, vr6 (k := 30) (l1 := 0) (h1 := 2147483647) (l2 := 0) (h2 := 2147483647) (l3 := 0) (h3 := 4294967295) (l4 := 0) (h4 := 4294967295) (l5 := 0) (h5 := 4294967295) (by decide +kernel) (by decide +kernel) hk ⟨⟨by omega, by omega⟩, ⟨by omega, by omega⟩, ⟨by omega, by omega⟩, ⟨by omega, by omega⟩, by omega, by omega⟩, bx_30_0⟩
    · skip
      exact ⟨BX_30_1, vr6 (k := 30) (l1 := 0) (h1 := 2147483647) (l2 := 2147483648) (h2 := 4294967295) (l3 := 0) (h3 := 4294967295) (l4 := 0) (h4 := 4294967295) (l5 := 0) (h5 := 4294967295) (by decide +kernel) (by decide +kernel) hk ⟨⟨by omega, by omega⟩, ⟨by omega, by omega⟩, ⟨by omega, by omega⟩, ⟨by omega, by omega⟩, by omega, by omega⟩, bx_30_1⟩
  · skip
    by_cases c4 : iEx (xs 1) < 2147483649
    · skip
      by_cases c6 : iEx (xs 2) < 2147483648
      · skip
        exact ⟨BX_30_2, vr6 (k := 30) (l1 := 2147483648) (h1 := 2147483648) (l2 := 0) (h2 := 2147483647) (l3 := 0) (h3 := 4294967295) (l4 := 0) (h4 := 4294967295) (l5 := 0) (h5 := 4294967295) (by decide +kernel) (by decide +kernel) hk ⟨⟨by omega, by omega⟩, ⟨by omega, by omega⟩, ⟨by omega, by omega⟩, ⟨by omega, by omega⟩, by omega, by omega⟩, bx_30_2⟩
      · skip
        exact ⟨BX_30_3, vr6 (k := 30) (l1 := 2147483648) (h1 := 2147483648) (l2 := 2147483648) (h2 := 4294967295) (l3 := 0) (h3 := 4294967295) (l4 := 0) (h4 := 4294967295) (l5 := 0) (h5 := 4294967295) (by decide +kernel) (by decide +kernel) hk ⟨⟨by omega, by omega⟩, ⟨by omega, by omega⟩, ⟨by omega, by omega⟩, ⟨by omega, by omega⟩, by omega, by omega⟩, bx_30_3⟩
    · skip
      by_cases c6 : iEx (xs 2) < 2147483648
      · skip
        exact ⟨BX_30_4, vr6 (k := 30) (l1 := 2147483649) (h1 := 4294967295) (l2 := 0) (h2 := 2147483647) (l3 := 0) (h3 := 4294967295) (l4 := 0) (h4 := 4294967295) (l5 := 0) (h5 := 4294967295) (by decide +kernel) (by decide +kernel) hk ⟨⟨by omega, by omega⟩, ⟨by omega, by omega⟩, ⟨by omega, by omega⟩, ⟨by omega, by omega⟩, by omega, by omega⟩, bx_30_4⟩
      · skip
        exact ⟨BX_30_5, vr6 (k := 30) (l1 := 2147483649) (h1 := 4294967295) (l2 := 2147483648) (h2 := 4294967295) (l3 := 0) (h3 := 4294967295) (l4 := 0) (h4 := 4294967295) (l5 := 0) (h5 := 4294967295) (by decide +kernel) (by decide +kernel) hk ⟨⟨by omega, by omega⟩, ⟨by omega, by omega⟩, ⟨by omega, by omega⟩, ⟨by omega, by omega⟩, by omega, by omega⟩, bx_30_5⟩
theorem cov_31 {xs : Nat → Int32} (hk : iEx (xs 0 &&& 63) = 31 + 2147483648) : Cov xs := by
  have z1 := iEx_lt (xs 1)
  have z2 := iEx_lt (xs 2)
  have z3 := iEx_lt (xs 3)
  have z4 := iEx_lt (xs 4)
  have z5 := iEx_lt (xs 5)
  by_cases c2 : iEx (xs 1) < 2147483648
  · skip
    by_cases c4 : iEx (xs 2) < 2147483648
    · skip
      exact ⟨BX_31_0, vr6 (k := 31) (l1 := 0) (h1 := 2147483647) (l2 := 0) (h2 := 2147483647) (l3 := 0) (h3 := 4294967295) (l4 := 0) (h4 := 4294967295) (l5 := 0) (h5 := 4294967295) (by decide +kernel) (by decide +kernel) hk ⟨⟨by omega, by omega⟩, ⟨by omega, by omega⟩, ⟨by omega, by omega⟩, ⟨by omega, by omega⟩, by omega, by omega⟩, bx_31_0⟩
    · skip
      by_cases c6 : iEx (xs 2) < 2147483649
      · skip
        exact ⟨BX_31_1, vr6 (k := 31) (l1 := 0) (h1 := 2147483647) (l2 := 2147483648) (h2 := 2147483648) (l3 := 0) (h3 := 4294967295) (l4 := 0) (h4 := 4294967295) (l5 := 0) (h5 := 4294967295) (by decide +kernel) (by decide +kernel) hk ⟨⟨by omega, by omega⟩, ⟨by omega, by omega⟩, ⟨by omega, by omega⟩, ⟨by omega, by omega⟩, by omega, by omega⟩, bx_31_1⟩
      · skip
        exact ⟨BX_31_2, vr6 (k := 31) (l1 := 0) (h1 := 2147483647) (l2 := 2147483649) (h2 := 4294967295) (l3 := 0) (h3 := 4294967295) (l4 := 0) (h4 := 4294967295) (l5 := 0) (h5 := 4294967295) (by decide +kernel) (by decide +kernel) hk ⟨⟨by omega, by omega⟩, ⟨by omega, by omega⟩, ⟨by omega, by omega⟩, ⟨by omega, by omega⟩, by omega, by omega⟩, bx_31_2⟩
  · skip
    by_cases c4 : iEx (xs 1) < 2147483649
    · skip
      by_cases c6 : iEx (xs 2) < 2147483648
      · skip
        exact ⟨BX_31_3, vr6 (k := 31) (l1 := 2147483648) (h1 := 2147483648) (l2 := 0) (h2 := 2147483647) (l3 := 0) (h3 := 4294967295) (l4 := 0) (h4 := 4294967295) (l5 := 0) (h5 := 4294967295) (by decide +kernel) (by decide +kernel) hk ⟨⟨by omega, by omega⟩, ⟨by omega, by omega⟩, ⟨by omega, by omega⟩, ⟨by omega, by omega⟩, by omega, by omega⟩, bx_31_3⟩
      · skip
        by_cases c8 : iEx (xs 2) < 2147483649
        · skip
          by_cases c10 : iEx (xs 3) < 2147483648
          · skip
            exact ⟨BX_31_4, vr6 (k := 31) (l1 := 2147483648) (h1 := 2147483648) (l2 := 2147483648) (h2 := 2147483648) (l3 := 0) (h3 := 2147483647) (l4 := 0) (h4 := 4294967295) (l5 := 0) (h5 := 4294967295) (by decide +kernel) (by decide +kernel) hk ⟨⟨by omega, by omega⟩, ⟨by omega, by omega⟩, ⟨by omega, by omega⟩, ⟨by omega, by omega⟩, by omega, by omega⟩, bx_31_4⟩
          · skip
            by_cases c12 : iEx (xs 3) < 2147483650
            · skip
              exact ⟨BX_31_5, vr6 (k := 31) (l1 := 2147483648) (h1 := 2147483648) (l2 := 2147483648) (h2 := 2147483648) (l3 := 2147483648) (h3 := 2147483649) (l4 := 0) (h4 := 4294967295) (l5 := 0) (h5 := 4294967295) (by decide +kernel) (by decide +kernel) hk ⟨⟨by omega, by omega⟩, ⟨by omega, by omega⟩, ⟨by omega, by omega⟩, ⟨by omega, by omega⟩, by omega, by omega⟩, bx_31_5⟩
            · skip
              exact ⟨BX_31_6, vr6 (k := 31) (l1 := 2147483648) (h1 := 2147483648) (l2 := 2147483648) (h2 := 2147483648) (l3 := 2147483650) (h3 := 4294967295) (l4 := 0) (h4 := 4294967295) (l5 := 0) (h5 := 4294967295) (by decide +kernel) (by decide +kernel) hk ⟨⟨by omega, by omega⟩, ⟨by omega, by omega⟩, ⟨by omega, by omega⟩, ⟨by omega, by omega⟩, by omega, by omega⟩, bx_31_6⟩
        · skip
          exact ⟨BX_31_7, vr6 (k := 31) (l1 := 2147483648) (h1 := 2147483648) (l2 := 2147483649) (h2 := 4294967295) (l3 := 0) (h3 := 4294967295) (l4 := 0) (h4 := 4294967295) (l5 := 0) (h5 := 4294967295) (by decide +kernel) (by decide +kernel) hk ⟨⟨by omega, by omega⟩, ⟨by omega, by omega⟩, ⟨by omega, by omega⟩, ⟨by omega, by omega⟩, by omega, by omega⟩, bx_31_7⟩
    · skip
      by_cases c6 : iEx (xs 2) < 2147483648
      · skip
        exact ⟨BX_31_8, vr6 (k := 31) (l1 := 2147483649) (h1 := 4294967295) (l2 := 0) (h2 := 2147483647) (l3 := 0) (h3 := 4294967295) (l4 := 0) (h4 := 4294967295) (l5 := 0) (h5 := 4294967295) (by decide +kernel) (by decide +kernel) hk ⟨⟨by omega, by omega⟩, ⟨by omega, by omega⟩, ⟨by omega, by omega⟩, ⟨by omega, by omega⟩, by omega, by omega⟩, bx_31_8⟩
      · skip
        by_cases c8 : iEx (xs 2) < 2147483649
        · skip
          exact ⟨BX_31_9, vr6 (k := 31) (l1 := 2147483649) (h1 := 4294967295) (l2 := 2147483648) (h2 := 2147483648) (l3 := 0) (h3 := 4294967295) (l4 := 0) (h4 := 4294967295) (l5 := 0) (h5 := 4294967295) (by decide +kernel) (by decide +kernel) hk ⟨⟨by omega, by omega⟩, ⟨by omega, by omega⟩, ⟨by omega, by omega⟩, ⟨by omega, by omega⟩, by omega, by omega⟩, bx_31_9⟩
        · skip
          exact ⟨BX_31_10, vr6 (k := 31) (l1 := 2147483649) (h1 := 4294967295) (l2 := 2147483649) (h2 := 4294967295) (l3 := 0) (h3 := 4294967295) (l4 := 0) (h4 := 4294967295) (l5 := 0) (h5 := 4294967295) (by decide +kernel) (by decide +kernel) hk ⟨⟨by omega, by omega⟩, ⟨by omega, by omega⟩, ⟨by omega, by omega⟩, ⟨by omega, by omega⟩, by omega, by omega⟩, bx_31_10⟩
theorem cov_32 {xs : Nat → Int32} (hk : iEx (xs 0 &&& 63) = 32 + 2147483648) : Cov xs := by
  have z1 := iEx_lt (xs 1)
  have z2 := iEx_lt (xs 2)
  have z3 := iEx_lt (xs 3)
  have z4 := iEx_lt (xs 4)
  have z5 := iEx_lt (xs 5)
  by_cases c2 : iEx (xs 1) < 2147483648
  · skip
    exact ⟨BX_32_0, vr6 (k := 32) (l1 := 0) (h1 := 2147483647) (l2 := 0) (h2 := 4294967295) (l3 := 0) (h3 := 4294967295) (l4 := 0) (h4 := 4294967295) (l5 := 0) (h5 := 4294967295) (by decide +kernel) (by decide +kernel) hk ⟨⟨by omega, by omega⟩, ⟨by omega, by omega⟩, ⟨by omega, by omega⟩, ⟨by omega, by omega⟩, by omega, by omega⟩, bx_32_0⟩
  · skip
    by_cases c4 : iEx (xs 1) < 2147483649
    · skip
      by_cases c6 : iEx (xs 2) < 2147483648
      · skip
        exact ⟨BX_32_1, vr6 (k := 32) (l1 := 2147483648) (h1 := 2147483648) (l2 := 0) (h2 := 2147483647) (l3 := 0) (h3 := 4294967295) (l4 := 0) (h4 := 4294967295) (l5 := 0) (h5 := 4294967295) (by decide +kernel) (by decide +kernel) hk ⟨⟨by omega, by omega⟩, ⟨by omega, by omega⟩, ⟨by omega, by omega⟩, ⟨by omega, by omega⟩, by omega, by omega⟩, bx_32_1⟩
      · skip
        by_cases c8 : iEx (xs 2) < 2147483650
        · skip
          exact ⟨BX_32_2, vr6 (k := 32) (l1 := 2147483648) (h1 := 2147483648) (l2 := 2147483648) (h2 := 2147483649) (l3 := 0) (h3 := 4294967295) (l4 := 0) (h4 := 4294967295) (l5 := 0) (h5 := 4294967295) (by decide +kernel) (by decide +kernel) hk ⟨⟨by omega, by omega⟩, ⟨by omega, by omega⟩, ⟨by omega, by omega⟩, ⟨by omega, by omega⟩, by omega, by omega⟩, bx_32_2⟩
        · skip
          exact ⟨BX_32_3, vr6 (k := 32) (l1 := 2147483648) (h1 := 2147483648) (l2 := 2147483650) (h2 := 4294967295) (l3 := 0) (h3 := 4294967295) (l4 := 0) (h4 := 4294967295) (l5 := 0) (h5 := 4294967295) (by decide +kernel) (by decide +kernel) hk ⟨⟨by omega, by omega⟩, ⟨by omega, by omega⟩, ⟨by omega, by omega⟩, ⟨by omega, by omega⟩, by omega, by omega⟩, bx_32_3⟩
    · skip
      exact ⟨BX_32_4, vr6 (k := 32) (l1 := 2147483649) (h1 := 4294967295) (l2 := 0) (h2 := 4294967295) (l3 := 0) (h3 := 4294967295) (l4 := 0) (h4 := 4294967295) (l5 := 0) (h5 := 4294967295) (by decide +kernel) (by decide +kernel) hk ⟨⟨by omega, by omega⟩, ⟨by omega, by omega⟩, ⟨by omega, by omega⟩, ⟨by omega, by omega⟩, by omega, by omega⟩, bx_32_4⟩
theorem cov_33 {xs : Nat → Int32} (hk : iEx (xs 0 &&& 63) = 33 + 2147483648) : Cov xs := by
  have z1 := iEx_lt (xs 1)
  have z2 := iEx_lt (xs 2)
  have z3 := iEx_lt (xs 3)
  have z4 := iEx_lt (xs 4)
  have z5 := iEx_lt (xs 5)
  exact ⟨BX_33_0, vr6 (k := 33) (l1 := 0) (h1 := 4294967295) (l2 := 0) (h2 := 4294967295) (l3 := 0) (h3 := 4294967295) (l4 := 0) (h4 := 4294967295) (l5 := 0) (h5 := 4294967295) (by decide +kernel) (by decide +kernel) hk ⟨⟨by omega, by omega⟩, ⟨by omega, by omega⟩, ⟨by omega, by omega⟩, ⟨by omega, by omega⟩, by omega, by omega⟩, bx_33_0⟩
theorem cov_34 {xs : Nat → Int32} (hk : iEx (xs 0 &&& 63) = 34 + 2147483648) : Cov xs := by
  have z1 := iEx_lt (xs 1)
  have z2 := iEx_lt (xs 2)
  have z3 := iEx_lt (xs 3)
  have z4 := iEx_lt (xs 4)
  have z5 := iEx_lt (xs 5)
  by_cases c2 : iEx (xs 1) < 2147483648
  · skip
    by_cases c4 : iEx (xs 2) < 2147483648
    · skip
      exact ⟨BX_34_0, vr6 (k := 34) (l1 := 0) (h1 := 2147483647) (l2 := 0) (h2 := 2147483647) (l3 := 0) (h3 := 4294967295) (l4 := 0) (h4 := 4294967295) (l5 := 0) (h5 := 4294967295) (by decide +kernel) (by decide +kernel) hk ⟨⟨by omega, by omega⟩, ⟨by omega, by omega⟩, ⟨by omega, by omega⟩, ⟨by omega, by omega⟩, by omega, by omega⟩, bx_34_0⟩
    · skip
      exact ⟨BX_34_1, vr6 (k := 34) (l1 := 0) (h1 := 2147483647) (l2 := 2147483648) (h2 := 4294967295) (l3 := 0) (h3 := 4294967295) (l4 := 0) (h4 := 4294967295) (l5 := 0) (h5 := 4294967295) (by decide +kernel) (by decide +kernel) hk ⟨⟨by omega, by omega⟩, ⟨by omega, by omega⟩, ⟨by omega, by omega⟩, ⟨by omega, by omega⟩, by omega, by omega⟩, bx_34_1⟩
  · skip
    by_cases c4 : iEx (xs 1) < 2147483649
    · skip
      by_cases c6 : iEx (xs 2) < 2147483648
      · skip
        exact ⟨BX_34_2, vr6 (k := 34) (l1 := 2147483648) (h1 := 2147483648) (l2 := 0) (h2 := 2147483647) (l3 := 0) (h3 := 4294967295) (l4 := 0) (h4 := 4294967295) (l5 := 0) (h5 := 4294967295) (by decide +kernel) (by decide +kernel) hk ⟨⟨by omega, by omega⟩, ⟨by omega, by omega⟩, ⟨by omega, by omega⟩, ⟨by omega, by omega⟩, by omega, by omega⟩, bx_34_2⟩
      · skip
        exact ⟨BX_34_3, vr6 (k := 34) (l1 := 2147483648) (h1 := 2147483648) (l2 := 2147483648) (h2 := 4294967295) (l3 := 0) (h3 := 4294967295) (l4 := 0) (h4 := 4294967295) (l5 := 0) (h5 := 4294967295) (by decide +kernel) (by decide +kernel) hk ⟨⟨by omega, by omega⟩, ⟨by omega, by omega⟩, ⟨by omega, by omega⟩, ⟨by omega, by omega⟩, by omega, by omega⟩, bx_34_3⟩
    · skip
      by_cases c6 : iEx (xs 2) < 2147483648
      · skip
        exact ⟨BX_34_4, vr6 (k := 34) (l1 := 2147483649) (h1 := 4294967295) (l2 := 0) (h2 := 2147483647) (l3 := 0) (h3 := 4294967295) (l4 := 0) (h4 := 4294967295) (l5 := 0) (h5 := 4294967295) (by decide +kernel) (by decide +kernel) hk ⟨⟨by omega, by omega⟩, ⟨by omega, by omega⟩, ⟨by omega, by omega⟩, ⟨by omega, by omega⟩, by omega, by omega⟩, bx_34_4⟩
      · skip
        exact ⟨BX_34_5, vr6 (k := 34) (l1 := 2147483649) (h1 := 4294967295) (l2 := 2147483648) (h2 := 4294967295) (l3 := 0) (h3 := 4294967295) (l4 := 0) (h4 := 4294967295) (l5 := 0) (h5 := 4294967295) (by decide +kernel) (by decide +kernel) hk ⟨⟨by omega, by omega⟩, ⟨by omega, by omega⟩, ⟨by omega, by omega⟩, ⟨by omega, by omega⟩, by omega, by omega⟩, bx_34_5⟩
theorem cov_35 {xs : Nat → Int32} (hk : iEx (xs 0 &&& 63) = 35 + 2147483648) : Cov xs := by
  have z1 := iEx_lt (xs 1)
  have z2 := iEx_lt (xs 2)
  have z3 := iEx_lt (xs 3)
  have z4 := iEx_lt (xs 4)
  have z5 := iEx_lt (xs 5)
  by_cases c2 : iEx (xs 1) < 2147483648
  · skip
    exact ⟨BX_35_0, vr6 (k := 35) (l1 := 0) (h1 := 2147483647) (l2 := 0) (h2 := 4294967295) (l3 := 0) (h3 := 4294967295) (l4 := 0) (h4 := 4294967295) (l5 := 0) (h5 := 4294967295) (by decide +kernel) (by decide +kernel) hk ⟨⟨by omega, by omega⟩, ⟨by omega, by omega⟩, ⟨by omega, by omega⟩, ⟨by omega, by omega⟩, by omega, by omega⟩, bx_35_0⟩
  · skip
    by_cases c4 : iEx (xs 1) < 2147483649
    · skip
      by_cases c6 : iEx (xs 2) < 2147483648
      · skip
        exact ⟨BX_35_1, vr6 (k := 35) (l1 := 2147483648) (h1 := 2147483648) (l2 := 0) (h2 := 2147483647) (l3 := 0) (h3 := 4294967295) (l4 := 0) (h4 := 4294967295) (l5 := 0) (h5 := 4294967295) (by decide +kernel) (by decide +kernel) hk ⟨⟨by omega, by omega⟩, ⟨by omega, by omega⟩, ⟨by omega, by omega⟩, ⟨by omega, by omega⟩, by omega, by omega⟩, bx_35_1⟩
      · skip
        by_cases c8 : iEx (xs 2) < 2147483650
        · skip
          exact ⟨BX_35_2, vr6 (k := 35) (l1 := 2147483648) (h1 := 2147483648) (l2 := 2147483648) (h2 := 2147483649) (l3 := 0) (h3 := 4294967295) (l4 := 0) (h4 := 4294967295) (l5 := 0) (h5 := 4294967295) (by decide +kernel) (by decide +kernel) hk ⟨⟨by omega, by omega⟩, ⟨by omega, by omega⟩, ⟨by omega, by omega⟩, ⟨by omega, by omega⟩, by omega, by omega⟩, bx_35_2⟩
        · skip
          exact ⟨BX_35_3, vr6 (k := 35) (l1 := 2147483648) (h1 := 2147483648) (l2 := 2147483650) (h2 := 4294967295) (l3 := 0) (h3 := 4294967295) (l4 := 0) (h4 := 4294967295) (l5 := 0) (h5 := 4294967295) (by decide +kernel) (by decide +kernel) hk ⟨⟨by omega, by omega⟩, ⟨by omega, by omega⟩, ⟨by omega, by omega⟩, ⟨by omega, by omega⟩, by omega, by omega⟩, bx_35_3⟩
    · skip
      exact ⟨BX_35_4, vr6 (k := 35) (l1 := 2147483649) (h1 := 4294967295) (l2 := 0) (h2 := 4294967295) (l3 := 0) (h3 := 4294967295) (l4 := 0) (h4 := 4294967295) (l5 := 0) (h5 := 4294967295) (by decide +kernel) (by decide +kernel) hk ⟨⟨by omega, by omega⟩, ⟨by omega, by omega⟩, ⟨by omega, by omega⟩, ⟨by omega, by omega⟩, by omega, by omega⟩, bx_35_4⟩
theorem cov_36 {xs : Nat → Int32} (hk : iEx (xs 0 &&& 63) = 36 + 2147483648) : Cov xs := by
  have z1 := iEx_lt (xs 1)
  have z2 := iEx_lt (xs 2)
  have z3 := iEx_lt (xs 3)
  have z4 := iEx_lt (xs 4)
  have z5 := iEx_lt (xs 5)
  by_cases c2 : iEx (xs 1) < 2147483648
  · skip
    by_cases c4 : iEx (xs 2) < 2147483648
    · skip
      exact ⟨BX_36_0, vr6 (k := 36) (l1 := 0) (h1 := 2147483647) (l2 := 0) (h2 := 2147483647) (l3 := 0) (h3 := 4294967295) (l4 := 0) (h4 := 4294967295) (l5 := 0) (h5 := 4294967295) (by decide +kernel) (by decide +kernel) hk ⟨⟨by omega, by omega⟩, ⟨by omega, by omega⟩, ⟨by omega, by omega⟩, ⟨by omega, by omega⟩, by omega, by omega⟩, bx_36_0⟩
    · skip
      by_cases c6 : iEx (xs 2) < 2147483652
      · skip
        exact ⟨BX_36_1, vr6 (k := 36) (l1 := 0) (h1 := 2147483647) (l2 := 2147483648) (h2 := 2147483651) (l3 := 0) (h3 := 4294967295) (l4 := 0) (h4 := 4294967295) (l5 := 0) (h5 := 4294967295) (by decide +kernel) (by decide +kernel) hk ⟨⟨by omega, by omega⟩, ⟨by omega, by omega⟩, ⟨by omega, by omega⟩, ⟨by omega, by omega⟩, by omega, by omega⟩, bx_36_1⟩
      · skip
        exact ⟨BX_36_2, vr6 (k := 36) (l1 := 0) (h1 := 2147483647) (l2 := 2147483652) (h2 := 4294967295) (l3 := 0) (h3 := 4294967295) (l4 := 0) (h4 := 4294967295) (l5 := 0) (h5 := 4294967295) (by decide +kernel) (by decide +kernel) hk ⟨⟨by omega, by omega⟩, ⟨by omega, by omega⟩, ⟨by omega, by omega⟩, ⟨by omega, by omega⟩, by omega, by omega⟩, bx_36_2⟩
  · skip
    by_cases c4 : iEx (xs 1) < 2147483649
    · skip
      by_cases c6 : iEx (xs 2) < 2147483648
      · skip
        exact ⟨BX_36_3, vr6 (k := 36) (l1 := 2147483648) (h1 := 2147483648) (l2 := 0) (h2 := 2147483647) (l3 := 0) (h3 := 4294967295) (l4 := 0) (h4 := 4294967295) (l5 := 0) (h5 := 4294967295) (by decide +kernel) (by decide +kernel) hk ⟨⟨by omega, by omega⟩, ⟨by omega, by omega⟩, ⟨by omega, by omega⟩, ⟨by omega, by omega⟩, by omega, by omega⟩, bx_36_3⟩
      · skip
        by_cases c8 : iEx (xs 2) < 2147483652
        · skip
          by_cases c10 : iEx (xs 3) < 2147483648
          · skip
            exact ⟨BX_36_4, vr6 (k := 36) (l1 := 2147483648) (h1 := 2147483648) (l2 := 2147483648) (h2 := 2147483651) (l3 := 0) (h3 := 2147483647) (l4 := 0) (h4 := 4294967295) (l5 := 0) (h5 := 4294967295) (by decide +kernel) (by decide +kernel) hk ⟨⟨by omega, by omega⟩, ⟨by omega, by omega⟩, ⟨by omega, by omega⟩, ⟨by omega, by omega⟩, by omega, by omega⟩, bx_36_4⟩
          · skip
            by_cases c12 : iEx (xs 3) < 2147483650
            · skip
              exact ⟨BX_36_5, vr6 (k := 36) (l1 := 2147483648) (h1 := 2147483648) (l2 := 2147483648) (h2 := 2147483651) (l3 := 2147483648) (h3 := 2147483649) (l4 := 0) (h4 := 4294967295) (l5 := 0) (h5 := 4294967295) (by decide +kernel) (by decide +kernel) hk ⟨⟨by omega, by omega⟩, ⟨by omega, by omega⟩, ⟨by omega, by omega⟩, ⟨by omega, by omega⟩, by omega, by omega⟩, bx_36_5⟩
            · skip
              exact ⟨BX_36_6, vr6 (k := 36) (l1 := 2147483648) (h1 := 2147483648) (l2 := 2147483648) (h2 := 2147483651) (l3 := 2147483650) (h3 := 4294967295) (l4 := 0) (h4 := 4294967295) (l5 := 0) (h5 := 4294967295) (by decide +kernel) (by decide +kernel) hk ⟨⟨by omega, by omega⟩, ⟨by omega, by omega⟩, ⟨by omega, by omega⟩, ⟨by omega, by omega⟩, by omega, by omega⟩, bx_36_6⟩
        · skip
          exact ⟨BX_36_7, vr6 (k := 36) (l1 := 2147483648) (h1 := 2147483648) (l2 := 2147483652) (h2 := 4294967295) (l3 := 0) (h3 := 4294967295) (l4 := 0) (h4 := 4294967295) (l5 := 0) (h5 := 4294967295) (by decide +kernel) (by decide +kernel) hk ⟨⟨by omega, by omega⟩, ⟨by omega, by omega⟩, ⟨by omega, by omega⟩, ⟨by omega, by omega⟩, by omega, by omega⟩, bx_36_7⟩
    · skip
      by_cases c6 : iEx (xs 2) < 2147483648
      · skip
        exact ⟨BX_36_8, vr6 (k := 36) (l1 := 2147483649) (h1 := 4294967295) (l2 := 0) (h2 := 2147483647) (l3 := 0) (h3 := 4294967295) (l4 := 0) (h4 := 4294967295) (l5 := 0) (h5 := 4294967295) (by decide +kernel) (by decide +kernel) hk ⟨⟨by omega, by omega⟩, ⟨by omega, by omega⟩, ⟨by omega, by omega⟩, ⟨by omega, by omega⟩, by omega, by omega⟩, bx_36_8⟩
      · skip
        by_cases c8 : iEx (xs 2) < 2147483652
        · skip
          exact ⟨BX_36_9, vr6 (k := 36) (l1 := 2147483649) (h1 := 4294967295) (l2 := 2147483648) (h2 := 2147483651) (l3 := 0) (h3 := 4294967295) (l4 := 0) (h4 := 4294967295) (l5 := 0) (h5 := 4294967295) (by decide +kernel) (by decide +kernel) hk ⟨⟨by omega, by omega⟩, ⟨by omega, by omega⟩, ⟨by omega, by omega⟩, ⟨by omega, by omega⟩, by omega, by omega⟩, bx_36_9⟩
        · skip
          exact ⟨BX_36_10, vr6 (k := 36) (l1 := 2147483649) (h1 := 4294967295) (l2 := 2147483652) (h2 := 4294967295) (l3 := 0) (h3 := 4294967295) (l4 := 0) (h4 := 4294967295) (l5 := 0) (h5 := 4294967295) (by decide +kernel) (by decide +kernel) hk ⟨⟨by omega, by omega⟩, ⟨by omega, by omega⟩, ⟨by omega, by omega⟩, ⟨by omega, by omega⟩, by omega, by omega⟩, bx_36_10⟩
theorem cov_37 {xs : Nat → Int32} (hk : iEx (xs 0 &&& 63) = 37 + 2147483648) : Cov xs := by
  have z1 := iEx_lt (xs 1)
  have z2 := iEx_lt (xs 2)
  have z3 := iEx_lt (xs 3)
  have z4 := iEx_lt (xs 4)
  have z5 := iEx_lt (xs 5)
  by_cases c2 : iEx (xs 1) < 2147483648
  · skip
    by_cases c4 : iEx (xs 2) < 2147483648
    · skip
      exact ⟨BX_37_0, vr6 (k := 37) (l1 := 0) (h1 := 2147483647) (l2 := 0) (h2 := 2147483647) (l3 := 0) (h3 := 4294967295) (l4 := 0) (h4 := 4294967295) (l5 := 0) (h5 := 4294967295) (by decide +kernel) (by decide +kernel) hk ⟨⟨by omega, by omega⟩, ⟨by omega, by omega⟩, ⟨by omega, by omega⟩, ⟨by omega, by omega⟩, by omega, by omega⟩, bx_37_0⟩
    · skip
      by_cases c6 : iEx (xs 2) < 2147483649
      · skip
        exact ⟨BX_37_1, vr6 (k := 37) (l1 := 0) (h1 := 2147483647) (l2 := 2147483648) (h2 := 2147483648) (l3 := 0) (h3 := 4294967295) (l4 := 0) (h4 := 4294967295) (l5 := 0) (h5 := 4294967295) (by decide +kernel) (by decide +kernel) hk ⟨⟨by omega, by omega⟩, ⟨by omega, by omega⟩, ⟨by omega, by omega⟩, ⟨by omega, by omega⟩, by omega, by omega⟩, bx_37_1⟩
      · skip
        exact ⟨BX_37_2, vr6 (k := 37) (l1 := 0) (h1 := 2147483647) (l2 := 2147483649) (h2 := 4294967295) (l3 := 0) (h3 := 4294967295) (l4 := 0) (h4 := 4294967295) (l5 := 0) (h5 := 4294967295) (by decide +kernel) (by decide +kernel) hk ⟨⟨by omega, by omega⟩, ⟨by omega, by omega⟩, ⟨by omega, by omega⟩, ⟨by omega, by omega⟩, by omega, by omega⟩, bx_37_2⟩
  · skip
    by_cases c4 : iEx (xs 1) < 2147483649
    · skip
      by_cases c6 : iEx (xs 2) < 2147483648
      · skip
        exact ⟨BX_37_3, vr6 (k := 37) (l1 := 2147483648) (h1 := 2147483648) (l2 := 0) (h2 := 2147483647) (l3 := 0) (h3 := 4294967295) (l4 := 0) (h4 := 4294967295) (l5 := 0) (h5 := 4294967295) (by decide +kernel) (by decide +kernel) hk ⟨⟨by omega, by omega⟩, ⟨by omega, by omega⟩, ⟨by omega, by omega⟩, ⟨by omega, by omega⟩, by omega, by omega⟩, bx_37_3⟩
      · skip
        by_cases c8 : iEx (xs 2) < 2147483649
        · skip
          by_cases c10 : iEx (xs 3) < 2147483648
          · skip
            exact ⟨BX_37_4, vr6 (k := 37) (l1 := 2147483648) (h1 := 2147483648) (l2 := 2147483648) (h2 := 2147483648) (l3 := 0) (h3 := 2147483647) (l4 := 0) (h4 := 4294967295) (l5 := 0) (h5 := 4294967295) (by decide +kernel) (by decide +kernel) hk ⟨⟨by omega, by omega⟩, ⟨by omega, by omega⟩, ⟨by omega, by omega⟩, ⟨by omega, by omega⟩, by omega, by omega⟩, bx_37_4⟩
          · skip
            by_cases c12 : iEx (xs 3) < 2147483649
            · skip
              exact ⟨BX_37_5, vr6 (k := 37) (l1 := 2147483648) (h1 := 2147483648) (l2 := 2147483648) (h2 := 2147483648) (l3 := 2147483648) (h3 := 2147483648) (l4 := 0) (h4 := 4294967295) (l5 := 0) (h5 := 4294967295) (by decide +kernel) (by decide +kernel) hk ⟨⟨by omega, by omega⟩, ⟨by omega, by omega⟩, ⟨by omega, by omega⟩, ⟨by omega, by omega⟩, by omega, by omega⟩, bx_37_5⟩
            · skip
              by_cases c14 : iEx (xs 3) < 2147483650
              · skip
                exact ⟨BX_37_6, vr6 (k := 37) (l1 := 2147483648) (h1 := 2147483648) (l2 := 2147483648) (h2 := 2147483648) (l3 := 2147483649) (h3 := 2147483649) (l4 := 0) (h4 := 4294967295) (l5 := 0) (h5 := 4294967295) (by decide +kernel) (by decide +kernel) hk ⟨⟨by omega, by omega⟩, ⟨by omega, by omega⟩, ⟨by omega, by omega⟩, ⟨by omega, by omega⟩, by omega, by omega⟩, bx_37_6⟩
              · skip
                exact ⟨BX_37_7, vr6 (k := 37) (l1 := 2147483648) (h1 := 2147483648) (l2 := 2147483648) (h2 := 2147483648) (l3 := 2147483650) (h3 := 4294967295) (l4 := 0) (h4 := 4294967295) (l5 := 0) (h5 := 4294967295) (by decide +kernel) (by decide +kernel) hk ⟨⟨by omega, by omega⟩, ⟨by omega, by omega⟩, ⟨by omega, by omega⟩, ⟨by omega, by omega⟩, by omega, by omega⟩, bx_37_7⟩
        · skip
          exact ⟨BX_37_8, vr6 (k := 37) (l1 := 2147483648) (h1 := 2147483648) (l2 := 2147483649) (h2 := 4294967295) (l3 := 0) (h3 := 4294967295) (l4 := 0) (h4 := 4294967295) (l5 := 0) (h5 := 4294967295) (by decide +kernel) (by decide +kernel) hk ⟨⟨by omega, by omega⟩, ⟨by omega, by omega⟩, ⟨by omega, by omega⟩, ⟨by omega, by omega⟩, by omega, by omega⟩, bx_37_8⟩
    · skip
      by_cases c6 : iEx (xs 2) < 2147483648
      · skip
        exact ⟨BX_37_9, vr6 (k := 37) (l1 := 2147483649) (h1 := 4294967295) (l2 := 0) (h2 := 2147483647) (l3 := 0) (h3 := 4294967295) (l4 := 0) (h4 := 4294967295) (l5 := 0) (h5 := 4294967295) (by decide +kernel) (by decide +kernel) hk ⟨⟨by omega, by omega⟩, ⟨by omega, by omega⟩, ⟨by omega, by omega⟩, ⟨by omega, by omega⟩, by omega, by omega⟩, bx_37_9⟩
      · skip
        by_cases c8 : iEx (xs 2) < 2147483649
        · skip
          exact ⟨BX_37_10, vr6 (k := 37) (l1 := 2147483649) (h1 := 4294967295) (l2 := 2147483648) (h2 := 2147483648) (l3 := 0) (h3 := 4294967295) (l4 := 0) (h4 := 4294967295) (l5 := 0) (h5 := 4294967295) (by decide +kernel) (by decide +kernel) hk ⟨⟨by omega, by omega⟩, ⟨by omega, by omega⟩, ⟨by omega, by omega⟩, ⟨by omega, by omega⟩, by omega, by omega⟩, bx_37_10⟩
        · skip
          exact ⟨BX_37_11, vr6 (k := 37) (l1 := 2147483649) (h1 := 4294967295) (l2 := 2147483649) (h2 := 4294967295) (l3 := 0) (h3 := 4294967295) (l4 := 0) (h4 := 4294967295) (l5 := 0) (h5 := 4294967295) (by decide +kernel) (by decide +kernel) hk ⟨⟨by omega, by omega⟩, ⟨by omega, by omega⟩, ⟨by omega, by omega⟩, ⟨by omega, by omega⟩, by omega, by omega⟩, bx_37_11⟩
theorem cov_38 {xs : Nat → Int32} (hk : iEx (xs 0 &&& 63) = 38 + 2147483648) : Cov xs := by
  have z1 := iEx_lt (xs 1)
  have z2 := iEx_lt (xs 2)
  have z3 := iEx_lt (xs 3)
  have z4 := iEx_lt (xs 4)
  have z5 := iEx_lt (xs 5)
  by_cases c2 : iEx (xs 1) < 2147483648
  · skip
    by_cases c4 : iEx (xs 2) < 2147483648
    · skip
      exact ⟨BX_38_0, vr6 (k := 38) (l1 := 0) (h1 := 2147483647) (l2 := 0) (h2 := 2147483647) (l3 := 0) (h3 := 4294967295) (l4 := 0) (h4 := 4294967295) (l5 := 0) (h5 := 4294967295) (by decide +kernel) (by decide +kernel) hk ⟨⟨by omega, by omega⟩, ⟨by omega, by omega⟩, ⟨by omega, by omega⟩, ⟨by omega, by omega⟩, by omega, by omega⟩, bx_38_0⟩
    · skip
      by_cases c6 : iEx (xs 2) < 2147483650
      · skip
        exact ⟨BX_38_1, vr6 (k := 38) (l1 := 0) (h1 := 2147483647) (l2 := 2147483648) (h2 := 2147483649) (l3 := 0) (h3 := 4294967295) (l4 := 0) (h4 := 4294967295) (l5 := 0) (h5 := 4294967295) (by decide +kernel) (by decide +kernel) hk ⟨⟨by omega, by omega⟩, ⟨by omega, by omega⟩, ⟨by omega, by omega⟩, ⟨by omega, by omega⟩, by omega, by omega⟩, bx_38_1⟩
      · skip
        exact ⟨BX_38_2, vr6 (k := 38) (l1 := 0) (h1 := 2147483647) (l2 := 2147483650) (h2 := 4294967295) (l3 := 0) (h3 := 4294967295) (l4 := 0) (h4 := 4294967295) (l5 := 0) (h5 := 4294967295) (by decide +kernel) (by decide +kernel) hk ⟨⟨by omega, by omega⟩, ⟨by omega, by omega⟩, ⟨by omega, by omega⟩, ⟨by omega, by omega⟩, by omega, by omega⟩, bx_38_2⟩
  · skip
    by_cases c4 : iEx (xs 1) < 2147483649
    · skip
      by_cases c6 : iEx (xs 2) < 2147483648
      · skip
        exact ⟨BX_38_3, vr6 (k := 38) (l1 := 2147483648) (h1 := 2147483648) (l2 := 0) (h2 := 2147483647) (l3 := 0) (h3 := 4294967295) (l4 := 0) (h4 := 4294967295) (l5 := 0) (h5 := 4294967295) (by decide +kernel) (by decide +kernel) hk ⟨⟨by omega, by omega⟩, ⟨by omega, by omega⟩, ⟨by omega, by omega⟩, ⟨by omega, by omega⟩, by omega, by omega⟩, bx_38_3⟩
      · skip
        by_cases c8 : iEx (xs 2) < 2147483649
        · skip
          exact ⟨BX_38_4, vr6 (k := 38) (l1 := 2147483648) (h1 := 2147483648) (l2 := 2147483648) (h2 := 2147483648) (l3 := 0) (h3 := 4294967295) (l4 := 0) (h4 := 4294967295) (l5 := 0) (h5 := 4294967295) (by decide +kernel) (by decide +kernel) hk ⟨⟨by omega, by omega⟩, ⟨by omega, by omega⟩, ⟨by omega, by omega⟩, ⟨by omega, by omega⟩, by omega, by omega⟩, bx_38_4⟩
        · skip
          by_cases c10 : iEx (xs 2) < 2147483650
          · skip
            exact ⟨BX_38_5, vr6 (k := 38) (l1 := 2147483648) (h1 := 2147483648) (l2 := 2147483649) (h2 := 2147483649) (l3 := 0) (h3 := 4294967295) (l4 := 0) (h4 := 4294967295) (l5 := 0) (h5 := 4294967295) (by decide +kernel) (by decide +kernel) hk ⟨⟨by omega, by omega⟩, ⟨by omega, by omega⟩, ⟨by omega, by omega⟩, ⟨by omega, by omega⟩, by omega, by omega⟩, bx_38_5⟩
          · skip
            exact ⟨BX_38_6, vr6 (k := 38) (l1 := 2147483648) (h1 := 2147483648) (l2 := 2147483650) (h2 := 4294967295) (l3 := 0) (h3 := 4294967295) (l4 := 0) (h4 := 4294967295) (l5 := 0) (h5 := 4294967295) (by decide +kernel) (by decide +kernel) hk ⟨⟨by omega, by omega⟩, ⟨by omega, by omega⟩, ⟨by omega, by omega⟩, ⟨by omega, by omega⟩, by omega, by omega⟩, bx_38_6⟩
    · skip
      by_cases c6 : iEx (xs 2) < 2147483648
      · skip
        exact ⟨BX_38_7, vr6 (k := 38) (l1 := 2147483649) (h1 := 4294967295) (l2 := 0) (h2 := 2147483647) (l3 := 0) (h3 := 4294967295) (l4 := 0) (h4 := 4294967295) (l5 := 0) (h5 := 4294967295) (by decide +kernel) (by decide +kernel) hk ⟨⟨by omega, by omega⟩, ⟨by omega, by omega⟩, ⟨by omega, by omega⟩, ⟨by omega, by omega⟩, by omega, by omega⟩, bx_38_7⟩
      · skip
        by_cases c8 : iEx (xs 2) < 2147483650
        · skip
          exact ⟨BX_38_8, vr6 (k := 38) (l1 := 2147483649) (h1 := 4294967295) (l2 := 2147483648) (h2 := 2147483649) (l3 := 0) (h3 := 4294967295) (l4 := 0) (h4 := 4294967295) (l5 := 0) (h5 := 4294967295) (by decide +kernel) (by decide +kernel) hk ⟨⟨by omega, by omega⟩, ⟨by omega, by omega⟩, ⟨by omega, by omega⟩, ⟨by omega, by omega⟩, by omega, by omega⟩, bx_38_8⟩
        · skip
          exact ⟨BX_38_9, vr6 (k := 38) (l1 := 2147483649) (h1 := 4294967295) (l2 := 2147483650) (h2 := 4294967295) (l3 := 0) (h3 := 4294967295) (l4 := 0) (h4 := 4294967295) (l5 := 0) (h5 := 4294967295) (by decide +kernel) (by decide +kernel) hk ⟨⟨by omega, by omega⟩, ⟨by omega, by omega⟩, ⟨by omega, by omega⟩, ⟨by omega, by omega⟩, by omega, by omega⟩, bx_38_9⟩
theorem cov_39 {xs : Nat → Int32} (hk : iEx (xs 0 &&& 63) = 39 + 2147483648) : Cov xs := by
  have z1 := iEx_lt (xs 1)
  have z2 := iEx_lt (xs 2)
  have z3 := iEx_lt (xs 3)
  have z4 := iEx_lt (xs 4)
  have z5 := iEx_lt (xs 5)
  by_cases c2 : iEx (xs 1) < 2147483648
  · skip
    exact ⟨BX_39_0, vr6 (k := 39) (l1 := 0) (h1 := 2147483647) (l2 := 0) (h2 := 4294967295) (l3 := 0) (h3 := 4294967295) (l4 := 0) (h4 := 4294967295) (l5 := 0) (h5 := 4294967295) (by decide +kernel) (by decide +kernel) hk ⟨⟨by omega, by omega⟩, ⟨by omega, by omega⟩, ⟨by omega, by omega⟩, ⟨by omega, by omega⟩, by omega, by omega⟩, bx_39_0⟩
  · skip
    by_cases c4 : iEx (xs 1) < 2147483649
    · skip
      by_cases c6 : iEx (xs 2) < 2147483648
      · skip
        exact ⟨BX_39_1, vr6 (k := 39) (l1 := 2147483648) (h1 := 2147483648) (l2 := 0) (h2 := 2147483647) (l3 := 0) (h3 := 4294967295) (l4 := 0) (h4 := 4294967295) (l5 := 0) (h5 := 4294967295) (by decide +kernel) (by decide +kernel) hk ⟨⟨by omega, by omega⟩, ⟨by omega, by omega⟩, ⟨by omega, by omega⟩, ⟨by omega, by omega⟩, by omega, by omega⟩, bx_39_1⟩
      · skip
        by_cases c8 : iEx (xs 2) < 2147483649
        · skip
          exact ⟨BX_39_2, vr6 (k := 39) (l1 := 2147483648) (h1 := 2147483648) (l2 := 2147483648) (h2 := 2147483648) (l3 := 0) (h3 := 4294967295) (l4 := 0) (h4 := 4294967295) (l5 := 0) (h5 := 4294967295) (by decide +kernel) (by decide +kernel) hk ⟨⟨by omega, by omega⟩, ⟨by omega, by omega⟩, ⟨by omega, by omega⟩, ⟨by omega, by omega⟩, by omega, by omega⟩, bx_39_2⟩
        · skip
          by_cases c10 : iEx (xs 2) < 2147483650
          · skip
            exact ⟨BX_39_3, vr6 (k := 39) (l1 := 2147483648) (h1 := 2147483648) (l2 := 2147483649) (h2 := 2147483649) (l3 := 0) (h3 := 4294967295) (l4 := 0) (h4 := 4294967295) (l5 := 0) (h5 := 4294967295) (by decide +kernel) (by decide +kernel) hk ⟨⟨by omega, by omega⟩, ⟨by omega, by omega⟩, ⟨by omega, by omega⟩, ⟨by omega, by omega⟩, by omega, by omega⟩, bx_39_3⟩
          · skip
            exact ⟨BX_39_4, vr6 (k := 39) (l1 := 2147483648) (h1 := 2147483648) (l2 := 2147483650) (h2 := 4294967295) (l3 := 0) (h3 := 4294967295) (l4 := 0) (h4 := 4294967295) (l5 := 0) (h5 := 4294967295) (by decide +kernel) (by decide +kernel) hk ⟨⟨by omega, by omega⟩, ⟨by omega, by omega⟩, ⟨by omega, by omega⟩, ⟨by omega, by omega⟩, by omega, by omega⟩, bx_39_4⟩
    · skip
      exact ⟨BX_39_5, vr6 (k := 39) (l1 := 2147483649) (h1 := 4294967295) (l2 := 0) (h2 := 4294967295) (l3 := 0) (h3 := 4294967295) (l4 := 0) (h4 := 4294967295) (l5 := 0) (h5 := 4294967295) (by decide +kernel) (by decide +kernel) hk ⟨⟨by omega, by omega⟩, ⟨by omega, by omega⟩, ⟨by omega, by omega⟩, ⟨by omega, by omega⟩, by omega, by omega⟩, bx_39_5⟩
theorem cov_40 {xs : Nat → Int32} (hk : iEx (xs 0 &&& 63) = 40 + 2147483648) : Cov xs := by
  have z1 := iEx_lt (xs 1)
  have z2 := iEx_lt (xs 2)
  have z3 := iEx_lt (xs 3)
  have z4 := iEx_lt (xs 4)
  have z5 := iEx_lt (xs 5)
  exact ⟨BX_40_0, vr6 (k := 40) (l1 := 0) (h1 := 4294967295) (l2 := 0) (h2 := 4294967295) (l3 := 0) (h3 := 4294967295) (l4 := 0) (h4 := 4294967295) (l5 := 0) (h5 := 4294967295) (by decide +kernel) (by decide +kernel) hk ⟨⟨by omega, by omega⟩, ⟨by omega, by omega⟩, ⟨by omega, by omega⟩, ⟨by omega, by omega⟩, by omega, by omega⟩, bx_40_0⟩
theorem cov_41 {xs : Nat → Int32} (hk : iEx (xs 0 &&& 63) = 41 + 2147483648) : Cov xs := by
  have z1 := iEx_lt (xs 1)
  have z2 := iEx_lt (xs 2)
  have z3 := iEx_lt (xs 3)
  have z4 := iEx_lt (xs 4)
  have z5 := iEx_lt (xs 5)
  exact ⟨BX_41_0, vr6 (k := 41) (l1 := 0) (h1 := 4294967295) (l2 := 0) (h2 := 4294967295) (l3 := 0) (h3 := 4294967295) (l4 := 0) (h4 := 4294967295) (l5 := 0) (h5 := 4294967295) (by decide +kernel) (by decide +kernel) hk ⟨⟨by omega, by omega⟩, ⟨by omega, by omega⟩, ⟨by omega, by omega⟩, ⟨by omega, by omega⟩, by omega, by omega⟩, bx_41_0⟩
theorem cov_42 {xs : Nat → Int32} (hk : iEx (xs 0 &&& 63) = 42 + 2147483648) : Cov xs := by
  have z1 := iEx_lt (xs 1)
  have z2 := iEx_lt (xs 2)
  have z3 := iEx_lt (xs 3)
  have z4 := iEx_lt (xs 4)
  have z5 := iEx_lt (xs 5)
  exact ⟨BX_42_0, vr6 (k := 42) (l1 := 0) (h1 := 4294967295) (l2 := 0) (h2 := 4294967295) (l3 := 0) (h3 := 4294967295) (l4 := 0) (h4 := 4294967295) (l5 := 0) (h5 := 4294967295) (by decide +kernel) (by decide +kernel) hk ⟨⟨by omega, by omega⟩, ⟨by omega, by omega⟩, ⟨by omega, by omega⟩, ⟨by omega, by omega⟩, by omega, by omega⟩, bx_42_0⟩
theorem cov_43 {xs : Nat → Int32} (hk : iEx (xs 0 &&& 63) = 43 + 2147483648) : Cov xs := by
  have z1 := iEx_lt (xs 1)
  have z2 := iEx_lt (xs 2)
  have z3 := iEx_lt (xs 3)
  have z4 := iEx_lt (xs 4)
  have z5 := iEx_lt (xs 5)
  exact ⟨BX_43_0, vr6 (k := 43) (l1 := 0) (h1 := 4294967295) (l2 := 0) (h2 := 4294967295) (l3 := 0) (h3 := 4294967295) (l4 := 0) (h4 := 4294967295) (l5 := 0) (h5 := 4294967295) (by decide +kernel) (by decide +kernel) hk ⟨⟨by omega, by omega⟩, ⟨by omega, by omega⟩, ⟨by omega, by omega⟩, ⟨by omega, by omega⟩, by omega, by omega⟩, bx_43_0⟩
theorem cov_44 {xs : Nat → Int32} (hk : iEx (xs 0 &&& 63) = 44 + 2147483648) : Cov xs := by
  have z1 := iEx_lt (xs 1)
  have z2 := iEx_lt (xs 2)
  have z3 := iEx_lt (xs 3)
  have z4 := iEx_lt (xs 4)
  have z5 := iEx_lt (xs 5)
  exact ⟨BX_44_0, vr6 (k := 44) (l1 := 0) (h1 := 4294967295) (l2 := 0) (h2 := 4294967295) (l3 := 0) (h3 := 4294967295) (l4 := 0) (h4 := 4294967295) (l5 := 0) (h5 := 4294967295) (by decide +kernel) (by decide +kernel) hk ⟨⟨by omega, by omega⟩, ⟨by omega, by omega⟩, ⟨by omega, by omega⟩, ⟨by omega, by omega⟩, by omega, by omega⟩, bx_44_0⟩
theorem cov_45 {xs : Nat → Int32} (hk : iEx (xs 0 &&& 63) = 45 + 2147483648) : Cov xs := by
  have z1 := iEx_lt (xs 1)
  have z2 := iEx_lt (xs 2)
  have z3 := iEx_lt (xs 3)
  have z4 := iEx_lt (xs 4)
  have z5 := iEx_lt (xs 5)
  exact ⟨BX_45_0, vr6 (k := 45) (l1 := 0) (h1 := 4294967295) (l2 := 0) (h2 := 4294967295) (l3 := 0) (h3 := 4294967295) (l4 := 0) (h4 := 4294967295) (l5 := 0) (h5 := 4294967295) (by decide +kernel) (by decide +kernel) hk ⟨⟨by omega, by omega⟩, ⟨by omega, by omega⟩, ⟨by omega, by omega⟩, ⟨by omega, by omega⟩, by omega, by omega⟩, bx_45_0⟩
theorem cov_46 {xs : Nat → Int32} (hk : iEx (xs 0 &&& 63) = 46 + 2147483648) : Cov xs := by
  have z1 := iEx_lt (xs 1)
  have z2 := iEx_lt (xs 2)
  have z3 := iEx_lt (xs 3)
  have z4 := iEx_lt (xs 4)
  have z5 := iEx_lt (xs 5)
  exact ⟨BX_46_0, vr6 (k := 46) (l1 := 0) (h1 := 4294967295) (l2 := 0) (h2 := 4294967295) (l3 := 0) (h3 := 4294967295) (l4 := 0) (h4 := 4294967295) (l5 := 0) (h5 := 4294967295) (by decide +kernel) (by decide +kernel) hk ⟨⟨by omega, by omega⟩, ⟨by omega, by omega⟩, ⟨by omega, by omega⟩, ⟨by omega, by omega⟩, by omega, by omega⟩, bx_46_0⟩
theorem cov_47 {xs : Nat → Int32} (hk : iEx (xs 0 &&& 63) = 47 + 2147483648) : Cov xs := by
  have z1 := iEx_lt (xs 1)
  have z2 := iEx_lt (xs 2)
  have z3 := iEx_lt (xs 3)
  have z4 := iEx_lt (xs 4)
  have z5 := iEx_lt (xs 5)
  exact ⟨BX_47_0, vr6 (k := 47) (l1 := 0) (h1 := 4294967295) (l2 := 0) (h2 := 4294967295) (l3 := 0) (h3 := 4294967295) (l4 := 0) (h4 := 4294967295) (l5 := 0) (h5 := 4294967295) (by decide +kernel) (by decide +kernel) hk ⟨⟨by omega, by omega⟩, ⟨by omega, by omega⟩, ⟨by omega, by omega⟩, ⟨by omega, by omega⟩, by omega, by omega⟩, bx_47_0⟩
theorem cov_48 {xs : Nat → Int32} (hk : iEx (xs 0 &&& 63) = 48 + 2147483648) : Cov xs := by
  have z1 := iEx_lt (xs 1)
  have z2 := iEx_lt (xs 2)
  have z3 := iEx_lt (xs 3)
  have z4 := iEx_lt (xs 4)
  have z5 := iEx_lt (xs 5)
  exact ⟨BX_48_0, vr6 (k := 48) (l1 := 0) (h1 := 4294967295) (l2 := 0) (h2 := 4294967295) (l3 := 0) (h3 := 4294967295) (l4 := 0) (h4 := 4294967295) (l5 := 0) (h5 := 4294967295) (by decide +kernel) (by decide +kernel) hk ⟨⟨by omega, by omega⟩, ⟨by omega, by omega⟩, ⟨by omega, by omega⟩, ⟨by omega, by omega⟩, by omega, by omega⟩, bx_48_0⟩
theorem cov_49 {xs : Nat → Int32} (hk : iEx (xs 0 &&& 63) = 49 + 2147483648) : Cov xs := by
  have z1 := iEx_lt (xs 1)
  have z2 := iEx_lt (xs 2)
  have z3 := iEx_lt (xs 3)
  have z4 := iEx_lt (xs 4)
  have z5 := iEx_lt (xs 5)
  exact ⟨BX_49_0, vr6 (k := 49) (l1 := 0) (h1 := 4294967295) (l2 := 0) (h2 := 4294967295) (l3 := 0) (h3 := 4294967295) (l4 := 0) (h4 := 4294967295) (l5 := 0) (h5 := 4294967295) (by decide +kernel) (by decide +kernel) hk ⟨⟨by omega, by omega⟩, ⟨by omega, by omega⟩, ⟨by omega, by omega⟩, ⟨by omega, by omega⟩, by omega, by omega⟩, bx_49_0⟩
theorem cov_50 {xs : Nat → Int32} (hk : iEx (xs 0 &&& 63) = 50 + 2147483648) : Cov xs := by
  have z1 := iEx_lt (xs 1)
  have z2 := iEx_lt (xs 2)
  have z3 := iEx_lt (xs 3)
  have z4 := iEx_lt (xs 4)
  have z5 := iEx_lt (xs 5)
  exact ⟨BX_50_0, vr6 (k := 50) (l1 := 0) (h1 := 4294967295) (l2 := 0) (h2 := 4294967295) (l3 := 0) (h3 := 4294967295) (l4 := 0) (h4 := 4294967295) (l5 := 0) (h5 := 4294967295) (by decide +kernel) (by decide +kernel) hk ⟨⟨by omega, by omega⟩, ⟨by omega, by omega⟩, ⟨by omega, by omega⟩, ⟨by omega, by omega⟩, by omega, by omega⟩, bx_50_0⟩
theorem cov_51 {xs : Nat → Int32} (hk : iEx (xs 0 &&& 63) = 51 + 2147483648) : Cov xs := by
  have z1 := iEx_lt (xs 1)
  have z2 := iEx_lt (xs 2)
  have z3 := iEx_lt (xs 3)
  have z4 := iEx_lt (xs 4)
  have z5 := iEx_lt (xs 5)
  exact ⟨BX_51_0, vr6 (k := 51) (l1 := 0) (h1 := 4294967295) (l2 := 0) (h2 := 4294967295) (l3 := 0) (h3 := 4294967295) (l4 := 0) (h4 := 4294967295) (l5 := 0) (h5 := 4294967295) (by decide +kernel) (by decide +kernel) hk ⟨⟨by omega, by omega⟩, ⟨by omega, by omega⟩, ⟨by omega, by omega⟩, ⟨by omega, by omega⟩, by omega, by omega⟩, bx_51_0⟩
theorem cov_52 {xs : Nat → Int32} (hk : iEx (xs 0 &&& 63) = 52 + 2147483648) : Cov xs := by
  have z1 := iEx_lt (xs 1)
  have z2 := iEx_lt (xs 2)
  have z3 := iEx_lt (xs 3)
  have z4 := iEx_lt (xs 4)
  have z5 := iEx_lt (xs 5)
  exact ⟨BX_52_0, vr6 (k := 52) (l1 := 0) (h1 := 4294967295) (l2 := 0) (h2 := 4294967295) (l3 := 0) (h3 := 4294967295) (l4 := 0) (h4 := 4294967295) (l5 := 0) (h5 := 4294967295) (by decide +kernel) (by decide +kernel) hk ⟨⟨by omega, by omega⟩, ⟨by omega, by omega⟩, ⟨by omega, by omega⟩, ⟨by omega, by omega⟩, by omega, by omega⟩, bx_52_0⟩
theorem cov_53 {xs : Nat → Int32} (hk : iEx (xs 0 &&& 63) = 53 + 2147483648) : Cov xs := by
  have z1 := iEx_lt (xs 1)
  have z2 := iEx_lt (xs 2)
  have z3 := iEx_lt (xs 3)
  have z4 := iEx_lt (xs 4)
  have z5 := iEx_lt (xs 5)
  exact ⟨BX_53_0, vr6 (k := 53) (l1 := 0) (h1 := 4294967295) (l2 := 0) (h2 := 4294967295) (l3 := 0) (h3 := 4294967295) (l4 := 0) (h4 := 4294967295) (l5 := 0) (h5 := 4294967295) (by decide +kernel) (by decide +kernel) hk ⟨⟨by omega, by omega⟩, ⟨by omega, by omega⟩, ⟨by omega, by omega⟩, ⟨by omega, by omega⟩, by omega, by omega⟩, bx_53_0⟩
theorem cov_54 {xs : Nat → Int32} (hk : iEx (xs 0 &&& 63) = 54 + 2147483648) : Cov xs := by
  have z1 := iEx_lt (xs 1)
  have z2 := iEx_lt (xs 2)
  have z3 := iEx_lt (xs 3)
  have z4 := iEx_lt (xs 4)
  have z5 := iEx_lt (xs 5)
  exact ⟨BX_54_0, vr6 (k := 54) (l1 := 0) (h1 := 4294967295) (l2 := 0) (h2 := 4294967295) (l3 := 0) (h3 := 4294967295) (l4 := 0) (h4 := 4294967295) (l5 := 0) (h5 := 4294967295) (by decide +kernel) (by decide +kernel) hk ⟨⟨by omega, by omega⟩, ⟨by omega, by omega⟩, ⟨by omega, by omega⟩, ⟨by omega, by omega⟩, by omega, by omega⟩, bx_54_0⟩
theorem cov_55 {xs : Nat → Int32} (hk : iEx (xs 0 &&& 63) = 55 + 2147483648) : Cov xs := by
  have z1 := iEx_lt (xs 1)
  have z2 := iEx_lt (xs 2)
  have z3 := iEx_lt (xs 3)
  have z4 := iEx_lt (xs 4)
  have z5 := iEx_lt (xs 5)
  exact ⟨BX_55_0, vr6 (k := 55) (l1 := 0) (h1 := 4294967295) (l2 := 0) (h2 := 4294967295) (l3 := 0) (h3 := 4294967295) (l4 := 0) (h4 := 4294967295) (l5 := 0) (h5 := 4294967295) (by decide +kernel) (by decide +kernel) hk ⟨⟨by omega, by omega⟩, ⟨by omega, by omega⟩, ⟨by omega, by omega⟩, ⟨by omega, by omega⟩, by omega, by omega⟩, bx_55_0⟩
theorem cov_56 {xs : Nat → Int32} (hk : iEx (xs 0 &&& 63) = 56 + 2147483648) : Cov xs := by
  have z1 := iEx_lt (xs 1)
  have z2 := iEx_lt (xs 2)
  have z3 := iEx_lt (xs 3)
  have z4 := iEx_lt (xs 4)
  have z5 := iEx_lt (xs 5)
  exact ⟨BX_56_0, vr6 (k := 56) (l1 := 0) (h1 := 4294967295) (l2 := 0) (h2 := 4294967295) (l3 := 0) (h3 := 4294967295) (l4 := 0) (h4 := 4294967295) (l5 := 0) (h5 := 4294967295) (by decide +kernel) (by decide +kernel) hk ⟨⟨by omega, by omega⟩, ⟨by omega, by omega⟩, ⟨by omega, by omega⟩, ⟨by omega, by omega⟩, by omega, by omega⟩, bx_56_0⟩
theorem cov_57 {xs : Nat → Int32} (hk : iEx (xs 0 &&& 63) = 57 + 2147483648) : Cov xs := by
  have z1 := iEx_lt (xs 1)
  have z2 := iEx_lt (xs 2)
  have z3 := iEx_lt (xs 3)
  have z4 := iEx_lt (xs 4)
  have z5 := iEx_lt (xs 5)
  exact ⟨BX_57_0, vr6 (k := 57) (l1 := 0) (h1 := 4294967295) (l2 := 0) (h2 := 4294967295) (l3 := 0) (h3 := 4294967295) (l4 := 0) (h4 := 4294967295) (l5 := 0) (h5 := 4294967295) (by decide +kernel) (by decide +kernel) hk ⟨⟨by omega, by omega⟩, ⟨by omega, by omega⟩, ⟨by omega, by omega⟩, ⟨by omega, by omega⟩, by omega, by omega⟩, bx_57_0⟩
theorem cov_58 {xs : Nat → Int32} (hk : iEx (xs 0 &&& 63) = 58 + 2147483648) : Cov xs := by
  have z1 := iEx_lt (xs 1)
  have z2 := iEx_lt (xs 2)
  have z3 := iEx_lt (xs 3)
  have z4 := iEx_lt (xs 4)
  have z5 := iEx_lt (xs 5)
  exact ⟨BX_58_0, vr6 (k := 58) (l1 := 0) (h1 := 4294967295) (l2 := 0) (h2 := 4294967295) (l3 := 0) (h3 := 4294967295) (l4 := 0) (h4 := 4294967295) (l5 := 0) (h5 := 4294967295) (by decide +kernel) (by decide +kernel) hk ⟨⟨by omega, by omega⟩, ⟨by omega, by omega⟩, ⟨by omega, by omega⟩, ⟨by omega, by omega⟩, by omega, by omega⟩, bx_58_0⟩
theorem cov_59 {xs : Nat → Int32} (hk : iEx (xs 0 &&& 63) = 59 + 2147483648) : Cov xs := by
  have z1 := iEx_lt (xs 1)
  have z2 := iEx_lt (xs 2)
  have z3 := iEx_lt (xs 3)
  have z4 := iEx_lt (xs 4)
  have z5 := iEx_lt (xs 5)
  exact ⟨BX_59_0, vr6 (k := 59) (l1 := 0) (h1 := 4294967295) (l2 := 0) (h2 := 4294967295) (l3 := 0) (h3 := 4294967295) (l4 := 0) (h4 := 4294967295) (l5 := 0) (h5 := 4294967295) (by decide +kernel) (by decide +kernel) hk ⟨⟨by omega, by omega⟩, ⟨by omega, by omega⟩, ⟨by omega, by omega⟩, ⟨by omega, by omega⟩, by omega, by omega⟩, bx_59_0⟩
theorem cov_60 {xs : Nat → Int32} (hk : iEx (xs 0 &&& 63) = 60 + 2147483648) : Cov xs := by
  have z1 := iEx_lt (xs 1)
  have z2 := iEx_lt (xs 2)
  have z3 := iEx_lt (xs 3)
  have z4 := iEx_lt (xs 4)
  have z5 := iEx_lt (xs 5)
  exact ⟨BX_60_0, vr6 (k := 60) (l1 := 0) (h1 := 4294967295) (l2 := 0) (h2 := 4294967295) (l3 := 0) (h3 := 4294967295) (l4 := 0) (h4 := 4294967295) (l5 := 0) (h5 := 4294967295) (by decide +kernel) (by decide +kernel) hk ⟨⟨by omega, by omega⟩, ⟨by omega, by omega⟩, ⟨by omega, by omega⟩, ⟨by omega, by omega⟩, by omega, by omega⟩, bx_60_0⟩
theorem cov_61 {xs : Nat → Int32} (hk : iEx (xs 0 &&& 63) = 61 + 2147483648) : Cov xs := by
  have z1 := iEx_lt (xs 1)
  have z2 := iEx_lt (xs 2)
  have z3 := iEx_lt (xs 3)
  have z4 := iEx_lt (xs 4)
  have z5 := iEx_lt (xs 5)
  exact ⟨BX_61_0, vr6 (k := 61) (l1 := 0) (h1 := 4294967295) (l2 := 0) (h2 := 4294967295) (l3 := 0) (h3 := 4294967295) (l4 := 0) (h4 := 4294967295) (l5 := 0) (h5 := 4294967295) (by decide +kernel) (by decide +kernel) hk ⟨⟨by omega, by omega⟩, ⟨by omega, by omega⟩, ⟨by omega, by omega⟩, ⟨by omega, by omega⟩, by omega, by omega⟩, bx_61_0⟩
theorem cov_62 {xs : Nat → Int32} (hk : iEx (xs 0 &&& 63) = 62 + 2147483648) : Cov xs := by
  have z1 := iEx_lt (xs 1)
  have z2 := iEx_lt (xs 2)
  have z3 := iEx_lt (xs 3)
  have z4 := iEx_lt (xs 4)
  have z5 := iEx_lt (xs 5)
  exact ⟨BX_62_0, vr6 (k := 62) (l1 := 0) (h1 := 4294967295) (l2 := 0) (h2 := 4294967295) (l3 := 0) (h3 := 4294967295) (l4 := 0) (h4 := 4294967295) (l5 := 0) (h5 := 4294967295) (by decide +kernel) (by decide +kernel) hk ⟨⟨by omega, by omega⟩, ⟨by omega, by omega⟩, ⟨by omega, by omega⟩, ⟨by omega, by omega⟩, by omega, by omega⟩, bx_62_0⟩
theorem cov_63 {xs : Nat → Int32} (hk : iEx (xs 0 &&& 63) = 63 + 2147483648) : Cov xs := by
  have z1 := iEx_lt (xs 1)
  have z2 := iEx_lt (xs 2)
  have z3 := iEx_lt (xs 3)
  have z4 := iEx_lt (xs 4)
  have z5 := iEx_lt (xs 5)
  exact ⟨BX_63_0, vr6 (k := 63) (l1 := 0) (h1 := 4294967295) (l2 := 0) (h2 := 4294967295) (l3 := 0) (h3 := 4294967295) (l4 := 0) (h4 := 4294967295) (l5 := 0) (h5 := 4294967295) (by decide +kernel) (by decide +kernel) hk ⟨⟨by omega, by omega⟩, ⟨by omega, by omega⟩, ⟨by omega, by omega⟩, ⟨by omega, by omega⟩, by omega, by omega⟩, bx_63_0⟩
