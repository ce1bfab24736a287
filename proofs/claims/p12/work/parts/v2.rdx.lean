/-! The reference reads, exactly. -/
/-- the reference while it reads: text, length, place, whether it is bad, the error told, where the last number stood -/
def PSX (hs : List CE) (tx : Nat → Int) (L A b ec ep na : Int) : Prop := RW hs ∧ IArr hs 130 700 tx ∧ (∃ x : Int32, rd hs 124 10 = .int x ∧ x.toInt = L) ∧ (∃ x : Int32, rd hs 124 11 = .int x ∧ x.toInt = A) ∧ (∃ x : Int32, rd hs 124 14 = .int x ∧ x.toInt = b) ∧
  (∃ x : Int32, rd hs 124 12 = .int x ∧ x.toInt = ec) ∧ (∃ x : Int32, rd hs 124 13 = .int x ∧ x.toInt = ep) ∧ (∃ x : Int32, rd hs 124 15 = .int x ∧ x.toInt = na) ∧ 0 ≤ L ∧ L ≤ 700 ∧ 0 ≤ A ∧ A ≤ L + b ∧ 0 ≤ b ∧ b ≤ 1
theorem txn (tx : Nat → Int) {A : Int} {j : Nat} (h : A = (j : Int)) : tx A.toNat = tx j := by
  rw [h]
  rfl
/-- what a step of the reading leaves: what was bad stays as it was; else r says it: its code (0: none), the next token or the error's place -/
def RB (tx : Nat → Int) (L b ec ep : Int) (r : Int × Int) (A2 b2 ec2 ep2 : Int) : Prop := (b = 1 → b2 = 1 ∧ ec2 = ec ∧ ep2 = ep) ∧ (b = 0 → (r.1 = 0 ∧ b2 = 0 ∧ ec2 = ec ∧ ep2 = ep ∧ skp tx L A2 = r.2) ∨ (r.1 ≠ 0 ∧ b2 = 1 ∧ ec2 = r.1 ∧ ep2 = r.2))

section PARX1
variable {g0 : GG} {bl : Nat} {xs : Nat → Int32} {l : Launch} {hs : List CE} {tx : Nat → Int} {L A b ec ep na : Int}

theorem bx_here (hP : PSX hs tx L A b ec ep na) : BodyN SSX TBL g0 CLS bl xs l D_216 0 0 0 0 [.ref 124] hs (fun kd r h2 => kd = 0 ∧ ∃ (A2 : Int) (x : Int32), r = some (.int x) ∧ PSX h2 tx L A2 b ec ep na ∧ FrS WP hs h2 ∧ A2 = skp tx L A ∧ A ≤ A2 ∧ (A ≤ L → A2 ≤ L) ∧ ((x.toInt = -1 ∧ L ≤ A2) ∨ (A2 < L ∧ x.toInt = tx A2.toNat))) := by
  intro wp p e R s m args below meth c Q kc0 ks0 kc ks act hf hl hc hsl hEnd
  have hf : 0 ≤ R.frames := hf
  have hl : 0 ≤ R.locals := hl
  have hk1 : kc ≤ kc + 0 := by omega
  have hk2 : ks ≤ ks + 0 := by omega
  have loop : ∀ (hj : List CE) (Aj : Int), PSX hj tx L Aj b ec ep na → FrS WP hs hj → A ≤ Aj → (A ≤ L → Aj ≤ L) → skp tx L A = skp tx L Aj → WpN (gp g0 wp) CLS p l e R s m args below meth c Q D_216.2.2.1 kc0 ks0 0 [some (.ref 124)] (hj, kc, ks) [] := by
    intro hj Aj hPj hfr hAj hAL hsk
    generalize hm : (L - Aj).toNat = m9
    induction m9 using Nat.strongRecOn generalizing hj Aj with
    | _ m9 ih =>
    subst hm
    obtain ⟨rw_1, hT_1, ⟨L9_1, e10_1, hL_1⟩, ⟨A9_1, e11_1, hA_1⟩, ⟨b9_1, e14_1, hb_1⟩, ⟨c9_1, e12_1, hc_1⟩, ⟨d9_1, e13_1, hd_1⟩, ⟨f9_1, e15_1, hn_1⟩, q1_1, q2_1, q3_1, q4_1, q5_1, q6_1⟩ := hPj
    refine g_loadA act (gx gp_216 (w := 0x103) rfl (by decide) rfl) (a := 0) (n := 1) rfl rfl rfl ?_
    refine r_getf act (gx gp_216 (w := 0x2c9000404) rfl (by decide) rfl) (n := 4) (ci := 9) (j := 11) (N := 39) rfl rfl rfl rw_1.1 (by decide) (v := .int A9_1) e11_1 ?_
    refine g_loadA act (gx gp_216 (w := 0x503) rfl (by decide) rfl) (a := 0) (n := 5) rfl rfl rfl ?_
    refine r_getf act (gx gp_216 (w := 0x289000804) rfl (by decide) rfl) (n := 8) (ci := 9) (j := 10) (N := 39) rfl rfl rfl rw_1.1 (by decide) (v := .int L9_1) e10_1 ?_
    refine g_icmpGe act (gx gp_216 (w := 0x34000b08) rfl (by decide) rfl) (tgt := 52) (n := 11) rfl rfl (fun h3 => ?_) (fun h3 => ?_)
    · simp only [i_le] at h3
      refine g_loadA act (gx gp_216 (w := 0x3503) rfl (by decide) rfl) (a := 0) (n := 53) rfl rfl rfl ?_
      refine r_getf act (gx gp_216 (w := 0x2c9003804) rfl (by decide) rfl) (n := 56) (ci := 9) (j := 11) (N := 39) rfl rfl rfl rw_1.1 (by decide) (v := .int A9_1) e11_1 ?_
      refine g_loadA act (gx gp_216 (w := 0x3903) rfl (by decide) rfl) (a := 0) (n := 57) rfl rfl rfl ?_
      refine r_getf act (gx gp_216 (w := 0x289003c04) rfl (by decide) rfl) (n := 60) (ci := 9) (j := 10) (N := 39) rfl rfl rfl rw_1.1 (by decide) (v := .int L9_1) e10_1 ?_
      refine g_icmpGe act (gx gp_216 (w := 0x4b003f08) rfl (by decide) rfl) (tgt := 75) (n := 63) rfl rfl (fun h6 => ?_) (fun h6 => ?_)
      · simp only [i_le] at h6
        refine g_constI act (gx gp_216 (w := 0x3fffffffbfffffff9000000004c01) rfl (by decide) rfl) (n := 76) (x := (-1 : Int32)) (by decide) rfl ?_
        have z1 : skp tx L Aj = Aj := skp_no (by omega)
        exact g_retI hEnd (gx gp_216 (w := 0x2f) rfl (by decide) rfl) ⟨rfl, Aj, _, rfl, (show PSX hj tx L Aj b ec ep na from ⟨rw_1, hT_1, ⟨_, e10_1, hL_1⟩, ⟨_, e11_1, hA_1⟩, ⟨_, e14_1, hb_1⟩, ⟨_, e12_1, hc_1⟩, ⟨_, e13_1, hd_1⟩, ⟨_, e15_1, hn_1⟩, by omega, by omega, by omega, by omega, by omega, by omega⟩), hfr, by omega, by omega, by omega, Or.inl ⟨by decide, by omega⟩⟩ hk1 hk2
      · simp only [i_le] at h6
        refine g_loadA act (gx gp_216 (w := 0x4003) rfl (by decide) rfl) (a := 0) (n := 64) rfl rfl rfl ?_
        refine r_getf act (gx gp_216 (w := 0x3000249004304) rfl (by decide) rfl) (n := 67) (ci := 9) (j := 9) (N := 39) rfl rfl rfl rw_1.1 (by decide) (rw_1.2 (9, 130, 32, 700) (by decide)).1 ?_
        refine g_loadA act (gx gp_216 (w := 0x4403) rfl (by decide) rfl) (a := 0) (n := 68) rfl rfl rfl ?_
        refine r_getf act (gx gp_216 (w := 0x2c9004704) rfl (by decide) rfl) (n := 71) (ci := 9) (j := 11) (N := 39) rfl rfl rfl rw_1.1 (by decide) (v := .int A9_1) e11_1 ?_
        obtain ⟨j_2, hj_3⟩ := Int.eq_ofNat_of_zero_le (show (0 : Int) ≤ Aj by omega)
        have ht_j_2 := txn tx hj_3
        obtain ⟨x_4, e_5, hx_6⟩ := hT_1 j_2 (by omega)
        refine r_iald act (gx gp_216 (w := 0x481a) rfl (by decide) rfl) (n := 72) (j := j_2) rfl (rw_1.2 (9, 130, 32, 700) (by decide)).2 (hA_1.trans hj_3) (show j_2 < 700 by omega) (v := .int x_4) e_5 ?_
        refine g_goto act (gx gp_216 (w := 0x4c07) rfl (by decide) rfl) (n := 76) rfl ?_
        have z1 : skp tx L Aj = Aj := skp_no (by omega)
        exact g_retI hEnd (gx gp_216 (w := 0x2f) rfl (by decide) rfl) ⟨rfl, ((j_2 : Nat) : Int), _, rfl, (show PSX hj tx L ((j_2 : Nat) : Int) b ec ep na from ⟨rw_1, hT_1, ⟨_, e10_1, hL_1⟩, ⟨_, e11_1, (hA_1.trans hj_3)⟩, ⟨_, e14_1, hb_1⟩, ⟨_, e12_1, hc_1⟩, ⟨_, e13_1, hd_1⟩, ⟨_, e15_1, hn_1⟩, by omega, by omega, by omega, by omega, by omega, by omega⟩), hfr, by omega, by omega, by omega, Or.inr ⟨by omega, by rw [hx_6]; rfl⟩⟩ hk1 hk2
    · simp only [i_le] at h3
      refine g_loadA act (gx gp_216 (w := 0xc03) rfl (by decide) rfl) (a := 0) (n := 12) rfl rfl rfl ?_
      refine r_getf act (gx gp_216 (w := 0x3000249000f04) rfl (by decide) rfl) (n := 15) (ci := 9) (j := 9) (N := 39) rfl rfl rfl rw_1.1 (by decide) (rw_1.2 (9, 130, 32, 700) (by decide)).1 ?_
      refine g_loadA act (gx gp_216 (w := 0x1003) rfl (by decide) rfl) (a := 0) (n := 16) rfl rfl rfl ?_
      refine r_getf act (gx gp_216 (w := 0x2c9001304) rfl (by decide) rfl) (n := 19) (ci := 9) (j := 11) (N := 39) rfl rfl rfl rw_1.1 (by decide) (v := .int A9_1) e11_1 ?_
      obtain ⟨j_7, hj_8⟩ := Int.eq_ofNat_of_zero_le (show (0 : Int) ≤ Aj by omega)
      have ht_j_7 := txn tx hj_8
      obtain ⟨x_9, e_10, hx_11⟩ := hT_1 j_7 (by omega)
      refine r_iald act (gx gp_216 (w := 0x141a) rfl (by decide) rfl) (n := 20) (j := j_7) rfl (rw_1.2 (9, 130, 32, 700) (by decide)).2 (hA_1.trans hj_8) (show j_7 < 700 by omega) (v := .int x_9) e_10 ?_
      refine g_constI act (gx gp_216 (w := 0x40000010400000101000000001601) rfl (by decide) rfl) (n := 22) (x := (32 : Int32)) (by decide) rfl ?_
      refine g_icmpEq act (gx gp_216 (w := 0x2700192e) rfl (by decide) rfl) (tgt := 39) (n := 25) rfl rfl (fun h14 => ?_) (fun h14 => ?_)
      · simp only [i_eq, show (32 : Int32).toInt = 32 from by decide] at h14
        refine g_loadA act (gx gp_216 (w := 0x2803) rfl (by decide) rfl) (a := 0) (n := 40) rfl rfl rfl ?_
        refine g_dup act (gx gp_216 (w := 0x2922) rfl (by decide) rfl) (n := 41) rfl rfl ?_
        refine r_getf act (gx gp_216 (w := 0x2c9002c04) rfl (by decide) rfl) (n := 44) (ci := 9) (j := 11) (N := 39) rfl rfl rfl rw_1.1 (by decide) (v := .int A9_1) e11_1 ?_
        refine g_constI act (gx gp_216 (w := 0x40000000c00000009000000002d01) rfl (by decide) rfl) (n := 45) (x := (1 : Int32)) (by decide) rfl ?_
        refine g_iadd act (gx gp_216 (w := 0x2e0a) rfl (by decide) rfl) (n := 46) rfl ?_
        have v_12 := iv_addN (hA_1.trans hj_8) (show (1 : Int32).toInt = ((1 : Nat) : Int) from by decide) (show (j_7 + 1) < 2147483648 by omega)
        refine r_putf act (gx gp_216 (w := 0x2c9003113) rfl (by decide) rfl) (n := 49) (ci := 9) (j := 11) (N := 39) rfl rfl rfl rw_1.1 (by decide) (Or.inl ⟨rfl, _, rfl⟩) ?_
        have rw_13 := RW.wr (k := 124) (j := 11) (v := .int (A9_1 + (1 : Int32))) rw_1 (Or.inr (by decide))
        have f_14 := hT_1.ne (k := 124) (j := 11) (v := .int (A9_1 + (1 : Int32))) (by decide)
        have f_15 := (rd_ne hj (k := 124) (j := 11) (.int (A9_1 + (1 : Int32))) (Or.inr (by decide))).trans e10_1
        have f_17 := (rd_ne hj (k := 124) (j := 11) (.int (A9_1 + (1 : Int32))) (Or.inr (by decide))).trans e14_1
        have f_18 := (rd_ne hj (k := 124) (j := 11) (.int (A9_1 + (1 : Int32))) (Or.inr (by decide))).trans e12_1
        have f_19 := (rd_ne hj (k := 124) (j := 11) (.int (A9_1 + (1 : Int32))) (Or.inr (by decide))).trans e13_1
        have f_20 := (rd_ne hj (k := 124) (j := 11) (.int (A9_1 + (1 : Int32))) (Or.inr (by decide))).trans e15_1
        have f_21 := rd_same (j := 11) (v := .int (A9_1 + (1 : Int32))) rw_1.1
        have fr_22 := hfr.wr (k := 124) (j := 11) (.int (A9_1 + (1 : Int32))) (by unfold WP; omega)
        clear rw_1 hfr hT_1 e10_1 e11_1 e14_1 e12_1 e13_1 e15_1
        generalize (wr hj 124 11 (.int (A9_1 + (1 : Int32)))) = hs_23 at *
        refine g_goto act (gx gp_216 (w := 0x7) rfl (by decide) rfl) (n := 0) rfl ?_
        exact ih _ (by omega) _ _ (show PSX hs_23 tx L (((j_7 + 1) : Nat) : Int) b ec ep na from ⟨rw_13, f_14, ⟨_, f_15, hL_1⟩, ⟨_, f_21, v_12⟩, ⟨_, f_17, hb_1⟩, ⟨_, f_18, hc_1⟩, ⟨_, f_19, hd_1⟩, ⟨_, f_20, hn_1⟩, by omega, by omega, by omega, by omega, by omega, by omega⟩) fr_22 (by omega) (by omega) (hsk.trans ((skp_go (by omega) (by omega)).trans (congrArg (skp tx L) (by omega)))) rfl
      · simp only [i_eq, show (32 : Int32).toInt = 32 from by decide] at h14
        refine g_loadA act (gx gp_216 (w := 0x1a03) rfl (by decide) rfl) (a := 0) (n := 26) rfl rfl rfl ?_
        refine r_getf act (gx gp_216 (w := 0x3000249001d04) rfl (by decide) rfl) (n := 29) (ci := 9) (j := 9) (N := 39) rfl rfl rfl rw_1.1 (by decide) (rw_1.2 (9, 130, 32, 700) (by decide)).1 ?_
        refine g_loadA act (gx gp_216 (w := 0x1e03) rfl (by decide) rfl) (a := 0) (n := 30) rfl rfl rfl ?_
        refine r_getf act (gx gp_216 (w := 0x2c9002104) rfl (by decide) rfl) (n := 33) (ci := 9) (j := 11) (N := 39) rfl rfl rfl rw_1.1 (by decide) (v := .int A9_1) e11_1 ?_
        obtain ⟨x_24, e_25, hx_26⟩ := hT_1 j_7 (by omega)
        refine r_iald act (gx gp_216 (w := 0x221a) rfl (by decide) rfl) (n := 34) (j := j_7) rfl (rw_1.2 (9, 130, 32, 700) (by decide)).2 (hA_1.trans hj_8) (show j_7 < 700 by omega) (v := .int x_24) e_25 ?_
        refine g_constI act (gx gp_216 (w := 0x40000005400000051000000002401) rfl (by decide) rfl) (n := 36) (x := (10 : Int32)) (by decide) rfl ?_
        refine g_icmpNe act (gx gp_216 (w := 0x34002721) rfl (by decide) rfl) (tgt := 52) (n := 39) rfl rfl (fun h22 => ?_) (fun h22 => ?_)
        · simp only [i_eq, show (10 : Int32).toInt = 10 from by decide] at h22
          refine g_loadA act (gx gp_216 (w := 0x3503) rfl (by decide) rfl) (a := 0) (n := 53) rfl rfl rfl ?_
          refine r_getf act (gx gp_216 (w := 0x2c9003804) rfl (by decide) rfl) (n := 56) (ci := 9) (j := 11) (N := 39) rfl rfl rfl rw_1.1 (by decide) (v := .int A9_1) e11_1 ?_
          refine g_loadA act (gx gp_216 (w := 0x3903) rfl (by decide) rfl) (a := 0) (n := 57) rfl rfl rfl ?_
          refine r_getf act (gx gp_216 (w := 0x289003c04) rfl (by decide) rfl) (n := 60) (ci := 9) (j := 10) (N := 39) rfl rfl rfl rw_1.1 (by decide) (v := .int L9_1) e10_1 ?_
          refine g_icmpGe act (gx gp_216 (w := 0x4b003f08) rfl (by decide) rfl) (tgt := 75) (n := 63) rfl rfl (fun h25 => ?_) (fun h25 => ?_)
          · simp only [i_le] at h25
            refine g_constI act (gx gp_216 (w := 0x3fffffffbfffffff9000000004c01) rfl (by decide) rfl) (n := 76) (x := (-1 : Int32)) (by decide) rfl ?_
            have z1 : skp tx L Aj = Aj := skp_no (by omega)
            exact g_retI hEnd (gx gp_216 (w := 0x2f) rfl (by decide) rfl) ⟨rfl, ((j_7 : Nat) : Int), _, rfl, (show PSX hj tx L ((j_7 : Nat) : Int) b ec ep na from ⟨rw_1, hT_1, ⟨_, e10_1, hL_1⟩, ⟨_, e11_1, (hA_1.trans hj_8)⟩, ⟨_, e14_1, hb_1⟩, ⟨_, e12_1, hc_1⟩, ⟨_, e13_1, hd_1⟩, ⟨_, e15_1, hn_1⟩, by omega, by omega, by omega, by omega, by omega, by omega⟩), hfr, by omega, by omega, by omega, Or.inl ⟨by decide, by omega⟩⟩ hk1 hk2
          · simp only [i_le] at h25
            refine g_loadA act (gx gp_216 (w := 0x4003) rfl (by decide) rfl) (a := 0) (n := 64) rfl rfl rfl ?_
            refine r_getf act (gx gp_216 (w := 0x3000249004304) rfl (by decide) rfl) (n := 67) (ci := 9) (j := 9) (N := 39) rfl rfl rfl rw_1.1 (by decide) (rw_1.2 (9, 130, 32, 700) (by decide)).1 ?_
            refine g_loadA act (gx gp_216 (w := 0x4403) rfl (by decide) rfl) (a := 0) (n := 68) rfl rfl rfl ?_
            refine r_getf act (gx gp_216 (w := 0x2c9004704) rfl (by decide) rfl) (n := 71) (ci := 9) (j := 11) (N := 39) rfl rfl rfl rw_1.1 (by decide) (v := .int A9_1) e11_1 ?_
            obtain ⟨x_27, e_28, hx_29⟩ := hT_1 j_7 (by omega)
            refine r_iald act (gx gp_216 (w := 0x481a) rfl (by decide) rfl) (n := 72) (j := j_7) rfl (rw_1.2 (9, 130, 32, 700) (by decide)).2 (hA_1.trans hj_8) (show j_7 < 700 by omega) (v := .int x_27) e_28 ?_
            refine g_goto act (gx gp_216 (w := 0x4c07) rfl (by decide) rfl) (n := 76) rfl ?_
            have z1 : skp tx L Aj = Aj := skp_no (by omega)
            exact g_retI hEnd (gx gp_216 (w := 0x2f) rfl (by decide) rfl) ⟨rfl, ((j_7 : Nat) : Int), _, rfl, (show PSX hj tx L ((j_7 : Nat) : Int) b ec ep na from ⟨rw_1, hT_1, ⟨_, e10_1, hL_1⟩, ⟨_, e11_1, (hA_1.trans hj_8)⟩, ⟨_, e14_1, hb_1⟩, ⟨_, e12_1, hc_1⟩, ⟨_, e13_1, hd_1⟩, ⟨_, e15_1, hn_1⟩, by omega, by omega, by omega, by omega, by omega, by omega⟩), hfr, by omega, by omega, by omega, Or.inr ⟨by omega, by rw [hx_29]; rfl⟩⟩ hk1 hk2
        · simp only [i_eq, show (10 : Int32).toInt = 10 from by decide] at h22
          refine g_loadA act (gx gp_216 (w := 0x2803) rfl (by decide) rfl) (a := 0) (n := 40) rfl rfl rfl ?_
          refine g_dup act (gx gp_216 (w := 0x2922) rfl (by decide) rfl) (n := 41) rfl rfl ?_
          refine r_getf act (gx gp_216 (w := 0x2c9002c04) rfl (by decide) rfl) (n := 44) (ci := 9) (j := 11) (N := 39) rfl rfl rfl rw_1.1 (by decide) (v := .int A9_1) e11_1 ?_
          refine g_constI act (gx gp_216 (w := 0x40000000c00000009000000002d01) rfl (by decide) rfl) (n := 45) (x := (1 : Int32)) (by decide) rfl ?_
          refine g_iadd act (gx gp_216 (w := 0x2e0a) rfl (by decide) rfl) (n := 46) rfl ?_
          have v_30 := iv_addN (hA_1.trans hj_8) (show (1 : Int32).toInt = ((1 : Nat) : Int) from by decide) (show (j_7 + 1) < 2147483648 by omega)
          refine r_putf act (gx gp_216 (w := 0x2c9003113) rfl (by decide) rfl) (n := 49) (ci := 9) (j := 11) (N := 39) rfl rfl rfl rw_1.1 (by decide) (Or.inl ⟨rfl, _, rfl⟩) ?_
          have rw_31 := RW.wr (k := 124) (j := 11) (v := .int (A9_1 + (1 : Int32))) rw_1 (Or.inr (by decide))
          have f_32 := hT_1.ne (k := 124) (j := 11) (v := .int (A9_1 + (1 : Int32))) (by decide)
          have f_33 := (rd_ne hj (k := 124) (j := 11) (.int (A9_1 + (1 : Int32))) (Or.inr (by decide))).trans e10_1
          have f_35 := (rd_ne hj (k := 124) (j := 11) (.int (A9_1 + (1 : Int32))) (Or.inr (by decide))).trans e14_1
          have f_36 := (rd_ne hj (k := 124) (j := 11) (.int (A9_1 + (1 : Int32))) (Or.inr (by decide))).trans e12_1
          have f_37 := (rd_ne hj (k := 124) (j := 11) (.int (A9_1 + (1 : Int32))) (Or.inr (by decide))).trans e13_1
          have f_38 := (rd_ne hj (k := 124) (j := 11) (.int (A9_1 + (1 : Int32))) (Or.inr (by decide))).trans e15_1
          have f_39 := rd_same (j := 11) (v := .int (A9_1 + (1 : Int32))) rw_1.1
          have fr_40 := hfr.wr (k := 124) (j := 11) (.int (A9_1 + (1 : Int32))) (by unfold WP; omega)
          clear rw_1 hfr hT_1 e10_1 e11_1 e14_1 e12_1 e13_1 e15_1
          generalize (wr hj 124 11 (.int (A9_1 + (1 : Int32)))) = hs_41 at *
          refine g_goto act (gx gp_216 (w := 0x7) rfl (by decide) rfl) (n := 0) rfl ?_
          exact ih _ (by omega) _ _ (show PSX hs_41 tx L (((j_7 + 1) : Nat) : Int) b ec ep na from ⟨rw_31, f_32, ⟨_, f_33, hL_1⟩, ⟨_, f_39, v_30⟩, ⟨_, f_35, hb_1⟩, ⟨_, f_36, hc_1⟩, ⟨_, f_37, hd_1⟩, ⟨_, f_38, hn_1⟩, by omega, by omega, by omega, by omega, by omega, by omega⟩) fr_40 (by omega) (by omega) (hsk.trans ((skp_go (by omega) (by omega)).trans (congrArg (skp tx L) (by omega)))) rfl
  exact loop hs A hP (FrS.rf WP hs) (by omega) (by omega) rfl

theorem bx_wrong {c1 c2 : Int32} (hP : PSX hs tx L A b ec ep na) : BodyN SSX TBL g0 CLS bl xs l D_289 0 0 0 0 [.ref 124, .int c1, .int c2] hs (fun kd r h2 => kd = 0 ∧ ∃ b2 ec2 ep2 : Int, PSX h2 tx L A b2 ec2 ep2 na ∧ FrS WP hs h2 ∧ b2 = 1 ∧ (b = 1 → ec2 = ec ∧ ep2 = ep) ∧ (b = 0 → ec2 = c1.toInt ∧ ep2 = c2.toInt)) := by
  intro wp p e R s m args below meth c Q kc0 ks0 kc ks act hf hl hc hsl hEnd
  have hf : 0 ≤ R.frames := hf
  have hl : 0 ≤ R.locals := hl
  obtain ⟨rw_1, hT_1, ⟨L9_1, e10_1, hL_1⟩, ⟨A9_1, e11_1, hA_1⟩, ⟨b9_1, e14_1, hb_1⟩, ⟨c9_1, e12_1, hc_1⟩, ⟨d9_1, e13_1, hd_1⟩, ⟨f9_1, e15_1, hn_1⟩, q1_1, q2_1, q3_1, q4_1, q5_1, q6_1⟩ := hP
  have hfr0 := FrS.rf WP hs
  show WpN (gp g0 wp) CLS p l e R s m args below meth c Q D_289.2.2.1 kc0 ks0 0 [some (.ref 124), some (.int c1), some (.int c2)] (hs, kc, ks) []
  refine g_loadA act (gx gp_289 (w := 0x103) rfl (by decide) rfl) (a := 0) (n := 1) rfl rfl rfl ?_
  refine r_getf act (gx gp_289 (w := 0x1000389000404) rfl (by decide) rfl) (n := 4) (ci := 9) (j := 14) (N := 39) rfl rfl rfl rw_1.1 (by decide) (v := .int b9_1) e14_1 ?_
  refine g_ifEq act (gx gp_289 (w := 0x800070e) rfl (by decide) rfl) (tgt := 8) (n := 7) rfl rfl (fun h2 => ?_) (fun h2 => ?_)
  · simp only [i_eq, i0] at h2
    refine g_loadA act (gx gp_289 (w := 0x903) rfl (by decide) rfl) (a := 0) (n := 9) rfl rfl rfl ?_
    refine g_constI act (gx gp_289 (w := 0x40000000c00000009000000000a01) rfl (by decide) rfl) (n := 10) (x := (1 : Int32)) (by decide) rfl ?_
    refine r_putf act (gx gp_289 (w := 0x1000389000d13) rfl (by decide) rfl) (n := 13) (ci := 9) (j := 14) (N := 39) rfl rfl rfl rw_1.1 (by decide) (Or.inr (Or.inl ⟨rfl, Or.inr rfl⟩)) ?_
    have rw_2 := RW.wr (k := 124) (j := 14) (v := .int (1 : Int32)) rw_1 (Or.inr (by decide))
    have f_3 := hT_1.ne (k := 124) (j := 14) (v := .int (1 : Int32)) (by decide)
    have f_4 := (rd_ne hs (k := 124) (j := 14) (.int (1 : Int32)) (Or.inr (by decide))).trans e10_1
    have f_5 := (rd_ne hs (k := 124) (j := 14) (.int (1 : Int32)) (Or.inr (by decide))).trans e11_1
    have f_7 := (rd_ne hs (k := 124) (j := 14) (.int (1 : Int32)) (Or.inr (by decide))).trans e12_1
    have f_8 := (rd_ne hs (k := 124) (j := 14) (.int (1 : Int32)) (Or.inr (by decide))).trans e13_1
    have f_9 := (rd_ne hs (k := 124) (j := 14) (.int (1 : Int32)) (Or.inr (by decide))).trans e15_1
    have f_10 := rd_same (j := 14) (v := .int (1 : Int32)) rw_1.1
    have fr_11 := hfr0.wr (k := 124) (j := 14) (.int (1 : Int32)) (by unfold WP; omega)
    clear rw_1 hfr0 hT_1 e10_1 e11_1 e14_1 e12_1 e13_1 e15_1
    generalize (wr hs 124 14 (.int (1 : Int32))) = hs_12 at *
    refine g_loadA act (gx gp_289 (w := 0xe03) rfl (by decide) rfl) (a := 0) (n := 14) rfl rfl rfl ?_
    refine g_loadI act (gx gp_289 (w := 0x1000f02) rfl (by decide) rfl) (a := 1) (n := 15) rfl rfl rfl ?_
    refine r_putf act (gx gp_289 (w := 0x309001213) rfl (by decide) rfl) (n := 18) (ci := 9) (j := 12) (N := 39) rfl rfl rfl rw_2.1 (by decide) (Or.inl ⟨rfl, _, rfl⟩) ?_
    have rw_13 := RW.wr (k := 124) (j := 12) (v := .int c1) rw_2 (Or.inr (by decide))
    have f_14 := f_3.ne (k := 124) (j := 12) (v := .int c1) (by decide)
    have f_15 := (rd_ne hs_12 (k := 124) (j := 12) (.int c1) (Or.inr (by decide))).trans f_4
    have f_16 := (rd_ne hs_12 (k := 124) (j := 12) (.int c1) (Or.inr (by decide))).trans f_5
    have f_18 := (rd_ne hs_12 (k := 124) (j := 12) (.int c1) (Or.inr (by decide))).trans f_8
    have f_19 := (rd_ne hs_12 (k := 124) (j := 12) (.int c1) (Or.inr (by decide))).trans f_9
    have f_20 := (rd_ne hs_12 (k := 124) (j := 12) (.int c1) (Or.inr (by decide))).trans f_10
    have f_21 := rd_same (j := 12) (v := .int c1) rw_2.1
    have fr_22 := fr_11.wr (k := 124) (j := 12) (.int c1) (by unfold WP; omega)
    clear rw_2 fr_11 f_3 f_4 f_5 f_7 f_8 f_9 f_10
    generalize (wr hs_12 124 12 (.int c1)) = hs_23 at *
    refine g_loadA act (gx gp_289 (w := 0x1303) rfl (by decide) rfl) (a := 0) (n := 19) rfl rfl rfl ?_
    refine g_loadI act (gx gp_289 (w := 0x2001402) rfl (by decide) rfl) (a := 2) (n := 20) rfl rfl rfl ?_
    refine r_putf act (gx gp_289 (w := 0x349001713) rfl (by decide) rfl) (n := 23) (ci := 9) (j := 13) (N := 39) rfl rfl rfl rw_13.1 (by decide) (Or.inl ⟨rfl, _, rfl⟩) ?_
    have rw_24 := RW.wr (k := 124) (j := 13) (v := .int c2) rw_13 (Or.inr (by decide))
    have f_25 := f_14.ne (k := 124) (j := 13) (v := .int c2) (by decide)
    have f_26 := (rd_ne hs_23 (k := 124) (j := 13) (.int c2) (Or.inr (by decide))).trans f_15
    have f_27 := (rd_ne hs_23 (k := 124) (j := 13) (.int c2) (Or.inr (by decide))).trans f_16
    have f_29 := (rd_ne hs_23 (k := 124) (j := 13) (.int c2) (Or.inr (by decide))).trans f_19
    have f_30 := (rd_ne hs_23 (k := 124) (j := 13) (.int c2) (Or.inr (by decide))).trans f_20
    have f_31 := (rd_ne hs_23 (k := 124) (j := 13) (.int c2) (Or.inr (by decide))).trans f_21
    have f_32 := rd_same (j := 13) (v := .int c2) rw_13.1
    have fr_33 := fr_22.wr (k := 124) (j := 13) (.int c2) (by unfold WP; omega)
    clear rw_13 fr_22 f_14 f_15 f_16 f_18 f_19 f_20 f_21
    generalize (wr hs_23 124 13 (.int c2)) = hs_34 at *
    exact g_retV hEnd (gx gp_289 (w := 0x18) rfl (by decide) rfl) ⟨rfl, ((1 : Nat) : Int), (Int32.toInt c1), (Int32.toInt c2), (show PSX hs_34 tx L A ((1 : Nat) : Int) (Int32.toInt c1) (Int32.toInt c2) na from ⟨rw_24, f_25, ⟨_, f_26, hL_1⟩, ⟨_, f_27, hA_1⟩, ⟨_, f_30, (show (1 : Int32).toInt = ((1 : Nat) : Int) from by decide)⟩, ⟨_, f_31, (rfl : Int32.toInt c1 = _)⟩, ⟨_, f_32, (rfl : Int32.toInt c2 = _)⟩, ⟨_, f_29, hn_1⟩, by omega, by omega, by omega, by omega, by omega, by omega⟩), fr_33, by omega, by omega, by omega⟩ (by show kc ≤ kc + 0; omega) (by show ks ≤ ks + 0; omega)
  · simp only [i_eq, i0] at h2
    exact g_retV hEnd (gx gp_289 (w := 0x18) rfl (by decide) rfl) ⟨rfl, b, ec, ep, (show PSX hs tx L A b ec ep na from ⟨rw_1, hT_1, ⟨_, e10_1, hL_1⟩, ⟨_, e11_1, hA_1⟩, ⟨_, e14_1, hb_1⟩, ⟨_, e12_1, hc_1⟩, ⟨_, e13_1, hd_1⟩, ⟨_, e15_1, hn_1⟩, by omega, by omega, by omega, by omega, by omega, by omega⟩), hfr0, by omega, by omega, by omega⟩ (by show kc ≤ kc + 0; omega) (by show ks ≤ ks + 0; omega)

theorem bx_wordEnd (hP : PSX hs tx L A b ec ep na) : BodyN SSX TBL g0 CLS bl xs l D_288 1 22 0 0 [.ref 124] hs (fun kd r h2 => kd = 0 ∧ hs = h2 ∧ ∃ x : Int32, r = some (.int x) ∧ x.toInt = rnn tx L 97 122 A) := by
  intro wp p e R s m args below meth c Q kc0 ks0 kc ks act hf hl hc hsl hEnd
  have hf : 1 ≤ R.frames := hf
  have hl : 22 ≤ R.locals := hl
  obtain ⟨rw_1, hT_1, ⟨L9_1, e10_1, hL_1⟩, ⟨A9_1, e11_1, hA_1⟩, ⟨b9_1, e14_1, hb_1⟩, ⟨c9_1, e12_1, hc_1⟩, ⟨d9_1, e13_1, hd_1⟩, ⟨f9_1, e15_1, hn_1⟩, q1_1, q2_1, q3_1, q4_1, q5_1, q6_1⟩ := hP
  have hfr0 := FrS.rf WP hs
  have loop : ∀ (ej : Int32) (Ej : Int), ej.toInt = Ej → A ≤ Ej → rnn tx L 97 122 A = rnn tx L 97 122 Ej → WpN (gp g0 wp) CLS p l e R s m args below meth c Q D_288.2.2.1 kc0 ks0 5 [some (.ref 124), some (.int ej)] (hs, kc, ks) [] := by
    intro ej Ej hEj h1 hsk
    generalize hm : (L - Ej).toNat = m9
    induction m9 using Nat.strongRecOn generalizing ej Ej with
    | _ m9 ih =>
    subst hm
    refine g_loadI act (gx gp_288 (w := 0x1000602) rfl (by decide) rfl) (a := 1) (n := 6) rfl rfl rfl ?_
    refine g_loadA act (gx gp_288 (w := 0x703) rfl (by decide) rfl) (a := 0) (n := 7) rfl rfl rfl ?_
    refine r_getf act (gx gp_288 (w := 0x289000a04) rfl (by decide) rfl) (n := 10) (ci := 9) (j := 10) (N := 39) rfl rfl rfl rw_1.1 (by decide) (v := .int L9_1) e10_1 ?_
    refine g_icmpGe act (gx gp_288 (w := 0x23000d08) rfl (by decide) rfl) (tgt := 35) (n := 13) rfl rfl (fun h3 => ?_) (fun h3 => ?_)
    · simp only [i_le] at h3
      refine g_loadI act (gx gp_288 (w := 0x1002402) rfl (by decide) rfl) (a := 1) (n := 36) rfl rfl rfl ?_
      have z1 : rnn tx L 97 122 Ej = Ej := rnn_no (by omega)
      exact g_retI hEnd (gx gp_288 (w := 0x2f) rfl (by decide) rfl) ⟨rfl, rfl, _, rfl, by omega⟩ (by show kc ≤ kc + 0; omega) (by show ks ≤ ks + 0; omega)
    · simp only [i_le] at h3
      refine g_loadA act (gx gp_288 (w := 0xe03) rfl (by decide) rfl) (a := 0) (n := 14) rfl rfl rfl ?_
      refine r_getf act (gx gp_288 (w := 0x3000249001104) rfl (by decide) rfl) (n := 17) (ci := 9) (j := 9) (N := 39) rfl rfl rfl rw_1.1 (by decide) (rw_1.2 (9, 130, 32, 700) (by decide)).1 ?_
      refine g_loadI act (gx gp_288 (w := 0x1001202) rfl (by decide) rfl) (a := 1) (n := 18) rfl rfl rfl ?_
      obtain ⟨j_2, hj_3⟩ := Int.eq_ofNat_of_zero_le (show (0 : Int) ≤ Ej by omega)
      have ht_j_2 := txn tx hj_3
      obtain ⟨x_4, e_5, hx_6⟩ := hT_1 j_2 (by omega)
      refine r_iald act (gx gp_288 (w := 0x131a) rfl (by decide) rfl) (n := 19) (j := j_2) rfl (rw_1.2 (9, 130, 32, 700) (by decide)).2 (hEj.trans hj_3) (show j_2 < 700 by omega) (v := .int x_4) e_5 ?_
      refine g_constI act (gx gp_288 (w := 0x40000030c00000309000000001501) rfl (by decide) rfl) (n := 21) (x := (97 : Int32)) (by decide) rfl ?_
      refine g_constI act (gx gp_288 (w := 0x4000003d4000003d1000000001701) rfl (by decide) rfl) (n := 23) (x := (122 : Int32)) (by decide) rfl ?_
      refine n_call tb_pres act hEnd (gx (P := G_call) gp_288 (w := 0x40c330000d9001a0f) rfl (by decide) rfl) (d' := D_217) rfl (as := [.int x_4, .int (97 : Int32), .int (122 : Int32)]) (rest := []) (b_in hx_6 (show (97 : Int32).toInt = ((97 : Nat) : Int) from by decide) (show (122 : Int32).toInt = ((122 : Nat) : Int) from by decide)) (show (3 : Nat) = fb 0x40c330000d9001a0f % 16 by decide) (by show (3 : Nat) ≤ 3; decide) (fun q => absurd q (by decide)) (by omega) (by show 8 + (3 + 11) + 0 ≤ R.locals; omega) (by show (0 : Nat) ≤ 8; decide) (by show kc + 0 ≤ _; omega) (by show ks + 0 ≤ _; omega) (fun r9 h3 hpo hr9 => ?_) (fun x9 hs9 hx9 hpo => ?_)
      · obtain ⟨-, rfl, hin9⟩ := hpo
        obtain ⟨rv_7, rfl, hr_8⟩ := in1_x hin9
        show WpN (gp g0 wp) CLS p l e R s m args below meth c Q D_288.2.2.1 kc0 ks0 26 [some (.ref 124), some (.int ej)] (hs, kc, ks) [.int rv_7]
        refine g_ifEq act (gx gp_288 (w := 0x23001d0e) rfl (by decide) rfl) (tgt := 35) (n := 29) rfl rfl (fun h9 => ?_) (fun h9 => ?_)
        · simp only [i_eq, i0] at h9
          refine g_loadI act (gx gp_288 (w := 0x1002402) rfl (by decide) rfl) (a := 1) (n := 36) rfl rfl rfl ?_
          have z1 : rnn tx L 97 122 Ej = Ej := rnn_no (by omega)
          exact g_retI hEnd (gx gp_288 (w := 0x2f) rfl (by decide) rfl) ⟨rfl, rfl, _, rfl, by omega⟩ (by show kc ≤ kc + 0; omega) (by show ks ≤ ks + 0; omega)
        · simp only [i_eq, i0] at h9
          refine g_iinc act (gx gp_288 (w := 0x80000001000001002009) rfl (by decide) rfl) (a := 1) (i := (1 : Int32)) (n := 32) rfl (by decide) rfl rfl (L2 := [some (.ref 124), some (.int (ej + (1 : Int32)))]) rfl ?_
          have v_9 := iv_addN (hEj.trans hj_3) (show (1 : Int32).toInt = ((1 : Nat) : Int) from by decide) (show (j_2 + 1) < 2147483648 by omega)
          refine g_goto act (gx gp_288 (w := 0x507) rfl (by decide) rfl) (n := 5) rfl ?_
          exact ih _ (by omega) _ (((j_2 + 1) : Nat) : Int) v_9 (by omega) (hsk.trans ((rnn_go (by omega) (by omega) (by omega)).trans (congrArg (rnn tx L 97 122) (by omega)))) rfl
      · exact absurd hpo.1 (by omega)
  show WpN (gp g0 wp) CLS p l e R s m args below meth c Q D_288.2.2.1 kc0 ks0 0 [some (.ref 124), none] (hs, kc, ks) []
  refine g_loadA act (gx gp_288 (w := 0x103) rfl (by decide) rfl) (a := 0) (n := 1) rfl rfl rfl ?_
  refine r_getf act (gx gp_288 (w := 0x2c9000404) rfl (by decide) rfl) (n := 4) (ci := 9) (j := 11) (N := 39) rfl rfl rfl rw_1.1 (by decide) (v := .int A9_1) e11_1 ?_
  refine g_storeI act (gx gp_288 (w := 0x1000510) rfl (by decide) rfl) (a := 1) (n := 5) rfl rfl (L2 := [some (.ref 124), some (.int A9_1)]) rfl ?_
  exact loop _ A hA_1 (by omega) rfl

end PARX1
