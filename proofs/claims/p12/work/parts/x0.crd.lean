/-! The class's reader, exactly. -/
theorem tkE_le {T : Nat → Int} {L s : Int} (h : s ≤ L) : s ≤ tkE T L s ∧ tkE T L s ≤ L := by
  unfold tkE
  split
  · omega
  · split
    · exact ⟨rnn_ge, rnn_le h⟩
    · split
      · exact ⟨rnn_ge, rnn_le h⟩
      · omega
theorem tk_end {T : Nat → Int} {L s : Int} (h : L ≤ s) : tkK T L s = 3 ∧ tkE T L s = s := ⟨if_pos h, if_pos h⟩
theorem tk_wrd {T : Nat → Int} {L s : Int} (h1 : s < L) (h2 : 97 ≤ T s.toNat) (h3 : T s.toNat ≤ 122) : tkK T L s = 0 ∧ tkE T L s = rnn T L 97 122 s :=
  ⟨(if_neg (by omega)).trans (if_pos ⟨h2, h3⟩), (if_neg (by omega)).trans (if_pos ⟨h2, h3⟩)⟩
theorem tk_num {T : Nat → Int} {L s : Int} (h1 : s < L) (h2 : 48 ≤ T s.toNat) (h3 : T s.toNat ≤ 57) : tkE T L s = rnn T L 48 57 s ∧ (rnn T L 48 57 s - s ≤ 4 → tkK T L s = 1) ∧ (¬ rnn T L 48 57 s - s ≤ 4 → tkK T L s = 4) :=
  ⟨(if_neg (by omega)).trans ((if_neg (by omega)).trans (if_pos ⟨h2, h3⟩)), fun q => (if_neg (by omega)).trans ((if_neg (by omega)).trans ((if_pos ⟨h2, h3⟩).trans (if_pos q))), fun q => (if_neg (by omega)).trans ((if_neg (by omega)).trans ((if_pos ⟨h2, h3⟩).trans (if_neg q)))⟩
theorem tk_oth {T : Nat → Int} {L s : Int} (h1 : s < L) (h2 : ¬ (97 ≤ T s.toNat ∧ T s.toNat ≤ 122)) (h3 : ¬ (48 ≤ T s.toNat ∧ T s.toNat ≤ 57)) : tkE T L s = s + 1 ∧ (T s.toNat = 59 → tkK T L s = 2) ∧ (T s.toNat ≠ 59 → tkK T L s = 4) :=
  ⟨(if_neg (by omega)).trans ((if_neg h2).trans (if_neg h3)), fun q => (if_neg (by omega)).trans ((if_neg h2).trans ((if_neg h3).trans (if_pos q))), fun q => (if_neg (by omega)).trans ((if_neg h2).trans ((if_neg h3).trans (if_neg q)))⟩
theorem tk_num_inv {T : Nat → Int} {L s : Int} (h : tkK T L s = 1) : s < L ∧ 48 ≤ T s.toNat ∧ T s.toNat ≤ 57 ∧ rnn T L 48 57 s - s ≤ 4 ∧ tkE T L s = rnn T L 48 57 s := by
  have q : s < L ∧ 48 ≤ T s.toNat ∧ T s.toNat ≤ 57 ∧ rnn T L 48 57 s - s ≤ 4 := Classical.byContradiction fun z => tkK_nn z h
  exact ⟨q.1, q.2.1, q.2.2.1, q.2.2.2, (tk_num q.1 q.2.1 q.2.2.1).1⟩
/-- the class's text: bytes with a sign -/
def TXB (hs : List CE) (tx : Nat → Int) : Prop := ∀ j, j < 700 → ∃ x : Int32, rd hs 55 j = .int x ∧ -128 ≤ x.toInt ∧ x.toInt ≤ 127 ∧ ((0 ≤ x.toInt ∧ tx j = x.toInt) ∨ (x.toInt < 0 ∧ tx j = x.toInt + 256))
/-- what of the reader stays while it reads -/
def RWC (hs : List CE) (g : Nat) : Prop := shp hs 54 = some (5, 11) ∧ shp hs 55 = some (34, 700) ∧ rd hs 54 3 = .ref 55 ∧ rd hs 54 4 = .ref 56 ∧ rd hs 54 5 = .ref g
/-- the reader while it reads: end, kind, start, stop, previousStart, errorCode, errorPosition -/
def CRD (hs : List CE) (tx : Nat → Int) (g : Nat) (L k s A P ec ep : Int) : Prop := RWC hs g ∧ TXB hs tx ∧ (∃ x : Int32, rd hs 54 1 = .int x ∧ x.toInt = ec) ∧ (∃ x : Int32, rd hs 54 2 = .int x ∧ x.toInt = ep) ∧ (∃ x : Int32, rd hs 54 6 = .int x ∧ x.toInt = L) ∧ (∃ x : Int32, rd hs 54 7 = .int x ∧ x.toInt = k) ∧ (∃ x : Int32, rd hs 54 8 = .int x ∧ x.toInt = s) ∧ (∃ x : Int32, rd hs 54 9 = .int x ∧ x.toInt = A) ∧ (∃ x : Int32, rd hs 54 10 = .int x ∧ x.toInt = P) ∧ 0 ≤ L ∧ L ≤ 700 ∧ 0 ≤ A ∧ A ≤ L
/-- the token at s is the current one -/
def CT (hs : List CE) (tx : Nat → Int) (g : Nat) (L s P ec ep : Int) : Prop := CRD hs tx g L (tkK tx L s) s (tkE tx L s) P ec ep ∧ 0 ≤ s ∧ s ≤ L
/-- an error is told -/
def ER (hs : List CE) (tx : Nat → Int) (g : Nat) (L ec ep : Int) : Prop := ∃ k s A P : Int, CRD hs tx g L k s A P ec ep
def WKr (k j : Nat) : Prop := k = 54 ∧ (j = 1 ∨ j = 2 ∨ (7 ≤ j ∧ j ≤ 10))
def WTr (k j : Nat) : Prop := k = 54 ∧ j = 9
theorem RWC.wr54 {hs : List CE} {g j : Nat} {v : Value} (h : RWC hs g) (hj : ¬ (3 ≤ j ∧ j ≤ 5)) : RWC (wr hs 54 j v) g :=
  ⟨(shp_wr _ _ _ _ _).trans h.1, (shp_wr _ _ _ _ _).trans h.2.1, (rd_ne _ _ (Or.inr (by omega))).trans h.2.2.1, (rd_ne _ _ (Or.inr (by omega))).trans h.2.2.2.1, (rd_ne _ _ (Or.inr (by omega))).trans h.2.2.2.2⟩
theorem RWC.fr {W : Nat → Nat → Prop} {hs h2 : List CE} {g : Nat} (h : RWC hs g) (f : FrS W hs h2) (hw : ∀ j, 3 ≤ j → j ≤ 5 → ¬ W 54 j) : RWC h2 g :=
  ⟨(f.2.1 54).trans h.1, (f.2.1 55).trans h.2.1, (f.2.2 54 3 (hw 3 (by decide) (by decide))).trans h.2.2.1, (f.2.2 54 4 (hw 4 (by decide) (by decide))).trans h.2.2.2.1, (f.2.2 54 5 (hw 5 (by decide) (by decide))).trans h.2.2.2.2⟩
theorem TXB.ne {hs : List CE} {tx : Nat → Int} (h : TXB hs tx) {k j : Nat} {v : Value} (hk : k ≠ 55) : TXB (wr hs k j v) tx := fun i hi => by
  obtain ⟨x, e, q⟩ := h i hi
  exact ⟨x, (rd_ne _ _ (Or.inl (fun z => hk z.symm))).trans e, q⟩
theorem TXB.fr {W : Nat → Nat → Prop} {hs h2 : List CE} {tx : Nat → Int} (h : TXB hs tx) (f : FrS W hs h2) (hw : ∀ j, ¬ W 55 j) : TXB h2 tx := fun i hi => by
  obtain ⟨x, e, q⟩ := h i hi
  exact ⟨x, (f.2.2 55 i (hw i)).trans e, q⟩
theorem CRD.fr {W : Nat → Nat → Prop} {hs h2 : List CE} {tx : Nat → Int} {g : Nat} {L k s A P ec ep : Int} (h : CRD hs tx g L k s A P ec ep) (f : FrS W hs h2) (h4 : ∀ j, ¬ W 54 j) (h5 : ∀ j, ¬ W 55 j) : CRD h2 tx g L k s A P ec ep := by
  obtain ⟨r, t, ⟨x1, e1, a1⟩, ⟨x2, e2, a2⟩, ⟨x6, e6, a6⟩, ⟨x7, e7, a7⟩, ⟨x8, e8, a8⟩, ⟨x9, e9, a9⟩, ⟨x0, e0, a0⟩, z⟩ := h
  exact ⟨r.fr f (fun j _ _ => h4 j), t.fr f h5, ⟨x1, (f.2.2 54 1 (h4 1)).trans e1, a1⟩, ⟨x2, (f.2.2 54 2 (h4 2)).trans e2, a2⟩, ⟨x6, (f.2.2 54 6 (h4 6)).trans e6, a6⟩, ⟨x7, (f.2.2 54 7 (h4 7)).trans e7, a7⟩, ⟨x8, (f.2.2 54 8 (h4 8)).trans e8, a8⟩, ⟨x9, (f.2.2 54 9 (h4 9)).trans e9, a9⟩, ⟨x0, (f.2.2 54 10 (h4 10)).trans e0, a0⟩, z⟩
theorem CT.fr {W : Nat → Nat → Prop} {hs h2 : List CE} {tx : Nat → Int} {g : Nat} {L s P ec ep : Int} (h : CT hs tx g L s P ec ep) (f : FrS W hs h2) (h4 : ∀ j, ¬ W 54 j) (h5 : ∀ j, ¬ W 55 j) : CT h2 tx g L s P ec ep := ⟨h.1.fr f h4 h5, h.2⟩

section CRDR
variable {g0 : GG} {bl : Nat} {xs : Nat → Int32} {l : Launch} {hs : List CE} {tx : Nat → Int} {g : Nat} {L k s A P ec ep : Int}

theorem cx_takeRun {lo9 hi9 : Int32} {lo hi : Int} (hlo : lo9.toInt = lo) (hhi : hi9.toInt = hi) (hl1 : 1 ≤ lo) (hh1 : hi ≤ 127) (hP : CRD hs tx g L k s A P ec ep) : BodyN SSX TBL g0 CLS bl xs l D_137 0 0 0 0 [.ref 54, .int lo9, .int hi9] hs (fun kd r h2 => kd = 0 ∧ r = none ∧ CRD h2 tx g L k s (rnn tx L lo hi A) P ec ep ∧ FrS WTr hs h2) := by
  intro wp p e R sW m args below meth c Q kc0 ks0 kc ks act hf hl hc hsl hEnd
  have hf : 0 ≤ R.frames := hf
  have hl : 0 ≤ R.locals := hl
  have hk1 : kc ≤ kc + 0 := by omega
  have hk2 : ks ≤ ks + 0 := by omega
  have loop : ∀ (hj : List CE) (Aj : Int), CRD hj tx g L k s Aj P ec ep → FrS WTr hs hj → rnn tx L lo hi A = rnn tx L lo hi Aj → WpN (gp g0 wp) CLS p l e R sW m args below meth c Q D_137.2.2.1 kc0 ks0 0 [some (.ref 54), some (.int lo9), some (.int hi9)] (hj, kc, ks) [] := by
    intro hj Aj hPj hfr hsk
    generalize hm : (L - Aj).toNat = m9
    induction m9 using Nat.strongRecOn generalizing hj Aj with
    | _ m9 ih =>
    subst hm
    obtain ⟨rw_1, hT_1, ⟨x1_1, e1_1, a1_1⟩, ⟨x2_1, e2_1, a2_1⟩, ⟨x6_1, e6_1, a6_1⟩, ⟨x7_1, e7_1, a7_1⟩, ⟨x8_1, e8_1, a8_1⟩, ⟨x9_1, e9_1, a9_1⟩, ⟨x10_1, e10_1, a10_1⟩, q1_1, q2_1, q3_1, q4_1⟩ := hPj
    refine g_loadA act (gx gp_137 (w := 0x103) rfl (by decide) rfl) (a := 0) (n := 1) rfl rfl rfl ?_
    refine r_getf act (gx gp_137 (w := 0x245000404) rfl (by decide) rfl) (n := 4) (ci := 5) (j := 9) (N := 11) rfl rfl rfl rw_1.1 (by decide) (v := .int x9_1) e9_1 ?_
    refine g_loadA act (gx gp_137 (w := 0x503) rfl (by decide) rfl) (a := 0) (n := 5) rfl rfl rfl ?_
    refine r_getf act (gx gp_137 (w := 0x185000804) rfl (by decide) rfl) (n := 8) (ci := 5) (j := 6) (N := 11) rfl rfl rfl rw_1.1 (by decide) (v := .int x6_1) e6_1 ?_
    refine g_icmpGe act (gx gp_137 (w := 0x32000b08) rfl (by decide) rfl) (tgt := 50) (n := 11) rfl rfl (fun h3 => ?_) (fun h3 => ?_)
    · simp only [i_le] at h3
      have z1 : rnn tx L lo hi Aj = Aj := rnn_no (by omega)
      exact g_retV hEnd (gx gp_137 (w := 0x18) rfl (by decide) rfl) ⟨rfl, rfl, by rw [hsk, z1]; exact (show CRD hj tx g L k s Aj P ec ep from ⟨rw_1, hT_1, ⟨_, e1_1, a1_1⟩, ⟨_, e2_1, a2_1⟩, ⟨_, e6_1, a6_1⟩, ⟨_, e7_1, a7_1⟩, ⟨_, e8_1, a8_1⟩, ⟨_, e9_1, a9_1⟩, ⟨_, e10_1, a10_1⟩, by omega, by omega, by omega, by omega⟩), hfr⟩ hk1 hk2
    · simp only [i_le] at h3
      refine g_loadA act (gx gp_137 (w := 0xc03) rfl (by decide) rfl) (a := 0) (n := 12) rfl rfl rfl ?_
      refine r_getf act (gx gp_137 (w := 0x30000c5000f04) rfl (by decide) rfl) (n := 15) (ci := 5) (j := 3) (N := 11) rfl rfl rfl rw_1.1 (by decide) (v := .ref 55) rw_1.2.2.1 ?_
      refine g_loadA act (gx gp_137 (w := 0x1003) rfl (by decide) rfl) (a := 0) (n := 16) rfl rfl rfl ?_
      refine r_getf act (gx gp_137 (w := 0x245001304) rfl (by decide) rfl) (n := 19) (ci := 5) (j := 9) (N := 11) rfl rfl rfl rw_1.1 (by decide) (v := .int x9_1) e9_1 ?_
      obtain ⟨j_2, hj_2⟩ := Int.eq_ofNat_of_zero_le (show (0 : Int) ≤ Aj by omega)
      have ht_j_2 := txn tx hj_2
      obtain ⟨b_3, e_4, lo_b_3, hi_b_3, tb_b_3⟩ := hT_1 j_2 (by omega)
      refine r_bald act (gx gp_137 (w := 0x1440) rfl (by decide) rfl) (n := 20) (N := 700) (j := j_2) rfl rw_1.2.1 (a9_1.trans hj_2) (by omega) (v := .int b_3) e_4 ?_
      refine g_loadI act (gx gp_137 (w := 0x1001502) rfl (by decide) rfl) (a := 1) (n := 21) rfl rfl rfl ?_
      refine g_icmpLt act (gx gp_137 (w := 0x32001820) rfl (by decide) rfl) (tgt := 50) (n := 24) rfl rfl (fun h7 => ?_) (fun h7 => ?_)
      · simp only [i_lt] at h7
        have z1 : rnn tx L lo hi Aj = Aj := rnn_no (by omega)
        exact g_retV hEnd (gx gp_137 (w := 0x18) rfl (by decide) rfl) ⟨rfl, rfl, by rw [hsk, z1]; exact (show CRD hj tx g L k s Aj P ec ep from ⟨rw_1, hT_1, ⟨_, e1_1, a1_1⟩, ⟨_, e2_1, a2_1⟩, ⟨_, e6_1, a6_1⟩, ⟨_, e7_1, a7_1⟩, ⟨_, e8_1, a8_1⟩, ⟨_, e9_1, a9_1⟩, ⟨_, e10_1, a10_1⟩, by omega, by omega, by omega, by omega⟩), hfr⟩ hk1 hk2
      · simp only [i_lt] at h7
        refine g_loadA act (gx gp_137 (w := 0x1903) rfl (by decide) rfl) (a := 0) (n := 25) rfl rfl rfl ?_
        refine r_getf act (gx gp_137 (w := 0x30000c5001c04) rfl (by decide) rfl) (n := 28) (ci := 5) (j := 3) (N := 11) rfl rfl rfl rw_1.1 (by decide) (v := .ref 55) rw_1.2.2.1 ?_
        refine g_loadA act (gx gp_137 (w := 0x1d03) rfl (by decide) rfl) (a := 0) (n := 29) rfl rfl rfl ?_
        refine r_getf act (gx gp_137 (w := 0x245002004) rfl (by decide) rfl) (n := 32) (ci := 5) (j := 9) (N := 11) rfl rfl rfl rw_1.1 (by decide) (v := .int x9_1) e9_1 ?_
        obtain ⟨b_5, e_6, lo_b_5, hi_b_5, tb_b_5⟩ := hT_1 j_2 (by omega)
        refine r_bald act (gx gp_137 (w := 0x2140) rfl (by decide) rfl) (n := 33) (N := 700) (j := j_2) rfl rw_1.2.1 (a9_1.trans hj_2) (by omega) (v := .int b_5) e_6 ?_
        refine g_loadI act (gx gp_137 (w := 0x2002202) rfl (by decide) rfl) (a := 2) (n := 34) rfl rfl rfl ?_
        refine g_icmpGt act (gx gp_137 (w := 0x3200252b) rfl (by decide) rfl) (tgt := 50) (n := 37) rfl rfl (fun h11 => ?_) (fun h11 => ?_)
        · simp only [i_lt] at h11
          have z1 : rnn tx L lo hi Aj = Aj := rnn_no (by omega)
          exact g_retV hEnd (gx gp_137 (w := 0x18) rfl (by decide) rfl) ⟨rfl, rfl, by rw [hsk, z1]; exact (show CRD hj tx g L k s Aj P ec ep from ⟨rw_1, hT_1, ⟨_, e1_1, a1_1⟩, ⟨_, e2_1, a2_1⟩, ⟨_, e6_1, a6_1⟩, ⟨_, e7_1, a7_1⟩, ⟨_, e8_1, a8_1⟩, ⟨_, e9_1, a9_1⟩, ⟨_, e10_1, a10_1⟩, by omega, by omega, by omega, by omega⟩), hfr⟩ hk1 hk2
        · simp only [i_lt] at h11
          refine g_loadA act (gx gp_137 (w := 0x2603) rfl (by decide) rfl) (a := 0) (n := 38) rfl rfl rfl ?_
          refine g_dup act (gx gp_137 (w := 0x2722) rfl (by decide) rfl) (n := 39) rfl rfl ?_
          refine r_getf act (gx gp_137 (w := 0x245002a04) rfl (by decide) rfl) (n := 42) (ci := 5) (j := 9) (N := 11) rfl rfl rfl rw_1.1 (by decide) (v := .int x9_1) e9_1 ?_
          refine g_constI act (gx gp_137 (w := 0x40000000c00000009000000002b01) rfl (by decide) rfl) (n := 43) (x := (1 : Int32)) (by decide) rfl ?_
          refine g_iadd act (gx gp_137 (w := 0x2c0a) rfl (by decide) rfl) (n := 44) rfl ?_
          have v_7 := iv_add a9_1 (show (1 : Int32).toInt = ((1 : Nat) : Int) from by decide) (show -2147483648 ≤ (Aj + ((1 : Nat) : Int)) by omega) (show (Aj + ((1 : Nat) : Int)) < 2147483648 by omega)
          refine r_putf act (gx gp_137 (w := 0x245002f13) rfl (by decide) rfl) (n := 47) (ci := 5) (j := 9) (N := 11) rfl rfl rfl rw_1.1 (by decide) (Or.inl ⟨rfl, _, rfl⟩) ?_
          have rw_8 := RWC.wr54 (j := 9) (v := .int (x9_1 + (1 : Int32))) rw_1 (by decide)
          have f_9 := hT_1.ne (k := 54) (j := 9) (v := .int (x9_1 + (1 : Int32))) (by decide)
          have f_10 := (rd_ne hj (k := 54) (j := 9) (.int (x9_1 + (1 : Int32))) (Or.inr (by decide))).trans e1_1
          have f_11 := (rd_ne hj (k := 54) (j := 9) (.int (x9_1 + (1 : Int32))) (Or.inr (by decide))).trans e2_1
          have f_12 := (rd_ne hj (k := 54) (j := 9) (.int (x9_1 + (1 : Int32))) (Or.inr (by decide))).trans e6_1
          have f_13 := (rd_ne hj (k := 54) (j := 9) (.int (x9_1 + (1 : Int32))) (Or.inr (by decide))).trans e7_1
          have f_14 := (rd_ne hj (k := 54) (j := 9) (.int (x9_1 + (1 : Int32))) (Or.inr (by decide))).trans e8_1
          have f_16 := (rd_ne hj (k := 54) (j := 9) (.int (x9_1 + (1 : Int32))) (Or.inr (by decide))).trans e10_1
          have f_17 := rd_same (j := 9) (v := .int (x9_1 + (1 : Int32))) rw_1.1
          have fr_18 := hfr.wr (k := 54) (j := 9) (.int (x9_1 + (1 : Int32))) (by unfold WTr; omega)
          clear rw_1 hT_1 e1_1 e2_1 e6_1 e7_1 e8_1 e9_1 e10_1 hfr
          generalize (wr hj 54 9 (.int (x9_1 + (1 : Int32)))) = hs_19 at *
          refine g_goto act (gx gp_137 (w := 0x7) rfl (by decide) rfl) (n := 0) rfl ?_
          exact ih _ (by omega) _ _ (show CRD hs_19 tx g L k s (Aj + ((1 : Nat) : Int)) P ec ep from ⟨rw_8, f_9, ⟨_, f_10, a1_1⟩, ⟨_, f_11, a2_1⟩, ⟨_, f_12, a6_1⟩, ⟨_, f_13, a7_1⟩, ⟨_, f_14, a8_1⟩, ⟨_, f_17, v_7⟩, ⟨_, f_16, a10_1⟩, by omega, by omega, by omega, by omega⟩) fr_18 (hsk.trans ((rnn_go (by omega) (by omega) (by omega)).trans (congrArg (rnn tx L lo hi) (by omega)))) rfl
  exact loop hs A hP (FrS.rf WTr hs) rfl

theorem cx_refuse {c1 c2 : Int32} (hP : CRD hs tx g L k s A P ec ep) : BodyN SSX TBL g0 CLS bl xs l D_136 8 120 1 11 [.ref 54, .int c1, .int c2] hs (fun kd r h2 => kd = 3 ∧ r = none ∧ CRD h2 tx g L k s A P c1.toInt c2.toInt ∧ FrS WKr hs h2) := by
  intro wp p e R sW m args below meth c Q kc0 ks0 kc ks act hf hl hc hsl hEnd
  have hf : 8 ≤ R.frames := hf
  have hl : 120 ≤ R.locals := hl
  obtain ⟨rw_1, hT_1, ⟨x1_1, e1_1, a1_1⟩, ⟨x2_1, e2_1, a2_1⟩, ⟨x6_1, e6_1, a6_1⟩, ⟨x7_1, e7_1, a7_1⟩, ⟨x8_1, e8_1, a8_1⟩, ⟨x9_1, e9_1, a9_1⟩, ⟨x10_1, e10_1, a10_1⟩, q1_1, q2_1, q3_1, q4_1⟩ := hP
  have hfr0 := FrS.rf WKr hs
  show WpN (gp g0 wp) CLS p l e R sW m args below meth c Q D_136.2.2.1 kc0 ks0 0 [some (.ref 54), some (.int c1), some (.int c2)] (hs, kc, ks) []
  refine g_loadA act (gx gp_136 (w := 0x103) rfl (by decide) rfl) (a := 0) (n := 1) rfl rfl rfl ?_
  refine g_loadI act (gx gp_136 (w := 0x1000202) rfl (by decide) rfl) (a := 1) (n := 2) rfl rfl rfl ?_
  refine r_putf act (gx gp_136 (w := 0x45000513) rfl (by decide) rfl) (n := 5) (ci := 5) (j := 1) (N := 11) rfl rfl rfl rw_1.1 (by decide) (Or.inl ⟨rfl, _, rfl⟩) ?_
  have rw_2 := RWC.wr54 (j := 1) (v := .int c1) rw_1 (by decide)
  have f_3 := hT_1.ne (k := 54) (j := 1) (v := .int c1) (by decide)
  have f_5 := (rd_ne hs (k := 54) (j := 1) (.int c1) (Or.inr (by decide))).trans e2_1
  have f_6 := (rd_ne hs (k := 54) (j := 1) (.int c1) (Or.inr (by decide))).trans e6_1
  have f_7 := (rd_ne hs (k := 54) (j := 1) (.int c1) (Or.inr (by decide))).trans e7_1
  have f_8 := (rd_ne hs (k := 54) (j := 1) (.int c1) (Or.inr (by decide))).trans e8_1
  have f_9 := (rd_ne hs (k := 54) (j := 1) (.int c1) (Or.inr (by decide))).trans e9_1
  have f_10 := (rd_ne hs (k := 54) (j := 1) (.int c1) (Or.inr (by decide))).trans e10_1
  have f_11 := rd_same (j := 1) (v := .int c1) rw_1.1
  have fr_12 := hfr0.wr (k := 54) (j := 1) (.int c1) (by unfold WKr; omega)
  clear rw_1 hT_1 e1_1 e2_1 e6_1 e7_1 e8_1 e9_1 e10_1 hfr0
  generalize (wr hs 54 1 (.int c1)) = hs_13 at *
  refine g_loadA act (gx gp_136 (w := 0x603) rfl (by decide) rfl) (a := 0) (n := 6) rfl rfl rfl ?_
  refine g_loadI act (gx gp_136 (w := 0x2000702) rfl (by decide) rfl) (a := 2) (n := 7) rfl rfl rfl ?_
  refine r_putf act (gx gp_136 (w := 0x85000a13) rfl (by decide) rfl) (n := 10) (ci := 5) (j := 2) (N := 11) rfl rfl rfl rw_2.1 (by decide) (Or.inl ⟨rfl, _, rfl⟩) ?_
  have rw_14 := RWC.wr54 (j := 2) (v := .int c2) rw_2 (by decide)
  have f_15 := f_3.ne (k := 54) (j := 2) (v := .int c2) (by decide)
  have f_17 := (rd_ne hs_13 (k := 54) (j := 2) (.int c2) (Or.inr (by decide))).trans f_6
  have f_18 := (rd_ne hs_13 (k := 54) (j := 2) (.int c2) (Or.inr (by decide))).trans f_7
  have f_19 := (rd_ne hs_13 (k := 54) (j := 2) (.int c2) (Or.inr (by decide))).trans f_8
  have f_20 := (rd_ne hs_13 (k := 54) (j := 2) (.int c2) (Or.inr (by decide))).trans f_9
  have f_21 := (rd_ne hs_13 (k := 54) (j := 2) (.int c2) (Or.inr (by decide))).trans f_10
  have f_22 := (rd_ne hs_13 (k := 54) (j := 2) (.int c2) (Or.inr (by decide))).trans f_11
  have f_23 := rd_same (j := 2) (v := .int c2) rw_2.1
  have fr_24 := fr_12.wr (k := 54) (j := 2) (.int c2) (by unfold WKr; omega)
  clear rw_2 f_3 f_5 f_6 f_7 f_8 f_9 f_10 f_11 fr_12
  generalize (wr hs_13 54 2 (.int c2)) = hs_25 at *
  exact g_throw hEnd (gx gp_136 (w := 0x2000038) rfl (by decide) rfl) (x := 2) rfl ⟨rfl, rfl, (show CRD hs_25 tx g L k s A P (Int32.toInt c1) (Int32.toInt c2) from ⟨rw_14, f_15, ⟨_, f_22, (rfl : Int32.toInt c1 = _)⟩, ⟨_, f_23, (rfl : Int32.toInt c2 = _)⟩, ⟨_, f_17, a6_1⟩, ⟨_, f_18, a7_1⟩, ⟨_, f_19, a8_1⟩, ⟨_, f_20, a9_1⟩, ⟨_, f_21, a10_1⟩, by omega, by omega, by omega, by omega⟩), fr_24⟩ (by show kc + 1 ≤ kc + 1; omega) (by show ks + 6 ≤ ks + 11; omega) (by decide) (by decide)

theorem cx_advance (hP : CRD hs tx g L k s A P ec ep) : BodyN SSX TBL g0 CLS bl xs l D_119 1 22 0 0 [.ref 54] hs (fun kd r h2 => kd = 0 ∧ r = none ∧ CT h2 tx g L (skp tx L A) s ec ep ∧ FrS WKr hs h2) := by
  intro wp p e R sW m args below meth c Q kc0 ks0 kc ks act hf hl hc hsl hEnd
  have hf : 1 ≤ R.frames := hf
  have hl : 22 ≤ R.locals := hl
  have hk1 : kc ≤ kc + 0 := by omega
  have hk2 : ks ≤ ks + 0 := by omega
  have tail : ∀ (hj : List CE) (Aj : Int), CRD hj tx g L k s Aj s ec ep → FrS WKr hs hj → skp tx L A = Aj → WpN (gp g0 wp) CLS p l e R sW m args below meth c Q D_119.2.2.1 kc0 ks0 60 [some (.ref 54), none] (hj, kc, ks) [] := by
    intro hj Aj hPj hfr hsk
    obtain ⟨rw_1, hT_1, ⟨x1_1, e1_1, a1_1⟩, ⟨x2_1, e2_1, a2_1⟩, ⟨x6_1, e6_1, a6_1⟩, ⟨x7_1, e7_1, a7_1⟩, ⟨x8_1, e8_1, a8_1⟩, ⟨x9_1, e9_1, a9_1⟩, ⟨x10_1, e10_1, a10_1⟩, q1_1, q2_1, q3_1, q4_1⟩ := hPj
    refine g_loadA act (gx gp_119 (w := 0x3d03) rfl (by decide) rfl) (a := 0) (n := 61) rfl rfl rfl ?_
    refine g_loadA act (gx gp_119 (w := 0x3e03) rfl (by decide) rfl) (a := 0) (n := 62) rfl rfl rfl ?_
    refine r_getf act (gx gp_119 (w := 0x245004104) rfl (by decide) rfl) (n := 65) (ci := 5) (j := 9) (N := 11) rfl rfl rfl rw_1.1 (by decide) (v := .int x9_1) e9_1 ?_
    refine r_putf act (gx gp_119 (w := 0x205004413) rfl (by decide) rfl) (n := 68) (ci := 5) (j := 8) (N := 11) rfl rfl rfl rw_1.1 (by decide) (Or.inl ⟨rfl, _, rfl⟩) ?_
    have rw_2 := RWC.wr54 (j := 8) (v := .int x9_1) rw_1 (by decide)
    have f_3 := hT_1.ne (k := 54) (j := 8) (v := .int x9_1) (by decide)
    have f_4 := (rd_ne hj (k := 54) (j := 8) (.int x9_1) (Or.inr (by decide))).trans e1_1
    have f_5 := (rd_ne hj (k := 54) (j := 8) (.int x9_1) (Or.inr (by decide))).trans e2_1
    have f_6 := (rd_ne hj (k := 54) (j := 8) (.int x9_1) (Or.inr (by decide))).trans e6_1
    have f_7 := (rd_ne hj (k := 54) (j := 8) (.int x9_1) (Or.inr (by decide))).trans e7_1
    have f_9 := (rd_ne hj (k := 54) (j := 8) (.int x9_1) (Or.inr (by decide))).trans e9_1
    have f_10 := (rd_ne hj (k := 54) (j := 8) (.int x9_1) (Or.inr (by decide))).trans e10_1
    have f_11 := rd_same (j := 8) (v := .int x9_1) rw_1.1
    have fr_12 := hfr.wr (k := 54) (j := 8) (.int x9_1) (by unfold WKr; omega)
    clear rw_1 hT_1 e1_1 e2_1 e6_1 e7_1 e8_1 e9_1 e10_1 hfr
    generalize (wr hj 54 8 (.int x9_1)) = hs_13 at *
    refine g_loadA act (gx gp_119 (w := 0x4503) rfl (by decide) rfl) (a := 0) (n := 69) rfl rfl rfl ?_
    refine r_getf act (gx gp_119 (w := 0x205004804) rfl (by decide) rfl) (n := 72) (ci := 5) (j := 8) (N := 11) rfl rfl rfl rw_2.1 (by decide) (v := .int x9_1) f_11 ?_
    refine g_loadA act (gx gp_119 (w := 0x4903) rfl (by decide) rfl) (a := 0) (n := 73) rfl rfl rfl ?_
    refine r_getf act (gx gp_119 (w := 0x185004c04) rfl (by decide) rfl) (n := 76) (ci := 5) (j := 6) (N := 11) rfl rfl rfl rw_2.1 (by decide) (v := .int x6_1) f_6 ?_
    refine g_icmpLt act (gx gp_119 (w := 0x55004f20) rfl (by decide) rfl) (tgt := 85) (n := 79) rfl rfl (fun h5 => ?_) (fun h5 => ?_)
    · simp only [i_lt] at h5
      refine g_loadA act (gx gp_119 (w := 0x5603) rfl (by decide) rfl) (a := 0) (n := 86) rfl rfl rfl ?_
      refine r_getf act (gx gp_119 (w := 0x30000c5005904) rfl (by decide) rfl) (n := 89) (ci := 5) (j := 3) (N := 11) rfl rfl rfl rw_2.1 (by decide) (v := .ref 55) rw_2.2.2.1 ?_
      refine g_loadA act (gx gp_119 (w := 0x5a03) rfl (by decide) rfl) (a := 0) (n := 90) rfl rfl rfl ?_
      refine r_getf act (gx gp_119 (w := 0x205005d04) rfl (by decide) rfl) (n := 93) (ci := 5) (j := 8) (N := 11) rfl rfl rfl rw_2.1 (by decide) (v := .int x9_1) f_11 ?_
      obtain ⟨j_14, hj_14⟩ := Int.eq_ofNat_of_zero_le (show (0 : Int) ≤ Aj by omega)
      have ht_j_14 := txn tx hj_14
      obtain ⟨b_15, e_16, lo_b_15, hi_b_15, tb_b_15⟩ := f_3 j_14 (by omega)
      refine r_bald act (gx gp_119 (w := 0x5e40) rfl (by decide) rfl) (n := 94) (N := 700) (j := j_14) rfl rw_2.2.1 (a9_1.trans hj_14) (by omega) (v := .int b_15) e_16 ?_
      refine g_storeI act (gx gp_119 (w := 0x1005f10) rfl (by decide) rfl) (a := 1) (n := 95) rfl rfl (L2 := [some (.ref 54), some (.int b_15)]) rfl ?_
      refine g_loadI act (gx gp_119 (w := 0x1006002) rfl (by decide) rfl) (a := 1) (n := 96) rfl rfl rfl ?_
      refine g_constI act (gx gp_119 (w := 0x40000030c00000309000000006201) rfl (by decide) rfl) (n := 98) (x := (97 : Int32)) (by decide) rfl ?_
      refine g_icmpLt act (gx gp_119 (w := 0x7b006520) rfl (by decide) rfl) (tgt := 123) (n := 101) rfl rfl (fun h11 => ?_) (fun h11 => ?_)
      · simp only [i_lt, show (97 : Int32).toInt = 97 from by decide] at h11
        refine g_loadI act (gx gp_119 (w := 0x1007c02) rfl (by decide) rfl) (a := 1) (n := 124) rfl rfl rfl ?_
        refine g_constI act (gx gp_119 (w := 0x40000018400000181000000007e01) rfl (by decide) rfl) (n := 126) (x := (48 : Int32)) (by decide) rfl ?_
        refine g_icmpLt act (gx gp_119 (w := 0xa8008120) rfl (by decide) rfl) (tgt := 168) (n := 129) rfl rfl (fun h14 => ?_) (fun h14 => ?_)
        · simp only [i_lt, show (48 : Int32).toInt = 48 from by decide] at h14
          refine g_loadA act (gx gp_119 (w := 0xa903) rfl (by decide) rfl) (a := 0) (n := 169) rfl rfl rfl ?_
          refine g_dup act (gx gp_119 (w := 0xaa22) rfl (by decide) rfl) (n := 170) rfl rfl ?_
          refine r_getf act (gx gp_119 (w := 0x24500ad04) rfl (by decide) rfl) (n := 173) (ci := 5) (j := 9) (N := 11) rfl rfl rfl rw_2.1 (by decide) (v := .int x9_1) f_9 ?_
          refine g_constI act (gx gp_119 (w := 0x40000000c0000000900000000ae01) rfl (by decide) rfl) (n := 174) (x := (1 : Int32)) (by decide) rfl ?_
          refine g_iadd act (gx gp_119 (w := 0xaf0a) rfl (by decide) rfl) (n := 175) rfl ?_
          have v_17 := iv_add a9_1 (show (1 : Int32).toInt = ((1 : Nat) : Int) from by decide) (show -2147483648 ≤ (Aj + ((1 : Nat) : Int)) by omega) (show (Aj + ((1 : Nat) : Int)) < 2147483648 by omega)
          refine r_putf act (gx gp_119 (w := 0x24500b213) rfl (by decide) rfl) (n := 178) (ci := 5) (j := 9) (N := 11) rfl rfl rfl rw_2.1 (by decide) (Or.inl ⟨rfl, _, rfl⟩) ?_
          have rw_18 := RWC.wr54 (j := 9) (v := .int (x9_1 + (1 : Int32))) rw_2 (by decide)
          have f_19 := f_3.ne (k := 54) (j := 9) (v := .int (x9_1 + (1 : Int32))) (by decide)
          have f_20 := (rd_ne hs_13 (k := 54) (j := 9) (.int (x9_1 + (1 : Int32))) (Or.inr (by decide))).trans f_4
          have f_21 := (rd_ne hs_13 (k := 54) (j := 9) (.int (x9_1 + (1 : Int32))) (Or.inr (by decide))).trans f_5
          have f_22 := (rd_ne hs_13 (k := 54) (j := 9) (.int (x9_1 + (1 : Int32))) (Or.inr (by decide))).trans f_6
          have f_23 := (rd_ne hs_13 (k := 54) (j := 9) (.int (x9_1 + (1 : Int32))) (Or.inr (by decide))).trans f_7
          have f_25 := (rd_ne hs_13 (k := 54) (j := 9) (.int (x9_1 + (1 : Int32))) (Or.inr (by decide))).trans f_10
          have f_26 := (rd_ne hs_13 (k := 54) (j := 9) (.int (x9_1 + (1 : Int32))) (Or.inr (by decide))).trans f_11
          have f_27 := rd_same (j := 9) (v := .int (x9_1 + (1 : Int32))) rw_2.1
          have fr_28 := fr_12.wr (k := 54) (j := 9) (.int (x9_1 + (1 : Int32))) (by unfold WKr; omega)
          clear rw_2 f_3 f_4 f_5 f_6 f_7 f_9 f_10 f_11 fr_12
          generalize (wr hs_13 54 9 (.int (x9_1 + (1 : Int32)))) = hs_29 at *
          refine g_loadA act (gx gp_119 (w := 0xb303) rfl (by decide) rfl) (a := 0) (n := 179) rfl rfl rfl ?_
          refine g_loadI act (gx gp_119 (w := 0x100b402) rfl (by decide) rfl) (a := 1) (n := 180) rfl rfl rfl ?_
          refine g_constI act (gx gp_119 (w := 0x4000001dc000001d900000000b601) rfl (by decide) rfl) (n := 182) (x := (59 : Int32)) (by decide) rfl ?_
          refine g_icmpNe act (gx gp_119 (w := 0xbd00b921) rfl (by decide) rfl) (tgt := 189) (n := 185) rfl rfl (fun h21 => ?_) (fun h21 => ?_)
          · simp only [i_eq, show (59 : Int32).toInt = 59 from by decide] at h21
            refine g_constI act (gx gp_119 (w := 0x4000000240000002100000000be01) rfl (by decide) rfl) (n := 190) (x := (4 : Int32)) (by decide) rfl ?_
            refine r_putf act (gx gp_119 (w := 0x1c500c113) rfl (by decide) rfl) (n := 193) (ci := 5) (j := 7) (N := 11) rfl rfl rfl rw_18.1 (by decide) (Or.inl ⟨rfl, _, rfl⟩) ?_
            have rw_30 := RWC.wr54 (j := 7) (v := .int (4 : Int32)) rw_18 (by decide)
            have f_31 := f_19.ne (k := 54) (j := 7) (v := .int (4 : Int32)) (by decide)
            have f_32 := (rd_ne hs_29 (k := 54) (j := 7) (.int (4 : Int32)) (Or.inr (by decide))).trans f_20
            have f_33 := (rd_ne hs_29 (k := 54) (j := 7) (.int (4 : Int32)) (Or.inr (by decide))).trans f_21
            have f_34 := (rd_ne hs_29 (k := 54) (j := 7) (.int (4 : Int32)) (Or.inr (by decide))).trans f_22
            have f_36 := (rd_ne hs_29 (k := 54) (j := 7) (.int (4 : Int32)) (Or.inr (by decide))).trans f_25
            have f_37 := (rd_ne hs_29 (k := 54) (j := 7) (.int (4 : Int32)) (Or.inr (by decide))).trans f_26
            have f_38 := (rd_ne hs_29 (k := 54) (j := 7) (.int (4 : Int32)) (Or.inr (by decide))).trans f_27
            have f_39 := rd_same (j := 7) (v := .int (4 : Int32)) rw_18.1
            have fr_40 := fr_28.wr (k := 54) (j := 7) (.int (4 : Int32)) (by unfold WKr; omega)
            clear rw_18 f_19 f_20 f_21 f_22 f_23 f_25 f_26 f_27 fr_28
            generalize (wr hs_29 54 7 (.int (4 : Int32))) = hs_41 at *
            refine g_retV hEnd (gx gp_119 (w := 0x18) rfl (by decide) rfl) ⟨rfl, rfl, ⟨?_, by omega, by omega⟩, fr_40⟩ hk1 hk2
            have hfin := (show CRD hs_41 tx g L 4 Aj (Aj + 1) s ec ep from ⟨rw_30, f_31, ⟨_, f_32, a1_1⟩, ⟨_, f_33, a2_1⟩, ⟨_, f_34, a6_1⟩, ⟨_, f_39, (by have q9 := (show (4 : Int32).toInt = ((4 : Nat) : Int) from by decide); omega)⟩, ⟨_, f_37, (by have q9 := a9_1; omega)⟩, ⟨_, f_38, (by have q9 := v_17; omega)⟩, ⟨_, f_36, (by have q9 := a10_1; omega)⟩, by omega, by omega, by omega, by omega⟩)
            rw [hsk]
            obtain ⟨t1, t2, t3⟩ := tk_oth (T := tx) (L := L) (s := Aj) (by omega) (by omega) (by omega)
            rw [t1, t3 (by omega)]
            exact hfin
          · simp only [i_eq, show (59 : Int32).toInt = 59 from by decide] at h21
            refine g_constI act (gx gp_119 (w := 0x4000000140000001100000000ba01) rfl (by decide) rfl) (n := 186) (x := (2 : Int32)) (by decide) rfl ?_
            refine g_goto act (gx gp_119 (w := 0xbe07) rfl (by decide) rfl) (n := 190) rfl ?_
            refine r_putf act (gx gp_119 (w := 0x1c500c113) rfl (by decide) rfl) (n := 193) (ci := 5) (j := 7) (N := 11) rfl rfl rfl rw_18.1 (by decide) (Or.inl ⟨rfl, _, rfl⟩) ?_
            have rw_42 := RWC.wr54 (j := 7) (v := .int (2 : Int32)) rw_18 (by decide)
            have f_43 := f_19.ne (k := 54) (j := 7) (v := .int (2 : Int32)) (by decide)
            have f_44 := (rd_ne hs_29 (k := 54) (j := 7) (.int (2 : Int32)) (Or.inr (by decide))).trans f_20
            have f_45 := (rd_ne hs_29 (k := 54) (j := 7) (.int (2 : Int32)) (Or.inr (by decide))).trans f_21
            have f_46 := (rd_ne hs_29 (k := 54) (j := 7) (.int (2 : Int32)) (Or.inr (by decide))).trans f_22
            have f_48 := (rd_ne hs_29 (k := 54) (j := 7) (.int (2 : Int32)) (Or.inr (by decide))).trans f_25
            have f_49 := (rd_ne hs_29 (k := 54) (j := 7) (.int (2 : Int32)) (Or.inr (by decide))).trans f_26
            have f_50 := (rd_ne hs_29 (k := 54) (j := 7) (.int (2 : Int32)) (Or.inr (by decide))).trans f_27
            have f_51 := rd_same (j := 7) (v := .int (2 : Int32)) rw_18.1
            have fr_52 := fr_28.wr (k := 54) (j := 7) (.int (2 : Int32)) (by unfold WKr; omega)
            clear rw_18 f_19 f_20 f_21 f_22 f_23 f_25 f_26 f_27 fr_28
            generalize (wr hs_29 54 7 (.int (2 : Int32))) = hs_53 at *
            refine g_retV hEnd (gx gp_119 (w := 0x18) rfl (by decide) rfl) ⟨rfl, rfl, ⟨?_, by omega, by omega⟩, fr_52⟩ hk1 hk2
            have hfin := (show CRD hs_53 tx g L 2 Aj (Aj + 1) s ec ep from ⟨rw_42, f_43, ⟨_, f_44, a1_1⟩, ⟨_, f_45, a2_1⟩, ⟨_, f_46, a6_1⟩, ⟨_, f_51, (by have q9 := (show (2 : Int32).toInt = ((2 : Nat) : Int) from by decide); omega)⟩, ⟨_, f_49, (by have q9 := a9_1; omega)⟩, ⟨_, f_50, (by have q9 := v_17; omega)⟩, ⟨_, f_48, (by have q9 := a10_1; omega)⟩, by omega, by omega, by omega, by omega⟩)
            rw [hsk]
            obtain ⟨t1, t2, t3⟩ := tk_oth (T := tx) (L := L) (s := Aj) (by omega) (by omega) (by omega)
            rw [t1, t2 (by omega)]
            exact hfin
        · simp only [i_lt, show (48 : Int32).toInt = 48 from by decide] at h14
          refine g_loadI act (gx gp_119 (w := 0x1008202) rfl (by decide) rfl) (a := 1) (n := 130) rfl rfl rfl ?_
          refine g_constI act (gx gp_119 (w := 0x4000001cc000001c9000000008401) rfl (by decide) rfl) (n := 132) (x := (57 : Int32)) (by decide) rfl ?_
          refine g_icmpGt act (gx gp_119 (w := 0xa800872b) rfl (by decide) rfl) (tgt := 168) (n := 135) rfl rfl (fun h27 => ?_) (fun h27 => ?_)
          · simp only [i_lt, show (57 : Int32).toInt = 57 from by decide] at h27
            refine g_loadA act (gx gp_119 (w := 0xa903) rfl (by decide) rfl) (a := 0) (n := 169) rfl rfl rfl ?_
            refine g_dup act (gx gp_119 (w := 0xaa22) rfl (by decide) rfl) (n := 170) rfl rfl ?_
            refine r_getf act (gx gp_119 (w := 0x24500ad04) rfl (by decide) rfl) (n := 173) (ci := 5) (j := 9) (N := 11) rfl rfl rfl rw_2.1 (by decide) (v := .int x9_1) f_9 ?_
            refine g_constI act (gx gp_119 (w := 0x40000000c0000000900000000ae01) rfl (by decide) rfl) (n := 174) (x := (1 : Int32)) (by decide) rfl ?_
            refine g_iadd act (gx gp_119 (w := 0xaf0a) rfl (by decide) rfl) (n := 175) rfl ?_
            have v_54 := iv_add a9_1 (show (1 : Int32).toInt = ((1 : Nat) : Int) from by decide) (show -2147483648 ≤ (Aj + ((1 : Nat) : Int)) by omega) (show (Aj + ((1 : Nat) : Int)) < 2147483648 by omega)
            refine r_putf act (gx gp_119 (w := 0x24500b213) rfl (by decide) rfl) (n := 178) (ci := 5) (j := 9) (N := 11) rfl rfl rfl rw_2.1 (by decide) (Or.inl ⟨rfl, _, rfl⟩) ?_
            have rw_55 := RWC.wr54 (j := 9) (v := .int (x9_1 + (1 : Int32))) rw_2 (by decide)
            have f_56 := f_3.ne (k := 54) (j := 9) (v := .int (x9_1 + (1 : Int32))) (by decide)
            have f_57 := (rd_ne hs_13 (k := 54) (j := 9) (.int (x9_1 + (1 : Int32))) (Or.inr (by decide))).trans f_4
            have f_58 := (rd_ne hs_13 (k := 54) (j := 9) (.int (x9_1 + (1 : Int32))) (Or.inr (by decide))).trans f_5
            have f_59 := (rd_ne hs_13 (k := 54) (j := 9) (.int (x9_1 + (1 : Int32))) (Or.inr (by decide))).trans f_6
            have f_60 := (rd_ne hs_13 (k := 54) (j := 9) (.int (x9_1 + (1 : Int32))) (Or.inr (by decide))).trans f_7
            have f_62 := (rd_ne hs_13 (k := 54) (j := 9) (.int (x9_1 + (1 : Int32))) (Or.inr (by decide))).trans f_10
            have f_63 := (rd_ne hs_13 (k := 54) (j := 9) (.int (x9_1 + (1 : Int32))) (Or.inr (by decide))).trans f_11
            have f_64 := rd_same (j := 9) (v := .int (x9_1 + (1 : Int32))) rw_2.1
            have fr_65 := fr_12.wr (k := 54) (j := 9) (.int (x9_1 + (1 : Int32))) (by unfold WKr; omega)
            clear rw_2 f_3 f_4 f_5 f_6 f_7 f_9 f_10 f_11 fr_12
            generalize (wr hs_13 54 9 (.int (x9_1 + (1 : Int32)))) = hs_66 at *
            refine g_loadA act (gx gp_119 (w := 0xb303) rfl (by decide) rfl) (a := 0) (n := 179) rfl rfl rfl ?_
            refine g_loadI act (gx gp_119 (w := 0x100b402) rfl (by decide) rfl) (a := 1) (n := 180) rfl rfl rfl ?_
            refine g_constI act (gx gp_119 (w := 0x4000001dc000001d900000000b601) rfl (by decide) rfl) (n := 182) (x := (59 : Int32)) (by decide) rfl ?_
            refine g_icmpNe act (gx gp_119 (w := 0xbd00b921) rfl (by decide) rfl) (tgt := 189) (n := 185) rfl rfl (fun h34 => ?_) (fun h34 => ?_)
            · simp only [i_eq, show (59 : Int32).toInt = 59 from by decide] at h34
              refine g_constI act (gx gp_119 (w := 0x4000000240000002100000000be01) rfl (by decide) rfl) (n := 190) (x := (4 : Int32)) (by decide) rfl ?_
              refine r_putf act (gx gp_119 (w := 0x1c500c113) rfl (by decide) rfl) (n := 193) (ci := 5) (j := 7) (N := 11) rfl rfl rfl rw_55.1 (by decide) (Or.inl ⟨rfl, _, rfl⟩) ?_
              have rw_67 := RWC.wr54 (j := 7) (v := .int (4 : Int32)) rw_55 (by decide)
              have f_68 := f_56.ne (k := 54) (j := 7) (v := .int (4 : Int32)) (by decide)
              have f_69 := (rd_ne hs_66 (k := 54) (j := 7) (.int (4 : Int32)) (Or.inr (by decide))).trans f_57
              have f_70 := (rd_ne hs_66 (k := 54) (j := 7) (.int (4 : Int32)) (Or.inr (by decide))).trans f_58
              have f_71 := (rd_ne hs_66 (k := 54) (j := 7) (.int (4 : Int32)) (Or.inr (by decide))).trans f_59
              have f_73 := (rd_ne hs_66 (k := 54) (j := 7) (.int (4 : Int32)) (Or.inr (by decide))).trans f_62
              have f_74 := (rd_ne hs_66 (k := 54) (j := 7) (.int (4 : Int32)) (Or.inr (by decide))).trans f_63
              have f_75 := (rd_ne hs_66 (k := 54) (j := 7) (.int (4 : Int32)) (Or.inr (by decide))).trans f_64
              have f_76 := rd_same (j := 7) (v := .int (4 : Int32)) rw_55.1
              have fr_77 := fr_65.wr (k := 54) (j := 7) (.int (4 : Int32)) (by unfold WKr; omega)
              clear rw_55 f_56 f_57 f_58 f_59 f_60 f_62 f_63 f_64 fr_65
              generalize (wr hs_66 54 7 (.int (4 : Int32))) = hs_78 at *
              refine g_retV hEnd (gx gp_119 (w := 0x18) rfl (by decide) rfl) ⟨rfl, rfl, ⟨?_, by omega, by omega⟩, fr_77⟩ hk1 hk2
              have hfin := (show CRD hs_78 tx g L 4 Aj (Aj + 1) s ec ep from ⟨rw_67, f_68, ⟨_, f_69, a1_1⟩, ⟨_, f_70, a2_1⟩, ⟨_, f_71, a6_1⟩, ⟨_, f_76, (by have q9 := (show (4 : Int32).toInt = ((4 : Nat) : Int) from by decide); omega)⟩, ⟨_, f_74, (by have q9 := a9_1; omega)⟩, ⟨_, f_75, (by have q9 := v_54; omega)⟩, ⟨_, f_73, (by have q9 := a10_1; omega)⟩, by omega, by omega, by omega, by omega⟩)
              rw [hsk]
              obtain ⟨t1, t2, t3⟩ := tk_oth (T := tx) (L := L) (s := Aj) (by omega) (by omega) (by omega)
              rw [t1, t3 (by omega)]
              exact hfin
            · simp only [i_eq, show (59 : Int32).toInt = 59 from by decide] at h34
              refine g_constI act (gx gp_119 (w := 0x4000000140000001100000000ba01) rfl (by decide) rfl) (n := 186) (x := (2 : Int32)) (by decide) rfl ?_
              refine g_goto act (gx gp_119 (w := 0xbe07) rfl (by decide) rfl) (n := 190) rfl ?_
              refine r_putf act (gx gp_119 (w := 0x1c500c113) rfl (by decide) rfl) (n := 193) (ci := 5) (j := 7) (N := 11) rfl rfl rfl rw_55.1 (by decide) (Or.inl ⟨rfl, _, rfl⟩) ?_
              have rw_79 := RWC.wr54 (j := 7) (v := .int (2 : Int32)) rw_55 (by decide)
              have f_80 := f_56.ne (k := 54) (j := 7) (v := .int (2 : Int32)) (by decide)
              have f_81 := (rd_ne hs_66 (k := 54) (j := 7) (.int (2 : Int32)) (Or.inr (by decide))).trans f_57
              have f_82 := (rd_ne hs_66 (k := 54) (j := 7) (.int (2 : Int32)) (Or.inr (by decide))).trans f_58
              have f_83 := (rd_ne hs_66 (k := 54) (j := 7) (.int (2 : Int32)) (Or.inr (by decide))).trans f_59
              have f_85 := (rd_ne hs_66 (k := 54) (j := 7) (.int (2 : Int32)) (Or.inr (by decide))).trans f_62
              have f_86 := (rd_ne hs_66 (k := 54) (j := 7) (.int (2 : Int32)) (Or.inr (by decide))).trans f_63
              have f_87 := (rd_ne hs_66 (k := 54) (j := 7) (.int (2 : Int32)) (Or.inr (by decide))).trans f_64
              have f_88 := rd_same (j := 7) (v := .int (2 : Int32)) rw_55.1
              have fr_89 := fr_65.wr (k := 54) (j := 7) (.int (2 : Int32)) (by unfold WKr; omega)
              clear rw_55 f_56 f_57 f_58 f_59 f_60 f_62 f_63 f_64 fr_65
              generalize (wr hs_66 54 7 (.int (2 : Int32))) = hs_90 at *
              refine g_retV hEnd (gx gp_119 (w := 0x18) rfl (by decide) rfl) ⟨rfl, rfl, ⟨?_, by omega, by omega⟩, fr_89⟩ hk1 hk2
              have hfin := (show CRD hs_90 tx g L 2 Aj (Aj + 1) s ec ep from ⟨rw_79, f_80, ⟨_, f_81, a1_1⟩, ⟨_, f_82, a2_1⟩, ⟨_, f_83, a6_1⟩, ⟨_, f_88, (by have q9 := (show (2 : Int32).toInt = ((2 : Nat) : Int) from by decide); omega)⟩, ⟨_, f_86, (by have q9 := a9_1; omega)⟩, ⟨_, f_87, (by have q9 := v_54; omega)⟩, ⟨_, f_85, (by have q9 := a10_1; omega)⟩, by omega, by omega, by omega, by omega⟩)
              rw [hsk]
              obtain ⟨t1, t2, t3⟩ := tk_oth (T := tx) (L := L) (s := Aj) (by omega) (by omega) (by omega)
              rw [t1, t2 (by omega)]
              exact hfin
          · simp only [i_lt, show (57 : Int32).toInt = 57 from by decide] at h27
            refine g_loadA act (gx gp_119 (w := 0x8803) rfl (by decide) rfl) (a := 0) (n := 136) rfl rfl rfl ?_
            refine g_constI act (gx gp_119 (w := 0x40000018400000181000000008a01) rfl (by decide) rfl) (n := 138) (x := (48 : Int32)) (by decide) rfl ?_
            refine g_constI act (gx gp_119 (w := 0x4000001cc000001c9000000008c01) rfl (by decide) rfl) (n := 140) (x := (57 : Int32)) (by decide) rfl ?_
            refine n_call tb_pres act hEnd (gx (P := G_call) gp_119 (w := 0x600000000000080c33000089008f0f) rfl (by decide) rfl) (d' := D_137) rfl (f' := 0) (lam' := 0) (mc := 0) (ms := 0) (as := [.ref 54, .int (48 : Int32), .int (57 : Int32)]) (rest := []) (cx_takeRun (lo9 := (48 : Int32)) (hi9 := (57 : Int32)) (show (48 : Int32).toInt = 48 from by decide) (show (57 : Int32).toInt = 57 from by decide) (by omega) (by omega) (show CRD hs_13 tx g L k Aj Aj s ec ep from ⟨rw_2, f_3, ⟨_, f_4, a1_1⟩, ⟨_, f_5, a2_1⟩, ⟨_, f_6, a6_1⟩, ⟨_, f_7, a7_1⟩, ⟨_, f_11, a9_1⟩, ⟨_, f_9, a9_1⟩, ⟨_, f_10, a10_1⟩, by omega, by omega, by omega, by omega⟩)) (show (3 : Nat) = fb 0x600000000000080c33000089008f0f % 16 by decide) (by show (3 : Nat) ≤ 3; decide) (fun _ => ⟨_, _, rfl, _, shp_at rw_2.1, Or.inr (show fb 0x600000000000080c33000089008f0f >>> 68 = 6 by decide)⟩) (by omega) (by show 8 + (3 + 11) + 0 ≤ R.locals; omega) (by show (0 : Nat) ≤ 8; decide) (by show kc + 0 ≤ _; omega) (by show ks + 0 ≤ _; omega) (fun r9 hs_c91 hpo hr9 => ?_) (fun x9 hs9 hx9 hpo => ?_)
            · obtain rfl : r9 = none := hr9.elim (fun q => q.2) (fun q => absurd rfl q.1)
              obtain ⟨-, -, hP_c91, fr_c91⟩ := hpo
              obtain ⟨-, -, -, -, -, -, -, ⟨x9_c91, e9_c91, a9_c91⟩, -, -, -, qa_c91, qb_c91⟩ := hP_c91
              have rw_92 := rw_2.fr fr_c91 (fun j9 _ _ => by unfold WTr; omega)
              have f_93 := f_3.fr fr_c91 (fun j9 => by unfold WTr; omega)
              have f_94 := (fr_c91.2.2 54 1 (by unfold WTr; omega)).trans f_4
              have f_95 := (fr_c91.2.2 54 2 (by unfold WTr; omega)).trans f_5
              have f_96 := (fr_c91.2.2 54 6 (by unfold WTr; omega)).trans f_6
              have f_97 := (fr_c91.2.2 54 7 (by unfold WTr; omega)).trans f_7
              have f_99 := (fr_c91.2.2 54 10 (by unfold WTr; omega)).trans f_10
              have f_100 := (fr_c91.2.2 54 8 (by unfold WTr; omega)).trans f_11
              have fr_101 := fr_12.tr (fr_c91.mono (fun k9 j9 h9 => by unfold WTr at h9; unfold WKr; omega))
              clear rw_2 f_3 f_4 f_5 f_6 f_7 f_9 f_10 f_11 fr_12
              show WpN (gp g0 wp) CLS p l e R sW m args below meth c Q D_119.2.2.1 kc0 ks0 143 [some (.ref 54), some (.int b_15)] (hs_c91, kc, ks) []
              refine g_loadA act (gx gp_119 (w := 0x9003) rfl (by decide) rfl) (a := 0) (n := 144) rfl rfl rfl ?_
              refine g_loadA act (gx gp_119 (w := 0x9103) rfl (by decide) rfl) (a := 0) (n := 145) rfl rfl rfl ?_
              refine r_getf act (gx gp_119 (w := 0x245009404) rfl (by decide) rfl) (n := 148) (ci := 5) (j := 9) (N := 11) rfl rfl rfl rw_92.1 (by decide) (v := .int x9_c91) e9_c91 ?_
              refine g_loadA act (gx gp_119 (w := 0x9503) rfl (by decide) rfl) (a := 0) (n := 149) rfl rfl rfl ?_
              refine r_getf act (gx gp_119 (w := 0x205009804) rfl (by decide) rfl) (n := 152) (ci := 5) (j := 8) (N := 11) rfl rfl rfl rw_92.1 (by decide) (v := .int x9_1) f_100 ?_
              refine g_isub act (gx gp_119 (w := 0x9926) rfl (by decide) rfl) (n := 153) rfl ?_
              have v_102 := iv_sub a9_c91 a9_1 (show -2147483648 ≤ ((rnn tx L 48 57 Aj) - Aj) by omega) (show ((rnn tx L 48 57 Aj) - Aj) < 2147483648 by omega)
              refine g_constI act (gx gp_119 (w := 0x40000002400000021000000009a01) rfl (by decide) rfl) (n := 154) (x := (4 : Int32)) (by decide) rfl ?_
              refine g_icmpGt act (gx gp_119 (w := 0xa1009d2b) rfl (by decide) rfl) (tgt := 161) (n := 157) rfl rfl (fun h45 => ?_) (fun h45 => ?_)
              · simp only [i_lt, show (4 : Int32).toInt = 4 from by decide] at h45
                refine g_constI act (gx gp_119 (w := 0x4000000240000002100000000a201) rfl (by decide) rfl) (n := 162) (x := (4 : Int32)) (by decide) rfl ?_
                refine r_putf act (gx gp_119 (w := 0x1c500a513) rfl (by decide) rfl) (n := 165) (ci := 5) (j := 7) (N := 11) rfl rfl rfl rw_92.1 (by decide) (Or.inl ⟨rfl, _, rfl⟩) ?_
                have rw_103 := RWC.wr54 (j := 7) (v := .int (4 : Int32)) rw_92 (by decide)
                have f_104 := f_93.ne (k := 54) (j := 7) (v := .int (4 : Int32)) (by decide)
                have f_105 := (rd_ne hs_c91 (k := 54) (j := 7) (.int (4 : Int32)) (Or.inr (by decide))).trans f_94
                have f_106 := (rd_ne hs_c91 (k := 54) (j := 7) (.int (4 : Int32)) (Or.inr (by decide))).trans f_95
                have f_107 := (rd_ne hs_c91 (k := 54) (j := 7) (.int (4 : Int32)) (Or.inr (by decide))).trans f_96
                have f_109 := (rd_ne hs_c91 (k := 54) (j := 7) (.int (4 : Int32)) (Or.inr (by decide))).trans f_99
                have f_110 := (rd_ne hs_c91 (k := 54) (j := 7) (.int (4 : Int32)) (Or.inr (by decide))).trans f_100
                have f_111 := (rd_ne hs_c91 (k := 54) (j := 7) (.int (4 : Int32)) (Or.inr (by decide))).trans e9_c91
                have f_112 := rd_same (j := 7) (v := .int (4 : Int32)) rw_92.1
                have fr_113 := fr_101.wr (k := 54) (j := 7) (.int (4 : Int32)) (by unfold WKr; omega)
                clear rw_92 f_93 f_94 f_95 f_96 f_97 f_99 f_100 e9_c91 fr_101
                generalize (wr hs_c91 54 7 (.int (4 : Int32))) = hs_114 at *
                refine g_goto act (gx gp_119 (w := 0xc107) rfl (by decide) rfl) (n := 193) rfl ?_
                refine g_retV hEnd (gx gp_119 (w := 0x18) rfl (by decide) rfl) ⟨rfl, rfl, ⟨?_, by omega, by omega⟩, fr_113⟩ hk1 hk2
                have hfin := (show CRD hs_114 tx g L 4 Aj (rnn tx L 48 57 Aj) s ec ep from ⟨rw_103, f_104, ⟨_, f_105, a1_1⟩, ⟨_, f_106, a2_1⟩, ⟨_, f_107, a6_1⟩, ⟨_, f_112, (by have q9 := (show (4 : Int32).toInt = ((4 : Nat) : Int) from by decide); omega)⟩, ⟨_, f_110, (by have q9 := a9_1; omega)⟩, ⟨_, f_111, (by have q9 := a9_c91; omega)⟩, ⟨_, f_109, (by have q9 := a10_1; omega)⟩, by omega, by omega, by omega, by omega⟩)
                rw [hsk]
                obtain ⟨t1, t2, t3⟩ := tk_num (T := tx) (L := L) (s := Aj) (by omega) (by omega) (by omega)
                rw [t1, t3 (by omega)]
                exact hfin
              · simp only [i_lt, show (4 : Int32).toInt = 4 from by decide] at h45
                refine g_constI act (gx gp_119 (w := 0x40000000c00000009000000009e01) rfl (by decide) rfl) (n := 158) (x := (1 : Int32)) (by decide) rfl ?_
                refine g_goto act (gx gp_119 (w := 0xa207) rfl (by decide) rfl) (n := 162) rfl ?_
                refine r_putf act (gx gp_119 (w := 0x1c500a513) rfl (by decide) rfl) (n := 165) (ci := 5) (j := 7) (N := 11) rfl rfl rfl rw_92.1 (by decide) (Or.inl ⟨rfl, _, rfl⟩) ?_
                have rw_115 := RWC.wr54 (j := 7) (v := .int (1 : Int32)) rw_92 (by decide)
                have f_116 := f_93.ne (k := 54) (j := 7) (v := .int (1 : Int32)) (by decide)
                have f_117 := (rd_ne hs_c91 (k := 54) (j := 7) (.int (1 : Int32)) (Or.inr (by decide))).trans f_94
                have f_118 := (rd_ne hs_c91 (k := 54) (j := 7) (.int (1 : Int32)) (Or.inr (by decide))).trans f_95
                have f_119 := (rd_ne hs_c91 (k := 54) (j := 7) (.int (1 : Int32)) (Or.inr (by decide))).trans f_96
                have f_121 := (rd_ne hs_c91 (k := 54) (j := 7) (.int (1 : Int32)) (Or.inr (by decide))).trans f_99
                have f_122 := (rd_ne hs_c91 (k := 54) (j := 7) (.int (1 : Int32)) (Or.inr (by decide))).trans f_100
                have f_123 := (rd_ne hs_c91 (k := 54) (j := 7) (.int (1 : Int32)) (Or.inr (by decide))).trans e9_c91
                have f_124 := rd_same (j := 7) (v := .int (1 : Int32)) rw_92.1
                have fr_125 := fr_101.wr (k := 54) (j := 7) (.int (1 : Int32)) (by unfold WKr; omega)
                clear rw_92 f_93 f_94 f_95 f_96 f_97 f_99 f_100 e9_c91 fr_101
                generalize (wr hs_c91 54 7 (.int (1 : Int32))) = hs_126 at *
                refine g_goto act (gx gp_119 (w := 0xc107) rfl (by decide) rfl) (n := 193) rfl ?_
                refine g_retV hEnd (gx gp_119 (w := 0x18) rfl (by decide) rfl) ⟨rfl, rfl, ⟨?_, by omega, by omega⟩, fr_125⟩ hk1 hk2
                have hfin := (show CRD hs_126 tx g L 1 Aj (rnn tx L 48 57 Aj) s ec ep from ⟨rw_115, f_116, ⟨_, f_117, a1_1⟩, ⟨_, f_118, a2_1⟩, ⟨_, f_119, a6_1⟩, ⟨_, f_124, (by have q9 := (show (1 : Int32).toInt = ((1 : Nat) : Int) from by decide); omega)⟩, ⟨_, f_122, (by have q9 := a9_1; omega)⟩, ⟨_, f_123, (by have q9 := a9_c91; omega)⟩, ⟨_, f_121, (by have q9 := a10_1; omega)⟩, by omega, by omega, by omega, by omega⟩)
                rw [hsk]
                obtain ⟨t1, t2, t3⟩ := tk_num (T := tx) (L := L) (s := Aj) (by omega) (by omega) (by omega)
                rw [t1, t2 (by omega)]
                exact hfin
            · exact absurd hpo.1 (by omega)
      · simp only [i_lt, show (97 : Int32).toInt = 97 from by decide] at h11
        refine g_loadI act (gx gp_119 (w := 0x1006602) rfl (by decide) rfl) (a := 1) (n := 102) rfl rfl rfl ?_
        refine g_constI act (gx gp_119 (w := 0x4000003d4000003d1000000006801) rfl (by decide) rfl) (n := 104) (x := (122 : Int32)) (by decide) rfl ?_
        refine g_icmpGt act (gx gp_119 (w := 0x7b006b2b) rfl (by decide) rfl) (tgt := 123) (n := 107) rfl rfl (fun h53 => ?_) (fun h53 => ?_)
        · simp only [i_lt, show (122 : Int32).toInt = 122 from by decide] at h53
          refine g_loadI act (gx gp_119 (w := 0x1007c02) rfl (by decide) rfl) (a := 1) (n := 124) rfl rfl rfl ?_
          refine g_constI act (gx gp_119 (w := 0x40000018400000181000000007e01) rfl (by decide) rfl) (n := 126) (x := (48 : Int32)) (by decide) rfl ?_
          refine g_icmpLt act (gx gp_119 (w := 0xa8008120) rfl (by decide) rfl) (tgt := 168) (n := 129) rfl rfl (fun h56 => ?_) (fun h56 => ?_)
          · simp only [i_lt, show (48 : Int32).toInt = 48 from by decide] at h56
            refine g_loadA act (gx gp_119 (w := 0xa903) rfl (by decide) rfl) (a := 0) (n := 169) rfl rfl rfl ?_
            refine g_dup act (gx gp_119 (w := 0xaa22) rfl (by decide) rfl) (n := 170) rfl rfl ?_
            refine r_getf act (gx gp_119 (w := 0x24500ad04) rfl (by decide) rfl) (n := 173) (ci := 5) (j := 9) (N := 11) rfl rfl rfl rw_2.1 (by decide) (v := .int x9_1) f_9 ?_
            refine g_constI act (gx gp_119 (w := 0x40000000c0000000900000000ae01) rfl (by decide) rfl) (n := 174) (x := (1 : Int32)) (by decide) rfl ?_
            refine g_iadd act (gx gp_119 (w := 0xaf0a) rfl (by decide) rfl) (n := 175) rfl ?_
            have v_127 := iv_add a9_1 (show (1 : Int32).toInt = ((1 : Nat) : Int) from by decide) (show -2147483648 ≤ (Aj + ((1 : Nat) : Int)) by omega) (show (Aj + ((1 : Nat) : Int)) < 2147483648 by omega)
            refine r_putf act (gx gp_119 (w := 0x24500b213) rfl (by decide) rfl) (n := 178) (ci := 5) (j := 9) (N := 11) rfl rfl rfl rw_2.1 (by decide) (Or.inl ⟨rfl, _, rfl⟩) ?_
            have rw_128 := RWC.wr54 (j := 9) (v := .int (x9_1 + (1 : Int32))) rw_2 (by decide)
            have f_129 := f_3.ne (k := 54) (j := 9) (v := .int (x9_1 + (1 : Int32))) (by decide)
            have f_130 := (rd_ne hs_13 (k := 54) (j := 9) (.int (x9_1 + (1 : Int32))) (Or.inr (by decide))).trans f_4
            have f_131 := (rd_ne hs_13 (k := 54) (j := 9) (.int (x9_1 + (1 : Int32))) (Or.inr (by decide))).trans f_5
            have f_132 := (rd_ne hs_13 (k := 54) (j := 9) (.int (x9_1 + (1 : Int32))) (Or.inr (by decide))).trans f_6
            have f_133 := (rd_ne hs_13 (k := 54) (j := 9) (.int (x9_1 + (1 : Int32))) (Or.inr (by decide))).trans f_7
            have f_135 := (rd_ne hs_13 (k := 54) (j := 9) (.int (x9_1 + (1 : Int32))) (Or.inr (by decide))).trans f_10
            have f_136 := (rd_ne hs_13 (k := 54) (j := 9) (.int (x9_1 + (1 : Int32))) (Or.inr (by decide))).trans f_11
            have f_137 := rd_same (j := 9) (v := .int (x9_1 + (1 : Int32))) rw_2.1
            have fr_138 := fr_12.wr (k := 54) (j := 9) (.int (x9_1 + (1 : Int32))) (by unfold WKr; omega)
            clear rw_2 f_3 f_4 f_5 f_6 f_7 f_9 f_10 f_11 fr_12
            generalize (wr hs_13 54 9 (.int (x9_1 + (1 : Int32)))) = hs_139 at *
            refine g_loadA act (gx gp_119 (w := 0xb303) rfl (by decide) rfl) (a := 0) (n := 179) rfl rfl rfl ?_
            refine g_loadI act (gx gp_119 (w := 0x100b402) rfl (by decide) rfl) (a := 1) (n := 180) rfl rfl rfl ?_
            refine g_constI act (gx gp_119 (w := 0x4000001dc000001d900000000b601) rfl (by decide) rfl) (n := 182) (x := (59 : Int32)) (by decide) rfl ?_
            refine g_icmpNe act (gx gp_119 (w := 0xbd00b921) rfl (by decide) rfl) (tgt := 189) (n := 185) rfl rfl (fun h63 => ?_) (fun h63 => ?_)
            · simp only [i_eq, show (59 : Int32).toInt = 59 from by decide] at h63
              refine g_constI act (gx gp_119 (w := 0x4000000240000002100000000be01) rfl (by decide) rfl) (n := 190) (x := (4 : Int32)) (by decide) rfl ?_
              refine r_putf act (gx gp_119 (w := 0x1c500c113) rfl (by decide) rfl) (n := 193) (ci := 5) (j := 7) (N := 11) rfl rfl rfl rw_128.1 (by decide) (Or.inl ⟨rfl, _, rfl⟩) ?_
              have rw_140 := RWC.wr54 (j := 7) (v := .int (4 : Int32)) rw_128 (by decide)
              have f_141 := f_129.ne (k := 54) (j := 7) (v := .int (4 : Int32)) (by decide)
              have f_142 := (rd_ne hs_139 (k := 54) (j := 7) (.int (4 : Int32)) (Or.inr (by decide))).trans f_130
              have f_143 := (rd_ne hs_139 (k := 54) (j := 7) (.int (4 : Int32)) (Or.inr (by decide))).trans f_131
              have f_144 := (rd_ne hs_139 (k := 54) (j := 7) (.int (4 : Int32)) (Or.inr (by decide))).trans f_132
              have f_146 := (rd_ne hs_139 (k := 54) (j := 7) (.int (4 : Int32)) (Or.inr (by decide))).trans f_135
              have f_147 := (rd_ne hs_139 (k := 54) (j := 7) (.int (4 : Int32)) (Or.inr (by decide))).trans f_136
              have f_148 := (rd_ne hs_139 (k := 54) (j := 7) (.int (4 : Int32)) (Or.inr (by decide))).trans f_137
              have f_149 := rd_same (j := 7) (v := .int (4 : Int32)) rw_128.1
              have fr_150 := fr_138.wr (k := 54) (j := 7) (.int (4 : Int32)) (by unfold WKr; omega)
              clear rw_128 f_129 f_130 f_131 f_132 f_133 f_135 f_136 f_137 fr_138
              generalize (wr hs_139 54 7 (.int (4 : Int32))) = hs_151 at *
              refine g_retV hEnd (gx gp_119 (w := 0x18) rfl (by decide) rfl) ⟨rfl, rfl, ⟨?_, by omega, by omega⟩, fr_150⟩ hk1 hk2
              have hfin := (show CRD hs_151 tx g L 4 Aj (Aj + 1) s ec ep from ⟨rw_140, f_141, ⟨_, f_142, a1_1⟩, ⟨_, f_143, a2_1⟩, ⟨_, f_144, a6_1⟩, ⟨_, f_149, (by have q9 := (show (4 : Int32).toInt = ((4 : Nat) : Int) from by decide); omega)⟩, ⟨_, f_147, (by have q9 := a9_1; omega)⟩, ⟨_, f_148, (by have q9 := v_127; omega)⟩, ⟨_, f_146, (by have q9 := a10_1; omega)⟩, by omega, by omega, by omega, by omega⟩)
              rw [hsk]
              obtain ⟨t1, t2, t3⟩ := tk_oth (T := tx) (L := L) (s := Aj) (by omega) (by omega) (by omega)
              rw [t1, t3 (by omega)]
              exact hfin
            · simp only [i_eq, show (59 : Int32).toInt = 59 from by decide] at h63
              refine g_constI act (gx gp_119 (w := 0x4000000140000001100000000ba01) rfl (by decide) rfl) (n := 186) (x := (2 : Int32)) (by decide) rfl ?_
              refine g_goto act (gx gp_119 (w := 0xbe07) rfl (by decide) rfl) (n := 190) rfl ?_
              refine r_putf act (gx gp_119 (w := 0x1c500c113) rfl (by decide) rfl) (n := 193) (ci := 5) (j := 7) (N := 11) rfl rfl rfl rw_128.1 (by decide) (Or.inl ⟨rfl, _, rfl⟩) ?_
              have rw_152 := RWC.wr54 (j := 7) (v := .int (2 : Int32)) rw_128 (by decide)
              have f_153 := f_129.ne (k := 54) (j := 7) (v := .int (2 : Int32)) (by decide)
              have f_154 := (rd_ne hs_139 (k := 54) (j := 7) (.int (2 : Int32)) (Or.inr (by decide))).trans f_130
              have f_155 := (rd_ne hs_139 (k := 54) (j := 7) (.int (2 : Int32)) (Or.inr (by decide))).trans f_131
              have f_156 := (rd_ne hs_139 (k := 54) (j := 7) (.int (2 : Int32)) (Or.inr (by decide))).trans f_132
              have f_158 := (rd_ne hs_139 (k := 54) (j := 7) (.int (2 : Int32)) (Or.inr (by decide))).trans f_135
              have f_159 := (rd_ne hs_139 (k := 54) (j := 7) (.int (2 : Int32)) (Or.inr (by decide))).trans f_136
              have f_160 := (rd_ne hs_139 (k := 54) (j := 7) (.int (2 : Int32)) (Or.inr (by decide))).trans f_137
              have f_161 := rd_same (j := 7) (v := .int (2 : Int32)) rw_128.1
              have fr_162 := fr_138.wr (k := 54) (j := 7) (.int (2 : Int32)) (by unfold WKr; omega)
              clear rw_128 f_129 f_130 f_131 f_132 f_133 f_135 f_136 f_137 fr_138
              generalize (wr hs_139 54 7 (.int (2 : Int32))) = hs_163 at *
              refine g_retV hEnd (gx gp_119 (w := 0x18) rfl (by decide) rfl) ⟨rfl, rfl, ⟨?_, by omega, by omega⟩, fr_162⟩ hk1 hk2
              have hfin := (show CRD hs_163 tx g L 2 Aj (Aj + 1) s ec ep from ⟨rw_152, f_153, ⟨_, f_154, a1_1⟩, ⟨_, f_155, a2_1⟩, ⟨_, f_156, a6_1⟩, ⟨_, f_161, (by have q9 := (show (2 : Int32).toInt = ((2 : Nat) : Int) from by decide); omega)⟩, ⟨_, f_159, (by have q9 := a9_1; omega)⟩, ⟨_, f_160, (by have q9 := v_127; omega)⟩, ⟨_, f_158, (by have q9 := a10_1; omega)⟩, by omega, by omega, by omega, by omega⟩)
              rw [hsk]
              obtain ⟨t1, t2, t3⟩ := tk_oth (T := tx) (L := L) (s := Aj) (by omega) (by omega) (by omega)
              rw [t1, t2 (by omega)]
              exact hfin
          · simp only [i_lt, show (48 : Int32).toInt = 48 from by decide] at h56
            refine g_loadI act (gx gp_119 (w := 0x1008202) rfl (by decide) rfl) (a := 1) (n := 130) rfl rfl rfl ?_
            refine g_constI act (gx gp_119 (w := 0x4000001cc000001c9000000008401) rfl (by decide) rfl) (n := 132) (x := (57 : Int32)) (by decide) rfl ?_
            refine g_icmpGt act (gx gp_119 (w := 0xa800872b) rfl (by decide) rfl) (tgt := 168) (n := 135) rfl rfl (fun h69 => ?_) (fun h69 => ?_)
            · simp only [i_lt, show (57 : Int32).toInt = 57 from by decide] at h69
              refine g_loadA act (gx gp_119 (w := 0xa903) rfl (by decide) rfl) (a := 0) (n := 169) rfl rfl rfl ?_
              refine g_dup act (gx gp_119 (w := 0xaa22) rfl (by decide) rfl) (n := 170) rfl rfl ?_
              refine r_getf act (gx gp_119 (w := 0x24500ad04) rfl (by decide) rfl) (n := 173) (ci := 5) (j := 9) (N := 11) rfl rfl rfl rw_2.1 (by decide) (v := .int x9_1) f_9 ?_
              refine g_constI act (gx gp_119 (w := 0x40000000c0000000900000000ae01) rfl (by decide) rfl) (n := 174) (x := (1 : Int32)) (by decide) rfl ?_
              refine g_iadd act (gx gp_119 (w := 0xaf0a) rfl (by decide) rfl) (n := 175) rfl ?_
              have v_164 := iv_add a9_1 (show (1 : Int32).toInt = ((1 : Nat) : Int) from by decide) (show -2147483648 ≤ (Aj + ((1 : Nat) : Int)) by omega) (show (Aj + ((1 : Nat) : Int)) < 2147483648 by omega)
              refine r_putf act (gx gp_119 (w := 0x24500b213) rfl (by decide) rfl) (n := 178) (ci := 5) (j := 9) (N := 11) rfl rfl rfl rw_2.1 (by decide) (Or.inl ⟨rfl, _, rfl⟩) ?_
              have rw_165 := RWC.wr54 (j := 9) (v := .int (x9_1 + (1 : Int32))) rw_2 (by decide)
              have f_166 := f_3.ne (k := 54) (j := 9) (v := .int (x9_1 + (1 : Int32))) (by decide)
              have f_167 := (rd_ne hs_13 (k := 54) (j := 9) (.int (x9_1 + (1 : Int32))) (Or.inr (by decide))).trans f_4
              have f_168 := (rd_ne hs_13 (k := 54) (j := 9) (.int (x9_1 + (1 : Int32))) (Or.inr (by decide))).trans f_5
              have f_169 := (rd_ne hs_13 (k := 54) (j := 9) (.int (x9_1 + (1 : Int32))) (Or.inr (by decide))).trans f_6
              have f_170 := (rd_ne hs_13 (k := 54) (j := 9) (.int (x9_1 + (1 : Int32))) (Or.inr (by decide))).trans f_7
              have f_172 := (rd_ne hs_13 (k := 54) (j := 9) (.int (x9_1 + (1 : Int32))) (Or.inr (by decide))).trans f_10
              have f_173 := (rd_ne hs_13 (k := 54) (j := 9) (.int (x9_1 + (1 : Int32))) (Or.inr (by decide))).trans f_11
              have f_174 := rd_same (j := 9) (v := .int (x9_1 + (1 : Int32))) rw_2.1
              have fr_175 := fr_12.wr (k := 54) (j := 9) (.int (x9_1 + (1 : Int32))) (by unfold WKr; omega)
              clear rw_2 f_3 f_4 f_5 f_6 f_7 f_9 f_10 f_11 fr_12
              generalize (wr hs_13 54 9 (.int (x9_1 + (1 : Int32)))) = hs_176 at *
              refine g_loadA act (gx gp_119 (w := 0xb303) rfl (by decide) rfl) (a := 0) (n := 179) rfl rfl rfl ?_
              refine g_loadI act (gx gp_119 (w := 0x100b402) rfl (by decide) rfl) (a := 1) (n := 180) rfl rfl rfl ?_
              refine g_constI act (gx gp_119 (w := 0x4000001dc000001d900000000b601) rfl (by decide) rfl) (n := 182) (x := (59 : Int32)) (by decide) rfl ?_
              refine g_icmpNe act (gx gp_119 (w := 0xbd00b921) rfl (by decide) rfl) (tgt := 189) (n := 185) rfl rfl (fun h76 => ?_) (fun h76 => ?_)
              · simp only [i_eq, show (59 : Int32).toInt = 59 from by decide] at h76
                refine g_constI act (gx gp_119 (w := 0x4000000240000002100000000be01) rfl (by decide) rfl) (n := 190) (x := (4 : Int32)) (by decide) rfl ?_
                refine r_putf act (gx gp_119 (w := 0x1c500c113) rfl (by decide) rfl) (n := 193) (ci := 5) (j := 7) (N := 11) rfl rfl rfl rw_165.1 (by decide) (Or.inl ⟨rfl, _, rfl⟩) ?_
                have rw_177 := RWC.wr54 (j := 7) (v := .int (4 : Int32)) rw_165 (by decide)
                have f_178 := f_166.ne (k := 54) (j := 7) (v := .int (4 : Int32)) (by decide)
                have f_179 := (rd_ne hs_176 (k := 54) (j := 7) (.int (4 : Int32)) (Or.inr (by decide))).trans f_167
                have f_180 := (rd_ne hs_176 (k := 54) (j := 7) (.int (4 : Int32)) (Or.inr (by decide))).trans f_168
                have f_181 := (rd_ne hs_176 (k := 54) (j := 7) (.int (4 : Int32)) (Or.inr (by decide))).trans f_169
                have f_183 := (rd_ne hs_176 (k := 54) (j := 7) (.int (4 : Int32)) (Or.inr (by decide))).trans f_172
                have f_184 := (rd_ne hs_176 (k := 54) (j := 7) (.int (4 : Int32)) (Or.inr (by decide))).trans f_173
                have f_185 := (rd_ne hs_176 (k := 54) (j := 7) (.int (4 : Int32)) (Or.inr (by decide))).trans f_174
                have f_186 := rd_same (j := 7) (v := .int (4 : Int32)) rw_165.1
                have fr_187 := fr_175.wr (k := 54) (j := 7) (.int (4 : Int32)) (by unfold WKr; omega)
                clear rw_165 f_166 f_167 f_168 f_169 f_170 f_172 f_173 f_174 fr_175
                generalize (wr hs_176 54 7 (.int (4 : Int32))) = hs_188 at *
                refine g_retV hEnd (gx gp_119 (w := 0x18) rfl (by decide) rfl) ⟨rfl, rfl, ⟨?_, by omega, by omega⟩, fr_187⟩ hk1 hk2
                have hfin := (show CRD hs_188 tx g L 4 Aj (Aj + 1) s ec ep from ⟨rw_177, f_178, ⟨_, f_179, a1_1⟩, ⟨_, f_180, a2_1⟩, ⟨_, f_181, a6_1⟩, ⟨_, f_186, (by have q9 := (show (4 : Int32).toInt = ((4 : Nat) : Int) from by decide); omega)⟩, ⟨_, f_184, (by have q9 := a9_1; omega)⟩, ⟨_, f_185, (by have q9 := v_164; omega)⟩, ⟨_, f_183, (by have q9 := a10_1; omega)⟩, by omega, by omega, by omega, by omega⟩)
                rw [hsk]
                obtain ⟨t1, t2, t3⟩ := tk_oth (T := tx) (L := L) (s := Aj) (by omega) (by omega) (by omega)
                rw [t1, t3 (by omega)]
                exact hfin
              · simp only [i_eq, show (59 : Int32).toInt = 59 from by decide] at h76
                refine g_constI act (gx gp_119 (w := 0x4000000140000001100000000ba01) rfl (by decide) rfl) (n := 186) (x := (2 : Int32)) (by decide) rfl ?_
                refine g_goto act (gx gp_119 (w := 0xbe07) rfl (by decide) rfl) (n := 190) rfl ?_
                refine r_putf act (gx gp_119 (w := 0x1c500c113) rfl (by decide) rfl) (n := 193) (ci := 5) (j := 7) (N := 11) rfl rfl rfl rw_165.1 (by decide) (Or.inl ⟨rfl, _, rfl⟩) ?_
                have rw_189 := RWC.wr54 (j := 7) (v := .int (2 : Int32)) rw_165 (by decide)
                have f_190 := f_166.ne (k := 54) (j := 7) (v := .int (2 : Int32)) (by decide)
                have f_191 := (rd_ne hs_176 (k := 54) (j := 7) (.int (2 : Int32)) (Or.inr (by decide))).trans f_167
                have f_192 := (rd_ne hs_176 (k := 54) (j := 7) (.int (2 : Int32)) (Or.inr (by decide))).trans f_168
                have f_193 := (rd_ne hs_176 (k := 54) (j := 7) (.int (2 : Int32)) (Or.inr (by decide))).trans f_169
                have f_195 := (rd_ne hs_176 (k := 54) (j := 7) (.int (2 : Int32)) (Or.inr (by decide))).trans f_172
                have f_196 := (rd_ne hs_176 (k := 54) (j := 7) (.int (2 : Int32)) (Or.inr (by decide))).trans f_173
                have f_197 := (rd_ne hs_176 (k := 54) (j := 7) (.int (2 : Int32)) (Or.inr (by decide))).trans f_174
                have f_198 := rd_same (j := 7) (v := .int (2 : Int32)) rw_165.1
                have fr_199 := fr_175.wr (k := 54) (j := 7) (.int (2 : Int32)) (by unfold WKr; omega)
                clear rw_165 f_166 f_167 f_168 f_169 f_170 f_172 f_173 f_174 fr_175
                generalize (wr hs_176 54 7 (.int (2 : Int32))) = hs_200 at *
                refine g_retV hEnd (gx gp_119 (w := 0x18) rfl (by decide) rfl) ⟨rfl, rfl, ⟨?_, by omega, by omega⟩, fr_199⟩ hk1 hk2
                have hfin := (show CRD hs_200 tx g L 2 Aj (Aj + 1) s ec ep from ⟨rw_189, f_190, ⟨_, f_191, a1_1⟩, ⟨_, f_192, a2_1⟩, ⟨_, f_193, a6_1⟩, ⟨_, f_198, (by have q9 := (show (2 : Int32).toInt = ((2 : Nat) : Int) from by decide); omega)⟩, ⟨_, f_196, (by have q9 := a9_1; omega)⟩, ⟨_, f_197, (by have q9 := v_164; omega)⟩, ⟨_, f_195, (by have q9 := a10_1; omega)⟩, by omega, by omega, by omega, by omega⟩)
                rw [hsk]
                obtain ⟨t1, t2, t3⟩ := tk_oth (T := tx) (L := L) (s := Aj) (by omega) (by omega) (by omega)
                rw [t1, t2 (by omega)]
                exact hfin
            · simp only [i_lt, show (57 : Int32).toInt = 57 from by decide] at h69
              refine g_loadA act (gx gp_119 (w := 0x8803) rfl (by decide) rfl) (a := 0) (n := 136) rfl rfl rfl ?_
              refine g_constI act (gx gp_119 (w := 0x40000018400000181000000008a01) rfl (by decide) rfl) (n := 138) (x := (48 : Int32)) (by decide) rfl ?_
              refine g_constI act (gx gp_119 (w := 0x4000001cc000001c9000000008c01) rfl (by decide) rfl) (n := 140) (x := (57 : Int32)) (by decide) rfl ?_
              refine n_call tb_pres act hEnd (gx (P := G_call) gp_119 (w := 0x600000000000080c33000089008f0f) rfl (by decide) rfl) (d' := D_137) rfl (f' := 0) (lam' := 0) (mc := 0) (ms := 0) (as := [.ref 54, .int (48 : Int32), .int (57 : Int32)]) (rest := []) (cx_takeRun (lo9 := (48 : Int32)) (hi9 := (57 : Int32)) (show (48 : Int32).toInt = 48 from by decide) (show (57 : Int32).toInt = 57 from by decide) (by omega) (by omega) (show CRD hs_13 tx g L k Aj Aj s ec ep from ⟨rw_2, f_3, ⟨_, f_4, a1_1⟩, ⟨_, f_5, a2_1⟩, ⟨_, f_6, a6_1⟩, ⟨_, f_7, a7_1⟩, ⟨_, f_11, a9_1⟩, ⟨_, f_9, a9_1⟩, ⟨_, f_10, a10_1⟩, by omega, by omega, by omega, by omega⟩)) (show (3 : Nat) = fb 0x600000000000080c33000089008f0f % 16 by decide) (by show (3 : Nat) ≤ 3; decide) (fun _ => ⟨_, _, rfl, _, shp_at rw_2.1, Or.inr (show fb 0x600000000000080c33000089008f0f >>> 68 = 6 by decide)⟩) (by omega) (by show 8 + (3 + 11) + 0 ≤ R.locals; omega) (by show (0 : Nat) ≤ 8; decide) (by show kc + 0 ≤ _; omega) (by show ks + 0 ≤ _; omega) (fun r9 hs_c201 hpo hr9 => ?_) (fun x9 hs9 hx9 hpo => ?_)
              · obtain rfl : r9 = none := hr9.elim (fun q => q.2) (fun q => absurd rfl q.1)
                obtain ⟨-, -, hP_c201, fr_c201⟩ := hpo
                obtain ⟨-, -, -, -, -, -, -, ⟨x9_c201, e9_c201, a9_c201⟩, -, -, -, qa_c201, qb_c201⟩ := hP_c201
                have rw_202 := rw_2.fr fr_c201 (fun j9 _ _ => by unfold WTr; omega)
                have f_203 := f_3.fr fr_c201 (fun j9 => by unfold WTr; omega)
                have f_204 := (fr_c201.2.2 54 1 (by unfold WTr; omega)).trans f_4
                have f_205 := (fr_c201.2.2 54 2 (by unfold WTr; omega)).trans f_5
                have f_206 := (fr_c201.2.2 54 6 (by unfold WTr; omega)).trans f_6
                have f_207 := (fr_c201.2.2 54 7 (by unfold WTr; omega)).trans f_7
                have f_209 := (fr_c201.2.2 54 10 (by unfold WTr; omega)).trans f_10
                have f_210 := (fr_c201.2.2 54 8 (by unfold WTr; omega)).trans f_11
                have fr_211 := fr_12.tr (fr_c201.mono (fun k9 j9 h9 => by unfold WTr at h9; unfold WKr; omega))
                clear rw_2 f_3 f_4 f_5 f_6 f_7 f_9 f_10 f_11 fr_12
                show WpN (gp g0 wp) CLS p l e R sW m args below meth c Q D_119.2.2.1 kc0 ks0 143 [some (.ref 54), some (.int b_15)] (hs_c201, kc, ks) []
                refine g_loadA act (gx gp_119 (w := 0x9003) rfl (by decide) rfl) (a := 0) (n := 144) rfl rfl rfl ?_
                refine g_loadA act (gx gp_119 (w := 0x9103) rfl (by decide) rfl) (a := 0) (n := 145) rfl rfl rfl ?_
                refine r_getf act (gx gp_119 (w := 0x245009404) rfl (by decide) rfl) (n := 148) (ci := 5) (j := 9) (N := 11) rfl rfl rfl rw_202.1 (by decide) (v := .int x9_c201) e9_c201 ?_
                refine g_loadA act (gx gp_119 (w := 0x9503) rfl (by decide) rfl) (a := 0) (n := 149) rfl rfl rfl ?_
                refine r_getf act (gx gp_119 (w := 0x205009804) rfl (by decide) rfl) (n := 152) (ci := 5) (j := 8) (N := 11) rfl rfl rfl rw_202.1 (by decide) (v := .int x9_1) f_210 ?_
                refine g_isub act (gx gp_119 (w := 0x9926) rfl (by decide) rfl) (n := 153) rfl ?_
                have v_212 := iv_sub a9_c201 a9_1 (show -2147483648 ≤ ((rnn tx L 48 57 Aj) - Aj) by omega) (show ((rnn tx L 48 57 Aj) - Aj) < 2147483648 by omega)
                refine g_constI act (gx gp_119 (w := 0x40000002400000021000000009a01) rfl (by decide) rfl) (n := 154) (x := (4 : Int32)) (by decide) rfl ?_
                refine g_icmpGt act (gx gp_119 (w := 0xa1009d2b) rfl (by decide) rfl) (tgt := 161) (n := 157) rfl rfl (fun h87 => ?_) (fun h87 => ?_)
                · simp only [i_lt, show (4 : Int32).toInt = 4 from by decide] at h87
                  refine g_constI act (gx gp_119 (w := 0x4000000240000002100000000a201) rfl (by decide) rfl) (n := 162) (x := (4 : Int32)) (by decide) rfl ?_
                  refine r_putf act (gx gp_119 (w := 0x1c500a513) rfl (by decide) rfl) (n := 165) (ci := 5) (j := 7) (N := 11) rfl rfl rfl rw_202.1 (by decide) (Or.inl ⟨rfl, _, rfl⟩) ?_
                  have rw_213 := RWC.wr54 (j := 7) (v := .int (4 : Int32)) rw_202 (by decide)
                  have f_214 := f_203.ne (k := 54) (j := 7) (v := .int (4 : Int32)) (by decide)
                  have f_215 := (rd_ne hs_c201 (k := 54) (j := 7) (.int (4 : Int32)) (Or.inr (by decide))).trans f_204
                  have f_216 := (rd_ne hs_c201 (k := 54) (j := 7) (.int (4 : Int32)) (Or.inr (by decide))).trans f_205
                  have f_217 := (rd_ne hs_c201 (k := 54) (j := 7) (.int (4 : Int32)) (Or.inr (by decide))).trans f_206
                  have f_219 := (rd_ne hs_c201 (k := 54) (j := 7) (.int (4 : Int32)) (Or.inr (by decide))).trans f_209
                  have f_220 := (rd_ne hs_c201 (k := 54) (j := 7) (.int (4 : Int32)) (Or.inr (by decide))).trans f_210
                  have f_221 := (rd_ne hs_c201 (k := 54) (j := 7) (.int (4 : Int32)) (Or.inr (by decide))).trans e9_c201
                  have f_222 := rd_same (j := 7) (v := .int (4 : Int32)) rw_202.1
                  have fr_223 := fr_211.wr (k := 54) (j := 7) (.int (4 : Int32)) (by unfold WKr; omega)
                  clear rw_202 f_203 f_204 f_205 f_206 f_207 f_209 f_210 e9_c201 fr_211
                  generalize (wr hs_c201 54 7 (.int (4 : Int32))) = hs_224 at *
                  refine g_goto act (gx gp_119 (w := 0xc107) rfl (by decide) rfl) (n := 193) rfl ?_
                  refine g_retV hEnd (gx gp_119 (w := 0x18) rfl (by decide) rfl) ⟨rfl, rfl, ⟨?_, by omega, by omega⟩, fr_223⟩ hk1 hk2
                  have hfin := (show CRD hs_224 tx g L 4 Aj (rnn tx L 48 57 Aj) s ec ep from ⟨rw_213, f_214, ⟨_, f_215, a1_1⟩, ⟨_, f_216, a2_1⟩, ⟨_, f_217, a6_1⟩, ⟨_, f_222, (by have q9 := (show (4 : Int32).toInt = ((4 : Nat) : Int) from by decide); omega)⟩, ⟨_, f_220, (by have q9 := a9_1; omega)⟩, ⟨_, f_221, (by have q9 := a9_c201; omega)⟩, ⟨_, f_219, (by have q9 := a10_1; omega)⟩, by omega, by omega, by omega, by omega⟩)
                  rw [hsk]
                  obtain ⟨t1, t2, t3⟩ := tk_num (T := tx) (L := L) (s := Aj) (by omega) (by omega) (by omega)
                  rw [t1, t3 (by omega)]
                  exact hfin
                · simp only [i_lt, show (4 : Int32).toInt = 4 from by decide] at h87
                  refine g_constI act (gx gp_119 (w := 0x40000000c00000009000000009e01) rfl (by decide) rfl) (n := 158) (x := (1 : Int32)) (by decide) rfl ?_
                  refine g_goto act (gx gp_119 (w := 0xa207) rfl (by decide) rfl) (n := 162) rfl ?_
                  refine r_putf act (gx gp_119 (w := 0x1c500a513) rfl (by decide) rfl) (n := 165) (ci := 5) (j := 7) (N := 11) rfl rfl rfl rw_202.1 (by decide) (Or.inl ⟨rfl, _, rfl⟩) ?_
                  have rw_225 := RWC.wr54 (j := 7) (v := .int (1 : Int32)) rw_202 (by decide)
                  have f_226 := f_203.ne (k := 54) (j := 7) (v := .int (1 : Int32)) (by decide)
                  have f_227 := (rd_ne hs_c201 (k := 54) (j := 7) (.int (1 : Int32)) (Or.inr (by decide))).trans f_204
                  have f_228 := (rd_ne hs_c201 (k := 54) (j := 7) (.int (1 : Int32)) (Or.inr (by decide))).trans f_205
                  have f_229 := (rd_ne hs_c201 (k := 54) (j := 7) (.int (1 : Int32)) (Or.inr (by decide))).trans f_206
                  have f_231 := (rd_ne hs_c201 (k := 54) (j := 7) (.int (1 : Int32)) (Or.inr (by decide))).trans f_209
                  have f_232 := (rd_ne hs_c201 (k := 54) (j := 7) (.int (1 : Int32)) (Or.inr (by decide))).trans f_210
                  have f_233 := (rd_ne hs_c201 (k := 54) (j := 7) (.int (1 : Int32)) (Or.inr (by decide))).trans e9_c201
                  have f_234 := rd_same (j := 7) (v := .int (1 : Int32)) rw_202.1
                  have fr_235 := fr_211.wr (k := 54) (j := 7) (.int (1 : Int32)) (by unfold WKr; omega)
                  clear rw_202 f_203 f_204 f_205 f_206 f_207 f_209 f_210 e9_c201 fr_211
                  generalize (wr hs_c201 54 7 (.int (1 : Int32))) = hs_236 at *
                  refine g_goto act (gx gp_119 (w := 0xc107) rfl (by decide) rfl) (n := 193) rfl ?_
                  refine g_retV hEnd (gx gp_119 (w := 0x18) rfl (by decide) rfl) ⟨rfl, rfl, ⟨?_, by omega, by omega⟩, fr_235⟩ hk1 hk2
                  have hfin := (show CRD hs_236 tx g L 1 Aj (rnn tx L 48 57 Aj) s ec ep from ⟨rw_225, f_226, ⟨_, f_227, a1_1⟩, ⟨_, f_228, a2_1⟩, ⟨_, f_229, a6_1⟩, ⟨_, f_234, (by have q9 := (show (1 : Int32).toInt = ((1 : Nat) : Int) from by decide); omega)⟩, ⟨_, f_232, (by have q9 := a9_1; omega)⟩, ⟨_, f_233, (by have q9 := a9_c201; omega)⟩, ⟨_, f_231, (by have q9 := a10_1; omega)⟩, by omega, by omega, by omega, by omega⟩)
                  rw [hsk]
                  obtain ⟨t1, t2, t3⟩ := tk_num (T := tx) (L := L) (s := Aj) (by omega) (by omega) (by omega)
                  rw [t1, t2 (by omega)]
                  exact hfin
              · exact absurd hpo.1 (by omega)
        · simp only [i_lt, show (122 : Int32).toInt = 122 from by decide] at h53
          refine g_loadA act (gx gp_119 (w := 0x6c03) rfl (by decide) rfl) (a := 0) (n := 108) rfl rfl rfl ?_
          refine g_constI act (gx gp_119 (w := 0x40000030c00000309000000006e01) rfl (by decide) rfl) (n := 110) (x := (97 : Int32)) (by decide) rfl ?_
          refine g_constI act (gx gp_119 (w := 0x4000003d4000003d1000000007001) rfl (by decide) rfl) (n := 112) (x := (122 : Int32)) (by decide) rfl ?_
          refine n_call tb_pres act hEnd (gx (P := G_call) gp_119 (w := 0x600000000000080c3300008900730f) rfl (by decide) rfl) (d' := D_137) rfl (f' := 0) (lam' := 0) (mc := 0) (ms := 0) (as := [.ref 54, .int (97 : Int32), .int (122 : Int32)]) (rest := []) (cx_takeRun (lo9 := (97 : Int32)) (hi9 := (122 : Int32)) (show (97 : Int32).toInt = 97 from by decide) (show (122 : Int32).toInt = 122 from by decide) (by omega) (by omega) (show CRD hs_13 tx g L k Aj Aj s ec ep from ⟨rw_2, f_3, ⟨_, f_4, a1_1⟩, ⟨_, f_5, a2_1⟩, ⟨_, f_6, a6_1⟩, ⟨_, f_7, a7_1⟩, ⟨_, f_11, a9_1⟩, ⟨_, f_9, a9_1⟩, ⟨_, f_10, a10_1⟩, by omega, by omega, by omega, by omega⟩)) (show (3 : Nat) = fb 0x600000000000080c3300008900730f % 16 by decide) (by show (3 : Nat) ≤ 3; decide) (fun _ => ⟨_, _, rfl, _, shp_at rw_2.1, Or.inr (show fb 0x600000000000080c3300008900730f >>> 68 = 6 by decide)⟩) (by omega) (by show 8 + (3 + 11) + 0 ≤ R.locals; omega) (by show (0 : Nat) ≤ 8; decide) (by show kc + 0 ≤ _; omega) (by show ks + 0 ≤ _; omega) (fun r9 hs_c237 hpo hr9 => ?_) (fun x9 hs9 hx9 hpo => ?_)
          · obtain rfl : r9 = none := hr9.elim (fun q => q.2) (fun q => absurd rfl q.1)
            obtain ⟨-, -, hP_c237, fr_c237⟩ := hpo
            obtain ⟨-, -, -, -, -, -, -, ⟨x9_c237, e9_c237, a9_c237⟩, -, -, -, qa_c237, qb_c237⟩ := hP_c237
            have rw_238 := rw_2.fr fr_c237 (fun j9 _ _ => by unfold WTr; omega)
            have f_239 := f_3.fr fr_c237 (fun j9 => by unfold WTr; omega)
            have f_240 := (fr_c237.2.2 54 1 (by unfold WTr; omega)).trans f_4
            have f_241 := (fr_c237.2.2 54 2 (by unfold WTr; omega)).trans f_5
            have f_242 := (fr_c237.2.2 54 6 (by unfold WTr; omega)).trans f_6
            have f_243 := (fr_c237.2.2 54 7 (by unfold WTr; omega)).trans f_7
            have f_245 := (fr_c237.2.2 54 10 (by unfold WTr; omega)).trans f_10
            have f_246 := (fr_c237.2.2 54 8 (by unfold WTr; omega)).trans f_11
            have fr_247 := fr_12.tr (fr_c237.mono (fun k9 j9 h9 => by unfold WTr at h9; unfold WKr; omega))
            clear rw_2 f_3 f_4 f_5 f_6 f_7 f_9 f_10 f_11 fr_12
            show WpN (gp g0 wp) CLS p l e R sW m args below meth c Q D_119.2.2.1 kc0 ks0 115 [some (.ref 54), some (.int b_15)] (hs_c237, kc, ks) []
            refine g_loadA act (gx gp_119 (w := 0x7403) rfl (by decide) rfl) (a := 0) (n := 116) rfl rfl rfl ?_
            refine g_constI act (gx gp_119 (w := 0x40000000400000001000000007501) rfl (by decide) rfl) (n := 117) (x := (0 : Int32)) (by decide) rfl ?_
            refine r_putf act (gx gp_119 (w := 0x1c5007813) rfl (by decide) rfl) (n := 120) (ci := 5) (j := 7) (N := 11) rfl rfl rfl rw_238.1 (by decide) (Or.inl ⟨rfl, _, rfl⟩) ?_
            have rw_248 := RWC.wr54 (j := 7) (v := .int (0 : Int32)) rw_238 (by decide)
            have f_249 := f_239.ne (k := 54) (j := 7) (v := .int (0 : Int32)) (by decide)
            have f_250 := (rd_ne hs_c237 (k := 54) (j := 7) (.int (0 : Int32)) (Or.inr (by decide))).trans f_240
            have f_251 := (rd_ne hs_c237 (k := 54) (j := 7) (.int (0 : Int32)) (Or.inr (by decide))).trans f_241
            have f_252 := (rd_ne hs_c237 (k := 54) (j := 7) (.int (0 : Int32)) (Or.inr (by decide))).trans f_242
            have f_254 := (rd_ne hs_c237 (k := 54) (j := 7) (.int (0 : Int32)) (Or.inr (by decide))).trans f_245
            have f_255 := (rd_ne hs_c237 (k := 54) (j := 7) (.int (0 : Int32)) (Or.inr (by decide))).trans f_246
            have f_256 := (rd_ne hs_c237 (k := 54) (j := 7) (.int (0 : Int32)) (Or.inr (by decide))).trans e9_c237
            have f_257 := rd_same (j := 7) (v := .int (0 : Int32)) rw_238.1
            have fr_258 := fr_247.wr (k := 54) (j := 7) (.int (0 : Int32)) (by unfold WKr; omega)
            clear rw_238 f_239 f_240 f_241 f_242 f_243 f_245 f_246 e9_c237 fr_247
            generalize (wr hs_c237 54 7 (.int (0 : Int32))) = hs_259 at *
            refine g_goto act (gx gp_119 (w := 0xc107) rfl (by decide) rfl) (n := 193) rfl ?_
            refine g_retV hEnd (gx gp_119 (w := 0x18) rfl (by decide) rfl) ⟨rfl, rfl, ⟨?_, by omega, by omega⟩, fr_258⟩ hk1 hk2
            have hfin := (show CRD hs_259 tx g L 0 Aj (rnn tx L 97 122 Aj) s ec ep from ⟨rw_248, f_249, ⟨_, f_250, a1_1⟩, ⟨_, f_251, a2_1⟩, ⟨_, f_252, a6_1⟩, ⟨_, f_257, (by have q9 := (show (0 : Int32).toInt = ((0 : Nat) : Int) from by decide); omega)⟩, ⟨_, f_255, (by have q9 := a9_1; omega)⟩, ⟨_, f_256, (by have q9 := a9_c237; omega)⟩, ⟨_, f_254, (by have q9 := a10_1; omega)⟩, by omega, by omega, by omega, by omega⟩)
            rw [hsk]
            obtain ⟨t1, t2⟩ := tk_wrd (T := tx) (L := L) (s := Aj) (by omega) (by omega) (by omega)
            rw [t1, t2]
            exact hfin
          · exact absurd hpo.1 (by omega)
    · simp only [i_lt] at h5
      refine g_loadA act (gx gp_119 (w := 0x5003) rfl (by decide) rfl) (a := 0) (n := 80) rfl rfl rfl ?_
      refine g_constI act (gx gp_119 (w := 0x40000001c00000019000000005101) rfl (by decide) rfl) (n := 81) (x := (3 : Int32)) (by decide) rfl ?_
      refine r_putf act (gx gp_119 (w := 0x1c5005413) rfl (by decide) rfl) (n := 84) (ci := 5) (j := 7) (N := 11) rfl rfl rfl rw_2.1 (by decide) (Or.inl ⟨rfl, _, rfl⟩) ?_
      have rw_260 := RWC.wr54 (j := 7) (v := .int (3 : Int32)) rw_2 (by decide)
      have f_261 := f_3.ne (k := 54) (j := 7) (v := .int (3 : Int32)) (by decide)
      have f_262 := (rd_ne hs_13 (k := 54) (j := 7) (.int (3 : Int32)) (Or.inr (by decide))).trans f_4
      have f_263 := (rd_ne hs_13 (k := 54) (j := 7) (.int (3 : Int32)) (Or.inr (by decide))).trans f_5
      have f_264 := (rd_ne hs_13 (k := 54) (j := 7) (.int (3 : Int32)) (Or.inr (by decide))).trans f_6
      have f_266 := (rd_ne hs_13 (k := 54) (j := 7) (.int (3 : Int32)) (Or.inr (by decide))).trans f_9
      have f_267 := (rd_ne hs_13 (k := 54) (j := 7) (.int (3 : Int32)) (Or.inr (by decide))).trans f_10
      have f_268 := (rd_ne hs_13 (k := 54) (j := 7) (.int (3 : Int32)) (Or.inr (by decide))).trans f_11
      have f_269 := rd_same (j := 7) (v := .int (3 : Int32)) rw_2.1
      have fr_270 := fr_12.wr (k := 54) (j := 7) (.int (3 : Int32)) (by unfold WKr; omega)
      clear rw_2 f_3 f_4 f_5 f_6 f_7 f_9 f_10 f_11 fr_12
      generalize (wr hs_13 54 7 (.int (3 : Int32))) = hs_271 at *
      refine g_retV hEnd (gx gp_119 (w := 0x18) rfl (by decide) rfl) ⟨rfl, rfl, ⟨?_, by omega, by omega⟩, fr_270⟩ hk1 hk2
      have hfin := (show CRD hs_271 tx g L 3 Aj Aj s ec ep from ⟨rw_260, f_261, ⟨_, f_262, a1_1⟩, ⟨_, f_263, a2_1⟩, ⟨_, f_264, a6_1⟩, ⟨_, f_269, (by have q9 := (show (3 : Int32).toInt = ((3 : Nat) : Int) from by decide); omega)⟩, ⟨_, f_268, (by have q9 := a9_1; omega)⟩, ⟨_, f_266, (by have q9 := a9_1; omega)⟩, ⟨_, f_267, (by have q9 := a10_1; omega)⟩, by omega, by omega, by omega, by omega⟩)
      rw [hsk]
      obtain ⟨t1, t2⟩ := tk_end (T := tx) (L := L) (s := Aj) (by omega)
      rw [t1, t2]
      exact hfin
  have loop : ∀ (hj : List CE) (Aj : Int), CRD hj tx g L k s Aj s ec ep → FrS WKr hs hj → skp tx L A = skp tx L Aj → WpN (gp g0 wp) CLS p l e R sW m args below meth c Q D_119.2.2.1 kc0 ks0 8 [some (.ref 54), none] (hj, kc, ks) [] := by
    intro hj Aj hPj hfr hsk
    generalize hm : (L - Aj).toNat = m9
    induction m9 using Nat.strongRecOn generalizing hj Aj with
    | _ m9 ih =>
    subst hm
    obtain ⟨rw_1, hT_1, ⟨x1_1, e1_1, a1_1⟩, ⟨x2_1, e2_1, a2_1⟩, ⟨x6_1, e6_1, a6_1⟩, ⟨x7_1, e7_1, a7_1⟩, ⟨x8_1, e8_1, a8_1⟩, ⟨x9_1, e9_1, a9_1⟩, ⟨x10_1, e10_1, a10_1⟩, q1_1, q2_1, q3_1, q4_1⟩ := hPj
    refine g_loadA act (gx gp_119 (w := 0x903) rfl (by decide) rfl) (a := 0) (n := 9) rfl rfl rfl ?_
    refine r_getf act (gx gp_119 (w := 0x245000c04) rfl (by decide) rfl) (n := 12) (ci := 5) (j := 9) (N := 11) rfl rfl rfl rw_1.1 (by decide) (v := .int x9_1) e9_1 ?_
    refine g_loadA act (gx gp_119 (w := 0xd03) rfl (by decide) rfl) (a := 0) (n := 13) rfl rfl rfl ?_
    refine r_getf act (gx gp_119 (w := 0x185001004) rfl (by decide) rfl) (n := 16) (ci := 5) (j := 6) (N := 11) rfl rfl rfl rw_1.1 (by decide) (v := .int x6_1) e6_1 ?_
    refine g_icmpGe act (gx gp_119 (w := 0x3c001308) rfl (by decide) rfl) (tgt := 60) (n := 19) rfl rfl (fun h3 => ?_) (fun h3 => ?_)
    · simp only [i_le] at h3
      exact tail _ _ (show CRD hj tx g L k s Aj s ec ep from ⟨rw_1, hT_1, ⟨_, e1_1, a1_1⟩, ⟨_, e2_1, a2_1⟩, ⟨_, e6_1, a6_1⟩, ⟨_, e7_1, a7_1⟩, ⟨_, e8_1, a8_1⟩, ⟨_, e9_1, a9_1⟩, ⟨_, e10_1, a10_1⟩, by omega, by omega, by omega, by omega⟩) hfr (by have z1 : skp tx L Aj = Aj := skp_no (by omega); exact hsk.trans z1)
    · simp only [i_le] at h3
      refine g_loadA act (gx gp_119 (w := 0x1403) rfl (by decide) rfl) (a := 0) (n := 20) rfl rfl rfl ?_
      refine r_getf act (gx gp_119 (w := 0x30000c5001704) rfl (by decide) rfl) (n := 23) (ci := 5) (j := 3) (N := 11) rfl rfl rfl rw_1.1 (by decide) (v := .ref 55) rw_1.2.2.1 ?_
      refine g_loadA act (gx gp_119 (w := 0x1803) rfl (by decide) rfl) (a := 0) (n := 24) rfl rfl rfl ?_
      refine r_getf act (gx gp_119 (w := 0x245001b04) rfl (by decide) rfl) (n := 27) (ci := 5) (j := 9) (N := 11) rfl rfl rfl rw_1.1 (by decide) (v := .int x9_1) e9_1 ?_
      obtain ⟨j_2, hj_2⟩ := Int.eq_ofNat_of_zero_le (show (0 : Int) ≤ Aj by omega)
      have ht_j_2 := txn tx hj_2
      obtain ⟨b_3, e_4, lo_b_3, hi_b_3, tb_b_3⟩ := hT_1 j_2 (by omega)
      refine r_bald act (gx gp_119 (w := 0x1c40) rfl (by decide) rfl) (n := 28) (N := 700) (j := j_2) rfl rw_1.2.1 (a9_1.trans hj_2) (by omega) (v := .int b_3) e_4 ?_
      refine g_constI act (gx gp_119 (w := 0x40000005400000051000000001e01) rfl (by decide) rfl) (n := 30) (x := (10 : Int32)) (by decide) rfl ?_
      refine g_icmpEq act (gx gp_119 (w := 0x2f00212e) rfl (by decide) rfl) (tgt := 47) (n := 33) rfl rfl (fun h7 => ?_) (fun h7 => ?_)
      · simp only [i_eq, show (10 : Int32).toInt = 10 from by decide] at h7
        refine g_loadA act (gx gp_119 (w := 0x3003) rfl (by decide) rfl) (a := 0) (n := 48) rfl rfl rfl ?_
        refine g_dup act (gx gp_119 (w := 0x3122) rfl (by decide) rfl) (n := 49) rfl rfl ?_
        refine r_getf act (gx gp_119 (w := 0x245003404) rfl (by decide) rfl) (n := 52) (ci := 5) (j := 9) (N := 11) rfl rfl rfl rw_1.1 (by decide) (v := .int x9_1) e9_1 ?_
        refine g_constI act (gx gp_119 (w := 0x40000000c00000009000000003501) rfl (by decide) rfl) (n := 53) (x := (1 : Int32)) (by decide) rfl ?_
        refine g_iadd act (gx gp_119 (w := 0x360a) rfl (by decide) rfl) (n := 54) rfl ?_
        have v_5 := iv_add a9_1 (show (1 : Int32).toInt = ((1 : Nat) : Int) from by decide) (show -2147483648 ≤ (Aj + ((1 : Nat) : Int)) by omega) (show (Aj + ((1 : Nat) : Int)) < 2147483648 by omega)
        refine r_putf act (gx gp_119 (w := 0x245003913) rfl (by decide) rfl) (n := 57) (ci := 5) (j := 9) (N := 11) rfl rfl rfl rw_1.1 (by decide) (Or.inl ⟨rfl, _, rfl⟩) ?_
        have rw_6 := RWC.wr54 (j := 9) (v := .int (x9_1 + (1 : Int32))) rw_1 (by decide)
        have f_7 := hT_1.ne (k := 54) (j := 9) (v := .int (x9_1 + (1 : Int32))) (by decide)
        have f_8 := (rd_ne hj (k := 54) (j := 9) (.int (x9_1 + (1 : Int32))) (Or.inr (by decide))).trans e1_1
        have f_9 := (rd_ne hj (k := 54) (j := 9) (.int (x9_1 + (1 : Int32))) (Or.inr (by decide))).trans e2_1
        have f_10 := (rd_ne hj (k := 54) (j := 9) (.int (x9_1 + (1 : Int32))) (Or.inr (by decide))).trans e6_1
        have f_11 := (rd_ne hj (k := 54) (j := 9) (.int (x9_1 + (1 : Int32))) (Or.inr (by decide))).trans e7_1
        have f_12 := (rd_ne hj (k := 54) (j := 9) (.int (x9_1 + (1 : Int32))) (Or.inr (by decide))).trans e8_1
        have f_14 := (rd_ne hj (k := 54) (j := 9) (.int (x9_1 + (1 : Int32))) (Or.inr (by decide))).trans e10_1
        have f_15 := rd_same (j := 9) (v := .int (x9_1 + (1 : Int32))) rw_1.1
        have fr_16 := hfr.wr (k := 54) (j := 9) (.int (x9_1 + (1 : Int32))) (by unfold WKr; omega)
        clear rw_1 hT_1 e1_1 e2_1 e6_1 e7_1 e8_1 e9_1 e10_1 hfr
        generalize (wr hj 54 9 (.int (x9_1 + (1 : Int32)))) = hs_17 at *
        refine g_goto act (gx gp_119 (w := 0x807) rfl (by decide) rfl) (n := 8) rfl ?_
        exact ih _ (by omega) _ _ (show CRD hs_17 tx g L k s (Aj + ((1 : Nat) : Int)) s ec ep from ⟨rw_6, f_7, ⟨_, f_8, a1_1⟩, ⟨_, f_9, a2_1⟩, ⟨_, f_10, a6_1⟩, ⟨_, f_11, a7_1⟩, ⟨_, f_12, a8_1⟩, ⟨_, f_15, v_5⟩, ⟨_, f_14, a10_1⟩, by omega, by omega, by omega, by omega⟩) fr_16 (hsk.trans ((skp_go (by omega) (by omega)).trans (congrArg (skp tx L) (by omega)))) rfl
      · simp only [i_eq, show (10 : Int32).toInt = 10 from by decide] at h7
        refine g_loadA act (gx gp_119 (w := 0x2203) rfl (by decide) rfl) (a := 0) (n := 34) rfl rfl rfl ?_
        refine r_getf act (gx gp_119 (w := 0x30000c5002504) rfl (by decide) rfl) (n := 37) (ci := 5) (j := 3) (N := 11) rfl rfl rfl rw_1.1 (by decide) (v := .ref 55) rw_1.2.2.1 ?_
        refine g_loadA act (gx gp_119 (w := 0x2603) rfl (by decide) rfl) (a := 0) (n := 38) rfl rfl rfl ?_
        refine r_getf act (gx gp_119 (w := 0x245002904) rfl (by decide) rfl) (n := 41) (ci := 5) (j := 9) (N := 11) rfl rfl rfl rw_1.1 (by decide) (v := .int x9_1) e9_1 ?_
        obtain ⟨b_18, e_19, lo_b_18, hi_b_18, tb_b_18⟩ := hT_1 j_2 (by omega)
        refine r_bald act (gx gp_119 (w := 0x2a40) rfl (by decide) rfl) (n := 42) (N := 700) (j := j_2) rfl rw_1.2.1 (a9_1.trans hj_2) (by omega) (v := .int b_18) e_19 ?_
        refine g_constI act (gx gp_119 (w := 0x40000010400000101000000002c01) rfl (by decide) rfl) (n := 44) (x := (32 : Int32)) (by decide) rfl ?_
        refine g_icmpNe act (gx gp_119 (w := 0x3c002f21) rfl (by decide) rfl) (tgt := 60) (n := 47) rfl rfl (fun h15 => ?_) (fun h15 => ?_)
        · simp only [i_eq, show (32 : Int32).toInt = 32 from by decide] at h15
          exact tail _ _ (show CRD hj tx g L k s Aj s ec ep from ⟨rw_1, hT_1, ⟨_, e1_1, a1_1⟩, ⟨_, e2_1, a2_1⟩, ⟨_, e6_1, a6_1⟩, ⟨_, e7_1, a7_1⟩, ⟨_, e8_1, a8_1⟩, ⟨_, e9_1, a9_1⟩, ⟨_, e10_1, a10_1⟩, by omega, by omega, by omega, by omega⟩) hfr (by have z1 : skp tx L Aj = Aj := skp_no (by omega); exact hsk.trans z1)
        · simp only [i_eq, show (32 : Int32).toInt = 32 from by decide] at h15
          refine g_loadA act (gx gp_119 (w := 0x3003) rfl (by decide) rfl) (a := 0) (n := 48) rfl rfl rfl ?_
          refine g_dup act (gx gp_119 (w := 0x3122) rfl (by decide) rfl) (n := 49) rfl rfl ?_
          refine r_getf act (gx gp_119 (w := 0x245003404) rfl (by decide) rfl) (n := 52) (ci := 5) (j := 9) (N := 11) rfl rfl rfl rw_1.1 (by decide) (v := .int x9_1) e9_1 ?_
          refine g_constI act (gx gp_119 (w := 0x40000000c00000009000000003501) rfl (by decide) rfl) (n := 53) (x := (1 : Int32)) (by decide) rfl ?_
          refine g_iadd act (gx gp_119 (w := 0x360a) rfl (by decide) rfl) (n := 54) rfl ?_
          have v_20 := iv_add a9_1 (show (1 : Int32).toInt = ((1 : Nat) : Int) from by decide) (show -2147483648 ≤ (Aj + ((1 : Nat) : Int)) by omega) (show (Aj + ((1 : Nat) : Int)) < 2147483648 by omega)
          refine r_putf act (gx gp_119 (w := 0x245003913) rfl (by decide) rfl) (n := 57) (ci := 5) (j := 9) (N := 11) rfl rfl rfl rw_1.1 (by decide) (Or.inl ⟨rfl, _, rfl⟩) ?_
          have rw_21 := RWC.wr54 (j := 9) (v := .int (x9_1 + (1 : Int32))) rw_1 (by decide)
          have f_22 := hT_1.ne (k := 54) (j := 9) (v := .int (x9_1 + (1 : Int32))) (by decide)
          have f_23 := (rd_ne hj (k := 54) (j := 9) (.int (x9_1 + (1 : Int32))) (Or.inr (by decide))).trans e1_1
          have f_24 := (rd_ne hj (k := 54) (j := 9) (.int (x9_1 + (1 : Int32))) (Or.inr (by decide))).trans e2_1
          have f_25 := (rd_ne hj (k := 54) (j := 9) (.int (x9_1 + (1 : Int32))) (Or.inr (by decide))).trans e6_1
          have f_26 := (rd_ne hj (k := 54) (j := 9) (.int (x9_1 + (1 : Int32))) (Or.inr (by decide))).trans e7_1
          have f_27 := (rd_ne hj (k := 54) (j := 9) (.int (x9_1 + (1 : Int32))) (Or.inr (by decide))).trans e8_1
          have f_29 := (rd_ne hj (k := 54) (j := 9) (.int (x9_1 + (1 : Int32))) (Or.inr (by decide))).trans e10_1
          have f_30 := rd_same (j := 9) (v := .int (x9_1 + (1 : Int32))) rw_1.1
          have fr_31 := hfr.wr (k := 54) (j := 9) (.int (x9_1 + (1 : Int32))) (by unfold WKr; omega)
          clear rw_1 hT_1 e1_1 e2_1 e6_1 e7_1 e8_1 e9_1 e10_1 hfr
          generalize (wr hj 54 9 (.int (x9_1 + (1 : Int32)))) = hs_32 at *
          refine g_goto act (gx gp_119 (w := 0x807) rfl (by decide) rfl) (n := 8) rfl ?_
          exact ih _ (by omega) _ _ (show CRD hs_32 tx g L k s (Aj + ((1 : Nat) : Int)) s ec ep from ⟨rw_21, f_22, ⟨_, f_23, a1_1⟩, ⟨_, f_24, a2_1⟩, ⟨_, f_25, a6_1⟩, ⟨_, f_26, a7_1⟩, ⟨_, f_27, a8_1⟩, ⟨_, f_30, v_20⟩, ⟨_, f_29, a10_1⟩, by omega, by omega, by omega, by omega⟩) fr_31 (hsk.trans ((skp_go (by omega) (by omega)).trans (congrArg (skp tx L) (by omega)))) rfl
  obtain ⟨rw_1, hT_1, ⟨x1_1, e1_1, a1_1⟩, ⟨x2_1, e2_1, a2_1⟩, ⟨x6_1, e6_1, a6_1⟩, ⟨x7_1, e7_1, a7_1⟩, ⟨x8_1, e8_1, a8_1⟩, ⟨x9_1, e9_1, a9_1⟩, ⟨x10_1, e10_1, a10_1⟩, q1_1, q2_1, q3_1, q4_1⟩ := hP
  have hfr0 := FrS.rf WKr hs
  show WpN (gp g0 wp) CLS p l e R sW m args below meth c Q D_119.2.2.1 kc0 ks0 0 [some (.ref 54), none] (hs, kc, ks) []
  refine g_loadA act (gx gp_119 (w := 0x103) rfl (by decide) rfl) (a := 0) (n := 1) rfl rfl rfl ?_
  refine g_loadA act (gx gp_119 (w := 0x203) rfl (by decide) rfl) (a := 0) (n := 2) rfl rfl rfl ?_
  refine r_getf act (gx gp_119 (w := 0x205000504) rfl (by decide) rfl) (n := 5) (ci := 5) (j := 8) (N := 11) rfl rfl rfl rw_1.1 (by decide) (v := .int x8_1) e8_1 ?_
  refine r_putf act (gx gp_119 (w := 0x285000813) rfl (by decide) rfl) (n := 8) (ci := 5) (j := 10) (N := 11) rfl rfl rfl rw_1.1 (by decide) (Or.inl ⟨rfl, _, rfl⟩) ?_
  have rw_2 := RWC.wr54 (j := 10) (v := .int x8_1) rw_1 (by decide)
  have f_3 := hT_1.ne (k := 54) (j := 10) (v := .int x8_1) (by decide)
  have f_4 := (rd_ne hs (k := 54) (j := 10) (.int x8_1) (Or.inr (by decide))).trans e1_1
  have f_5 := (rd_ne hs (k := 54) (j := 10) (.int x8_1) (Or.inr (by decide))).trans e2_1
  have f_6 := (rd_ne hs (k := 54) (j := 10) (.int x8_1) (Or.inr (by decide))).trans e6_1
  have f_7 := (rd_ne hs (k := 54) (j := 10) (.int x8_1) (Or.inr (by decide))).trans e7_1
  have f_8 := (rd_ne hs (k := 54) (j := 10) (.int x8_1) (Or.inr (by decide))).trans e8_1
  have f_9 := (rd_ne hs (k := 54) (j := 10) (.int x8_1) (Or.inr (by decide))).trans e9_1
  have f_11 := rd_same (j := 10) (v := .int x8_1) rw_1.1
  have fr_12 := hfr0.wr (k := 54) (j := 10) (.int x8_1) (by unfold WKr; omega)
  clear rw_1 hT_1 e1_1 e2_1 e6_1 e7_1 e8_1 e9_1 e10_1 hfr0
  generalize (wr hs 54 10 (.int x8_1)) = hs_13 at *
  exact loop _ _ (show CRD hs_13 tx g L k s A s ec ep from ⟨rw_2, f_3, ⟨_, f_4, a1_1⟩, ⟨_, f_5, a2_1⟩, ⟨_, f_6, a6_1⟩, ⟨_, f_7, a7_1⟩, ⟨_, f_8, a8_1⟩, ⟨_, f_9, a9_1⟩, ⟨_, f_11, a8_1⟩, by omega, by omega, by omega, by omega⟩) fr_12 rfl

theorem cx_value (hT : tkK tx L s = 1) (h0 : 0 ≤ s) (hP : CRD hs tx g L k s (tkE tx L s) P ec ep) : BodyN SSX TBL g0 CLS bl xs l D_138 0 0 0 0 [.ref 54] hs (fun kd r h2 => kd = 0 ∧ hs = h2 ∧ ∃ x : Int32, r = some (.int x) ∧ x.toInt = vlT tx L s) := by
  intro wp p e R sW m args below meth c Q kc0 ks0 kc ks act hf hl hc hsl hEnd
  have hf : 0 ≤ R.frames := hf
  have hl : 0 ≤ R.locals := hl
  have hk1 : kc ≤ kc + 0 := by omega
  have hk2 : ks ≤ ks + 0 := by omega
  obtain ⟨w1, w2, w3, w4, w5⟩ := tk_num_inv hT
  rw [w5] at hP
  have w6 := rnn_ge (T := tx) (L := L) (lo := 48) (hi := 57) (A := s)
  have w7 := rnn_le (T := tx) (L := L) (lo := 48) (hi := 57) (A := s) (by omega)
  obtain ⟨rw_1, hT_1, ⟨x1_1, e1_1, a1_1⟩, ⟨x2_1, e2_1, a2_1⟩, ⟨x6_1, e6_1, a6_1⟩, ⟨x7_1, e7_1, a7_1⟩, ⟨x8_1, e8_1, a8_1⟩, ⟨x9_1, e9_1, a9_1⟩, ⟨x10_1, e10_1, a10_1⟩, q1_1, q2_1, q3_1, q4_1⟩ := hP
  have hfr0 := FrS.rf WKr hs
  have loop : ∀ (v9 i9 : Int32) (Ij : Int), v9.toInt = NV tx s Ij → i9.toInt = Ij → s ≤ Ij → Ij ≤ rnn tx L 48 57 s → WpN (gp g0 wp) CLS p l e R sW m args below meth c Q D_138.2.2.1 kc0 ks0 7 [some (.ref 54), some (.int v9), some (.int i9)] (hs, kc, ks) [] := by
    intro v9 i9 Ij hv9 hi9 hs1 hs2
    generalize hm : (rnn tx L 48 57 s - Ij).toNat = m9
    induction m9 using Nat.strongRecOn generalizing v9 i9 Ij with
    | _ m9 ih =>
    subst hm
    have w8 := nv_bd (T := tx) (L := L) (s := s) (K := Ij) (by omega) (by omega) (by omega)
    refine g_loadI act (gx gp_138 (w := 0x2000802) rfl (by decide) rfl) (a := 2) (n := 8) rfl rfl rfl ?_
    refine g_loadA act (gx gp_138 (w := 0x903) rfl (by decide) rfl) (a := 0) (n := 9) rfl rfl rfl ?_
    refine r_getf act (gx gp_138 (w := 0x245000c04) rfl (by decide) rfl) (n := 12) (ci := 5) (j := 9) (N := 11) rfl rfl rfl rw_1.1 (by decide) (v := .int x9_1) e9_1 ?_
    refine g_icmpGe act (gx gp_138 (w := 0x24000f08) rfl (by decide) rfl) (tgt := 36) (n := 15) rfl rfl (fun h3 => ?_) (fun h3 => ?_)
    · simp only [i_le] at h3
      refine g_loadI act (gx gp_138 (w := 0x1002502) rfl (by decide) rfl) (a := 1) (n := 37) rfl rfl rfl ?_
      exact g_retI hEnd (gx gp_138 (w := 0x2f) rfl (by decide) rfl) ⟨rfl, rfl, _, rfl, by rw [hv9, show Ij = rnn tx L 48 57 s by omega]; exact nv_end w4⟩ hk1 hk2
    · simp only [i_le] at h3
      have w9 := (rnn_in (T := tx) (L := L) (lo := 48) (hi := 57) (A := s) hs1 (show Ij < rnn tx L 48 57 s by omega)).2
      refine g_loadI act (gx gp_138 (w := 0x1001002) rfl (by decide) rfl) (a := 1) (n := 16) rfl rfl rfl ?_
      refine g_constI act (gx gp_138 (w := 0x40000005400000051000000001201) rfl (by decide) rfl) (n := 18) (x := (10 : Int32)) (by decide) rfl ?_
      refine g_imul act (gx gp_138 (w := 0x1311) rfl (by decide) rfl) (n := 19) rfl ?_
      have v_2 := iv_mul hv9 (show (10 : Int32).toInt = ((10 : Nat) : Int) from by decide) (show -2147483648 ≤ ((NV tx s Ij) * ((10 : Nat) : Int)) by omega) (show ((NV tx s Ij) * ((10 : Nat) : Int)) < 2147483648 by omega)
      refine g_loadA act (gx gp_138 (w := 0x1403) rfl (by decide) rfl) (a := 0) (n := 20) rfl rfl rfl ?_
      refine r_getf act (gx gp_138 (w := 0x30000c5001704) rfl (by decide) rfl) (n := 23) (ci := 5) (j := 3) (N := 11) rfl rfl rfl rw_1.1 (by decide) (v := .ref 55) rw_1.2.2.1 ?_
      refine g_loadI act (gx gp_138 (w := 0x2001802) rfl (by decide) rfl) (a := 2) (n := 24) rfl rfl rfl ?_
      obtain ⟨j_3, hj_3⟩ := Int.eq_ofNat_of_zero_le (show (0 : Int) ≤ Ij by omega)
      have ht_j_3 := txn tx hj_3
      obtain ⟨b_4, e_5, lo_b_4, hi_b_4, tb_b_4⟩ := hT_1 j_3 (by omega)
      refine r_bald act (gx gp_138 (w := 0x1940) rfl (by decide) rfl) (n := 25) (N := 700) (j := j_3) rfl rw_1.2.1 (hi9.trans hj_3) (by omega) (v := .int b_4) e_5 ?_
      refine g_constI act (gx gp_138 (w := 0x40000018400000181000000001b01) rfl (by decide) rfl) (n := 27) (x := (48 : Int32)) (by decide) rfl ?_
      refine g_isub act (gx gp_138 (w := 0x1c26) rfl (by decide) rfl) (n := 28) rfl ?_
      have v_6 := iv_sub (rfl : Int32.toInt b_4 = _) (show (48 : Int32).toInt = ((48 : Nat) : Int) from by decide) (show -2147483648 ≤ ((Int32.toInt b_4) - ((48 : Nat) : Int)) by omega) (show ((Int32.toInt b_4) - ((48 : Nat) : Int)) < 2147483648 by omega)
      refine g_iadd act (gx gp_138 (w := 0x1d0a) rfl (by decide) rfl) (n := 29) rfl ?_
      have v_7 := iv_add v_2 v_6 (show -2147483648 ≤ (((NV tx s Ij) * ((10 : Nat) : Int)) + ((Int32.toInt b_4) - ((48 : Nat) : Int))) by omega) (show (((NV tx s Ij) * ((10 : Nat) : Int)) + ((Int32.toInt b_4) - ((48 : Nat) : Int))) < 2147483648 by omega)
      refine g_storeI act (gx gp_138 (w := 0x1001e10) rfl (by decide) rfl) (a := 1) (n := 30) rfl rfl (L2 := [some (.ref 54), some (.int ((v9 * (10 : Int32)) + (b_4 - (48 : Int32)))), some (.int i9)]) rfl ?_
      refine g_iinc act (gx gp_138 (w := 0x80000001000002002109) rfl (by decide) rfl) (a := 2) (i := (1 : Int32)) (n := 33) rfl (by decide) rfl rfl (L2 := [some (.ref 54), some (.int ((v9 * (10 : Int32)) + (b_4 - (48 : Int32)))), some (.int (i9 + (1 : Int32)))]) rfl ?_
      have v_8 := iv_add hi9 (show (1 : Int32).toInt = (1 : Int) from by decide) (show -2147483648 ≤ (Ij + (1)) by omega) (show (Ij + (1)) < 2147483648 by omega)
      refine g_goto act (gx gp_138 (w := 0x707) rfl (by decide) rfl) (n := 7) rfl ?_
      exact ih _ (by omega) _ _ (Ij + (1)) (v_7.trans (by rw [nv_step (by omega) (by omega) (by omega)]; omega)) v_8 (by omega) (by omega) rfl
  show WpN (gp g0 wp) CLS p l e R sW m args below meth c Q D_138.2.2.1 kc0 ks0 0 [some (.ref 54), none, none] (hs, kc, ks) []
  refine g_constI act (gx gp_138 (w := 0x40000000400000001000000000101) rfl (by decide) rfl) (n := 1) (x := (0 : Int32)) (by decide) rfl ?_
  refine g_storeI act (gx gp_138 (w := 0x1000210) rfl (by decide) rfl) (a := 1) (n := 2) rfl rfl (L2 := [some (.ref 54), some (.int (0 : Int32)), none]) rfl ?_
  refine g_loadA act (gx gp_138 (w := 0x303) rfl (by decide) rfl) (a := 0) (n := 3) rfl rfl rfl ?_
  refine r_getf act (gx gp_138 (w := 0x205000604) rfl (by decide) rfl) (n := 6) (ci := 5) (j := 8) (N := 11) rfl rfl rfl rw_1.1 (by decide) (v := .int x8_1) e8_1 ?_
  refine g_storeI act (gx gp_138 (w := 0x2000710) rfl (by decide) rfl) (a := 2) (n := 7) rfl rfl (L2 := [some (.ref 54), some (.int (0 : Int32)), some (.int x8_1)]) rfl ?_
  exact loop (0 : Int32) _ s (by rw [nv_0]; decide) a8_1 (by omega) (by omega)

end CRDR
