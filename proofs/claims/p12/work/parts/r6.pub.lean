/-! The reference's state between calls. -/
def WR0 (k j : Nat) : Prop := (125 ≤ k ∧ k ≤ 130) ∨ (k = 124 ∧ (j = 0 ∨ j = 6 ∨ (10 ≤ j ∧ j ≤ 15)))
theorem WR0_rw : ∀ q ∈ RWT, ¬ WR0 124 q.1 := fun q hq => by
  have := rwt_j q hq
  unfold WR0
  omega
def WT4 (k j : Nat) : Prop := k = 130 ∨ (k = 124 ∧ j = 10)
theorem WT4_rw : ∀ q ∈ RWT, ¬ WT4 124 q.1 := fun q hq => by
  have := rwt_j q hq
  unfold WT4
  omega
theorem ModF.frw {hs h2 : List CE} (h : ModF hs) (f : FrS WR0 hs h2) (h0 : ∃ x : Int32, rd h2 124 0 = .int x ∧ 0 ≤ x.toInt ∧ x.toInt ≤ 4) : ModF h2 := by
  obtain ⟨-, ⟨y, b1⟩, ⟨y2, b2⟩, c⟩ := h
  refine ⟨h0, ⟨y, (f.2.2 124 24 (by unfold WR0; omega)).trans b1⟩, ⟨y2, (f.2.2 124 28 (by unfold WR0; omega)).trans b2⟩, fun j hj => ?_⟩
  obtain ⟨z, hz⟩ := c j hj
  exact ⟨z, (f.2.2 124 j (by unfold WR0; omega)).trans hz⟩
def NWx (tl wl : Nat → Int) (nl n ng nr : Nat) : Prop := NW tl wl nl n ng nr ∧ ∀ l, l < nl → 1 ≤ wl l
/-- the text and what was read last -/
def PIn (hs : List CE) (L : Int) : Prop := (∃ tx : Nat → Int, IArr hs 130 700 tx) ∧ (∃ x : Int32, rd hs 124 10 = .int x ∧ x.toInt = L) ∧ 0 ≤ L ∧ L ≤ 700 ∧ (∃ x : Int32, rd hs 124 11 = .int x) ∧ (∃ x : Int32, rd hs 124 12 = .int x) ∧ (∃ x : Int32, rd hs 124 13 = .int x) ∧ (∃ x : Int32, rd hs 124 15 = .int x) ∧
  (∃ x : Int32, rd hs 124 14 = .int x ∧ 0 ≤ x.toInt ∧ x.toInt ≤ 1) ∧ (∃ fv : Nat → Int, IArr hs 126 46 fv) ∧ ∃ gv : Nat → Int, IArr hs 128 39 gv
/-- the reference between two calls, its text L long -/
def RSt (hs : List CE) (L : Int) : Prop := ∃ (tl wl pv : Nat → Int) (nl n ng nr np : Nat), BM hs tl wl ∧ IArr hs 129 390 pv ∧ (∃ x : Int32, rd hs 124 6 = .int x ∧ x.toInt = (np : Int)) ∧ np ≤ 10 ∧ NWx tl wl nl n ng nr ∧ (∀ i, i < np → NWx tl (fun j => pv (39 * i + j)) nl n ng nr) ∧ ModF hs ∧ PIn hs L
def POR (hs : List CE) (L : Int) : Nat → Option Value → List CE → Prop := fun kd r h2 => kd = 0 ∧ (∃ x : Int32, r = some (.int x)) ∧ RSt h2 L ∧ FrS WR0 hs h2
/-- what the numeric methods leave -/
theorem RSt.wm {hs h2 : List CE} {L : Int} (h : RSt hs L) (f : FrS WM hs h2) (hM : ModF h2) : RSt h2 L := by
  obtain ⟨tl, wl, pv, nl, n, ng, nr, np, hB, hPa, ⟨p9, e6, hp9⟩, h10, hN, hP, -, ⟨⟨tx, hT⟩, ⟨x1, a1, b1⟩, c1, c2, ⟨x2, a2⟩, ⟨x3, a3⟩, ⟨x4, a4⟩, ⟨x5, a5⟩, ⟨x6, a6, b6⟩, ⟨fv, hF⟩, ⟨gv, hG⟩⟩⟩ := h
  have w : ∀ k j, 125 ≤ k → k ≤ 130 → rd h2 k j = rd hs k j := fun k j q1 q2 => f.2.2 k j (by unfold WM; omega)
  have w4 : ∀ j, j = 6 ∨ (10 ≤ j ∧ j ≤ 15) → rd h2 124 j = rd hs 124 j := fun j q1 => f.2.2 124 j (by unfold WM; omega)
  refine ⟨tl, wl, pv, nl, n, ng, nr, np, hB.fr f WM_rw (fun j => by unfold WM; omega) (fun j => by unfold WM; omega), hPa.fr (fun j _ => w 129 j (by decide) (by decide)), ⟨p9, (w4 6 (by omega)).trans e6, hp9⟩, h10, hN, hP, hM, ⟨⟨tx, hT.fr (fun j _ => w 130 j (by decide) (by decide))⟩, ⟨x1, (w4 10 (by omega)).trans a1, b1⟩, c1, c2, ⟨x2, (w4 11 (by omega)).trans a2⟩, ⟨x3, (w4 12 (by omega)).trans a3⟩, ⟨x4, (w4 13 (by omega)).trans a4⟩, ⟨x5, (w4 15 (by omega)).trans a5⟩, ⟨x6, (w4 14 (by omega)).trans a6, b6⟩, ⟨fv, hF.fr (fun j _ => w 126 j (by decide) (by decide))⟩, ⟨gv, hG.fr (fun j _ => w 128 j (by decide) (by decide))⟩⟩⟩
section PUB1
variable {g0 : GG} {bl : Nat} {xs : Nat → Int32} {l : Launch} {hs : List CE} {L : Int}

theorem b_four {tx : Nat → Int} {L9 vi : Int32} (rw0 : RW hs) (hT : IArr hs 130 700 tx) (e10 : rd hs 124 10 = .int L9) (hL : L9.toInt = L) (hL0 : 0 ≤ L) (hL4 : L + 4 ≤ 700) : BodyN SSX TBL g0 CLS bl xs l D_210 0 0 0 0 [.ref 124, .int vi] hs (fun kd r h2 => kd = 0 ∧ ∃ (tx2 : Nat → Int) (x : Int32), IArr h2 130 700 tx2 ∧ rd h2 124 10 = .int x ∧ x.toInt = L + 4 ∧ FrS WT4 hs h2) := by
  intro wp p e R s m args below meth c Q kc0 ks0 kc ks act hf hl hc hsl hEnd
  have hf : 0 ≤ R.frames := hf
  have hl : 0 ≤ R.locals := hl
  have hk1 : kc ≤ kc + 0 := by omega
  have hk2 : ks ≤ ks + 0 := by omega
  have hfr0 := FrS.rf WT4 hs
  have loop : ∀ (hj : List CE) (tj : Nat → Int) (Lj kj : Int32) (i9 : Nat), RW hj → IArr hj 130 700 tj → rd hj 124 10 = .int Lj → Lj.toInt = L + (i9 : Int) → kj.toInt = 24 - 8 * (i9 : Int) → i9 ≤ 4 → FrS WT4 hs hj → WpN (gp g0 wp) CLS p l e R s m args below meth c Q D_210.2.2.1 kc0 ks0 3 [some (.ref 124), some (.int vi), some (.int kj)] (hj, kc, ks) [] := by
    intro hj tj Lj kj i9 rwj hTj e10j hLj hKj hi4 hfr
    generalize hm : 4 - i9 = m9
    induction m9 using Nat.strongRecOn generalizing hj tj Lj kj i9 with
    | _ m9 ih =>
    subst hm
    refine g_loadI act (gx gp_210 (w := 0x2000402) rfl (by decide) rfl) (a := 2) (n := 4) rfl rfl rfl ?_
    refine g_ifLt act (gx gp_210 (w := 0x2700072a) rfl (by decide) rfl) (tgt := 39) (n := 7) rfl rfl (fun h2 => ?_) (fun h2 => ?_)
    · simp only [i_lt, i0] at h2
      exact g_retV hEnd (gx gp_210 (w := 0x18) rfl (by decide) rfl) ⟨rfl, _, _, hTj, e10j, (hLj).trans (by omega), hfr⟩ hk1 hk2
    · simp only [i_lt, i0] at h2
      refine g_loadA act (gx gp_210 (w := 0x803) rfl (by decide) rfl) (a := 0) (n := 8) rfl rfl rfl ?_
      refine r_getf act (gx gp_210 (w := 0x3000249000b04) rfl (by decide) rfl) (n := 11) (ci := 9) (j := 9) (N := 39) rfl rfl rfl rwj.1 (by decide) (rwj.2 (9, 130, 32, 700) (by decide)).1 ?_
      refine g_loadA act (gx gp_210 (w := 0xc03) rfl (by decide) rfl) (a := 0) (n := 12) rfl rfl rfl ?_
      refine r_getf act (gx gp_210 (w := 0x289000f04) rfl (by decide) rfl) (n := 15) (ci := 9) (j := 10) (N := 39) rfl rfl rfl rwj.1 (by decide) (v := .int Lj) e10j ?_
      refine g_loadI act (gx gp_210 (w := 0x1001002) rfl (by decide) rfl) (a := 1) (n := 16) rfl rfl rfl ?_
      refine g_loadI act (gx gp_210 (w := 0x2001102) rfl (by decide) rfl) (a := 2) (n := 17) rfl rfl rfl ?_
      refine g_ishr act (gx gp_210 (w := 0x1234) rfl (by decide) rfl) (n := 18) rfl ?_
      refine g_constI act (gx gp_210 (w := 0x4000007fc000007f9000000001501) rfl (by decide) rfl) (n := 21) (x := (255 : Int32)) (by decide) rfl ?_
      refine g_iand act (gx gp_210 (w := 0x1633) rfl (by decide) rfl) (n := 22) rfl ?_
      obtain ⟨j_1, hj_2⟩ := Int.eq_ofNat_of_zero_le (show (0 : Int) ≤ (L + (i9 : Int)) by omega)
      refine r_iast act (gx gp_210 (w := 0x1724) rfl (by decide) rfl) (n := 23) (j := j_1) rfl (rwj.2 (9, 130, 32, 700) (by decide)).2 (hLj.trans hj_2) (show j_1 < 700 by omega) ?_
      have rw_3 := RW.wr (k := 130) (j := j_1) (v := .int ((vi >>> (kj &&& 31)) &&& (255 : Int32))) rwj (Or.inl (by decide))
      have f_4 := hTj.put (j := j_1) (rwj.2 (9, 130, 32, 700) (by decide)).2 (rfl : Int32.toInt ((vi >>> (kj &&& 31)) &&& (255 : Int32)) = _)
      have f_5 := (rd_ne hj (k := 130) (j := j_1) (.int ((vi >>> (kj &&& 31)) &&& (255 : Int32))) (Or.inl (by decide))).trans e10j
      have fr_6 := hfr.wr (k := 130) (j := j_1) (.int ((vi >>> (kj &&& 31)) &&& (255 : Int32))) (by unfold WT4; omega)
      clear rwj hfr hTj e10j
      generalize (wr hj 130 j_1 (.int ((vi >>> (kj &&& 31)) &&& (255 : Int32)))) = hs_7 at *
      refine g_loadA act (gx gp_210 (w := 0x1803) rfl (by decide) rfl) (a := 0) (n := 24) rfl rfl rfl ?_
      refine g_dup act (gx gp_210 (w := 0x1922) rfl (by decide) rfl) (n := 25) rfl rfl ?_
      refine r_getf act (gx gp_210 (w := 0x289001c04) rfl (by decide) rfl) (n := 28) (ci := 9) (j := 10) (N := 39) rfl rfl rfl rw_3.1 (by decide) (v := .int Lj) f_5 ?_
      refine g_constI act (gx gp_210 (w := 0x40000000c00000009000000001d01) rfl (by decide) rfl) (n := 29) (x := (1 : Int32)) (by decide) rfl ?_
      refine g_iadd act (gx gp_210 (w := 0x1e0a) rfl (by decide) rfl) (n := 30) rfl ?_
      have v_8 := iv_addN (hLj.trans hj_2) (show (1 : Int32).toInt = ((1 : Nat) : Int) from by decide) (show (j_1 + 1) < 2147483648 by omega)
      refine r_putf act (gx gp_210 (w := 0x289002113) rfl (by decide) rfl) (n := 33) (ci := 9) (j := 10) (N := 39) rfl rfl rfl rw_3.1 (by decide) (Or.inl ⟨rfl, _, rfl⟩) ?_
      have rw_9 := RW.wr (k := 124) (j := 10) (v := .int (Lj + (1 : Int32))) rw_3 (Or.inr (by decide))
      have f_10 := f_4.ne (k := 124) (j := 10) (v := .int (Lj + (1 : Int32))) (by decide)
      have f_12 := rd_same (j := 10) (v := .int (Lj + (1 : Int32))) rw_3.1
      have fr_13 := fr_6.wr (k := 124) (j := 10) (.int (Lj + (1 : Int32))) (by unfold WT4; omega)
      clear rw_3 fr_6 f_4 f_5
      generalize (wr hs_7 124 10 (.int (Lj + (1 : Int32)))) = hs_14 at *
      refine g_iinc act (gx gp_210 (w := 0x7ffffff8000002002409) rfl (by decide) rfl) (a := 2) (i := (-8 : Int32)) (n := 36) rfl (by decide) rfl rfl (L2 := [some (.ref 124), some (.int vi), some (.int (kj + (-8 : Int32)))]) rfl ?_
      have v_15 := iv_add hKj (show (-8 : Int32).toInt = (-8 : Int) from by decide) (show -2147483648 ≤ ((24 - 8 * (i9 : Int)) + (-8)) by omega) (show ((24 - 8 * (i9 : Int)) + (-8)) < 2147483648 by omega)
      refine g_goto act (gx gp_210 (w := 0x307) rfl (by decide) rfl) (n := 3) rfl ?_
      exact ih _ (by omega) _ _ _ _ (i9 + 1) rw_9 f_10 f_12 ((v_8).trans (by omega)) ((v_15).trans (by omega)) (by omega) fr_13 rfl
  show WpN (gp g0 wp) CLS p l e R s m args below meth c Q D_210.2.2.1 kc0 ks0 0 [some (.ref 124), some (.int vi), none] (hs, kc, ks) []
  refine g_constI act (gx gp_210 (w := 0x4000000c4000000c1000000000201) rfl (by decide) rfl) (n := 2) (x := (24 : Int32)) (by decide) rfl ?_
  refine g_storeI act (gx gp_210 (w := 0x2000310) rfl (by decide) rfl) (a := 2) (n := 3) rfl rfl (L2 := [some (.ref 124), some (.int vi), some (.int (24 : Int32))]) rfl ?_
  exact loop hs tx L9 _ 0 rw0 hT e10 (by omega) (by decide) (by decide) hfr0

theorem br_append {i1 i2 i3 i4 i5 : Int32} (hRI : RSt hs L) : BodyN SSX TBL g0 CLS bl xs l D_180 1 22 0 0 [.ref 124, .int i1, .int i2, .int i3, .int i4, .int i5] hs (fun kd r h2 => kd = 0 ∧ ((L + 20 ≤ 700 ∧ (∃ x : Int32, r = some (.int x) ∧ x.toInt = L + 20) ∧ rd h2 124 0 = .int 0 ∧ RSt h2 (L + 20)) ∨ (700 < L + 20 ∧ r = some (.int 0) ∧ rd h2 124 0 = .int 1 ∧ RSt h2 L)) ∧ FrS WR0 hs h2) := by
  intro wp p e R s m args below meth c Q kc0 ks0 kc ks act hf hl hc hsl hEnd
  have hf : 1 ≤ R.frames := hf
  have hl : 22 ≤ R.locals := hl
  have hk1 : kc ≤ kc + 0 := by omega
  have hk2 : ks ≤ ks + 0 := by omega
  obtain ⟨tl, wl, pv, nl, n, ng, nr, np, ⟨rw0, hTo, hW⟩, hPa, ⟨p9, e6, hp9⟩, hp10, hNW, hPN, hM, ⟨⟨tx, hT⟩, ⟨L9, e10, hL9⟩, hL0, hL7, ⟨A9, e11⟩, ⟨c9, e12⟩, ⟨d9, e13⟩, ⟨f9, e15⟩, ⟨b9, e14, hb9⟩, ⟨fv, hF⟩, ⟨gv, hG⟩⟩⟩ := hRI
  obtain ⟨⟨x0, e0, hx0⟩, -⟩ := id hM
  have hN9 := hNW.1
  obtain ⟨n0, n1, n2, n3, n4, n5, n6, n7, n8, hG0, nL, nC, nP, nD⟩ := hN9
  have hGn := hG0.1
  have hGn3 := hG0.2.1
  have hGl := hG0.2.2.1
  have hfr0 := FrS.rf WR0 hs
  show WpN (gp g0 wp) CLS p l e R s m args below meth c Q D_180.2.2.1 kc0 ks0 0 [some (.ref 124), some (.int i1), some (.int i2), some (.int i3), some (.int i4), some (.int i5)] (hs, kc, ks) []
  refine g_loadA act (gx gp_180 (w := 0x103) rfl (by decide) rfl) (a := 0) (n := 1) rfl rfl rfl ?_
  refine g_constI act (gx gp_180 (w := 0x40000000400000001000000000201) rfl (by decide) rfl) (n := 2) (x := (0 : Int32)) (by decide) rfl ?_
  refine r_putf act (gx gp_180 (w := 0x9000513) rfl (by decide) rfl) (n := 5) (ci := 9) (j := 0) (N := 39) rfl rfl rfl rw0.1 (by decide) (Or.inl ⟨rfl, _, rfl⟩) ?_
  have rw_1 := RW.wr (k := 124) (j := 0) (v := .int (0 : Int32)) rw0 (Or.inr (by decide))
  have f_2 := hTo.ne (k := 124) (j := 0) (v := .int (0 : Int32)) (by decide)
  have f_3 := hW.ne (k := 124) (j := 0) (v := .int (0 : Int32)) (by decide)
  have f_4 := hPa.ne (k := 124) (j := 0) (v := .int (0 : Int32)) (by decide)
  have f_5 := hT.ne (k := 124) (j := 0) (v := .int (0 : Int32)) (by decide)
  have f_6 := hF.ne (k := 124) (j := 0) (v := .int (0 : Int32)) (by decide)
  have f_7 := hG.ne (k := 124) (j := 0) (v := .int (0 : Int32)) (by decide)
  have f_9 := (rd_ne hs (k := 124) (j := 0) (.int (0 : Int32)) (Or.inr (by decide))).trans e6
  have f_10 := (rd_ne hs (k := 124) (j := 0) (.int (0 : Int32)) (Or.inr (by decide))).trans e10
  have f_11 := (rd_ne hs (k := 124) (j := 0) (.int (0 : Int32)) (Or.inr (by decide))).trans e11
  have f_12 := (rd_ne hs (k := 124) (j := 0) (.int (0 : Int32)) (Or.inr (by decide))).trans e12
  have f_13 := (rd_ne hs (k := 124) (j := 0) (.int (0 : Int32)) (Or.inr (by decide))).trans e13
  have f_14 := (rd_ne hs (k := 124) (j := 0) (.int (0 : Int32)) (Or.inr (by decide))).trans e15
  have f_15 := (rd_ne hs (k := 124) (j := 0) (.int (0 : Int32)) (Or.inr (by decide))).trans e14
  have f_16 := rd_same (j := 0) (v := .int (0 : Int32)) rw0.1
  have fr_17 := hfr0.wr (k := 124) (j := 0) (.int (0 : Int32)) (by unfold WR0; omega)
  clear hTo hW hPa hT hF hG e0 e6 e10 e11 e12 e13 e15 e14
  generalize (wr hs 124 0 (.int (0 : Int32))) = hs_18 at *
  refine g_loadA act (gx gp_180 (w := 0x603) rfl (by decide) rfl) (a := 0) (n := 6) rfl rfl rfl ?_
  refine r_getf act (gx gp_180 (w := 0x289000904) rfl (by decide) rfl) (n := 9) (ci := 9) (j := 10) (N := 39) rfl rfl rfl rw_1.1 (by decide) (v := .int L9) f_10 ?_
  refine g_constI act (gx gp_180 (w := 0x4000000a4000000a1000000000b01) rfl (by decide) rfl) (n := 11) (x := (20 : Int32)) (by decide) rfl ?_
  refine g_iadd act (gx gp_180 (w := 0xc0a) rfl (by decide) rfl) (n := 12) rfl ?_
  have v_19 := iv_add hL9 (show (20 : Int32).toInt = ((20 : Nat) : Int) from by decide) (show -2147483648 ≤ (L + ((20 : Nat) : Int)) by omega) (show (L + ((20 : Nat) : Int)) < 2147483648 by omega)
  refine g_constI act (gx gp_180 (w := 0x4000015e4000015e1000000000f01) rfl (by decide) rfl) (n := 15) (x := (700 : Int32)) (by decide) rfl ?_
  refine g_icmpLe act (gx gp_180 (w := 0x1800123c) rfl (by decide) rfl) (tgt := 24) (n := 18) rfl rfl (fun h6 => ?_) (fun h6 => ?_)
  · simp only [i_le, show (20 : Int32).toInt = 20 from by decide, show (700 : Int32).toInt = 700 from by decide] at h6
    refine g_loadA act (gx gp_180 (w := 0x1903) rfl (by decide) rfl) (a := 0) (n := 25) rfl rfl rfl ?_
    refine g_loadI act (gx gp_180 (w := 0x1001a02) rfl (by decide) rfl) (a := 1) (n := 26) rfl rfl rfl ?_
    refine n_call tb_pres act hEnd (gx (P := G_call) gp_180 (w := 0xa00000000000080c220000d2001d0f) rfl (by decide) rfl) (d' := D_210) rfl (as := [.ref 124, .int i1]) (rest := []) (b_four rw_1 f_5 f_10 hL9 (by omega) (by omega)) (show (2 : Nat) = fb 0xa00000000000080c220000d2001d0f % 16 by decide) (by show (2 : Nat) ≤ 3; decide) (fun _ => ⟨_, _, rfl, _, shp_at rw_1.1, Or.inr (show fb 0xa00000000000080c220000d2001d0f >>> 68 = 10 by decide)⟩) (by omega) (by show 8 + (3 + 11) + 0 ≤ R.locals; omega) (by show (0 : Nat) ≤ 8; decide) (by show kc + 0 ≤ _; omega) (by show ks + 0 ≤ _; omega) (fun r9 hs_c20 hpo hr9 => ?_) (fun x9 hs9 hx9 hpo => ?_)
    · obtain rfl : r9 = none := hr9.elim (fun q => q.2) (fun q => absurd rfl q.1)
      obtain ⟨-, tx_c20, L9_c20, hT_c20, e10_c20, hL_c20, fr_c20⟩ := hpo
      have rw_21 := rw_1.fr fr_c20 WT4_rw
      have f_22 := f_2.fr (fun j9 _ => fr_c20.2.2 125 j9 (by unfold WT4; omega))
      have f_23 := f_3.fr (fun j9 _ => fr_c20.2.2 127 j9 (by unfold WT4; omega))
      have f_24 := f_4.fr (fun j9 _ => fr_c20.2.2 129 j9 (by unfold WT4; omega))
      have f_25 := f_6.fr (fun j9 _ => fr_c20.2.2 126 j9 (by unfold WT4; omega))
      have f_26 := f_7.fr (fun j9 _ => fr_c20.2.2 128 j9 (by unfold WT4; omega))
      have f_27 := rd_fr fr_c20 f_9 (by unfold WT4; omega)
      have f_28 := rd_fr fr_c20 f_11 (by unfold WT4; omega)
      have f_29 := rd_fr fr_c20 f_12 (by unfold WT4; omega)
      have f_30 := rd_fr fr_c20 f_13 (by unfold WT4; omega)
      have f_31 := rd_fr fr_c20 f_14 (by unfold WT4; omega)
      have f_32 := rd_fr fr_c20 f_15 (by unfold WT4; omega)
      have f_33 := rd_fr fr_c20 f_16 (by unfold WT4; omega)
      have fr_34 := fr_17.tr (fr_c20.mono (fun k9 j9 h9 => by unfold WT4 at h9; unfold WR0; omega))
      clear rw_1 f_2 f_3 f_4 f_5 f_6 f_7 f_9 f_10 f_11 f_12 f_13 f_14 f_15 f_16 fr_17
      show WpN (gp g0 wp) CLS p l e R s m args below meth c Q D_180.2.2.1 kc0 ks0 29 [some (.ref 124), some (.int i1), some (.int i2), some (.int i3), some (.int i4), some (.int i5)] (hs_c20, kc, ks) []
      refine g_loadA act (gx gp_180 (w := 0x1e03) rfl (by decide) rfl) (a := 0) (n := 30) rfl rfl rfl ?_
      refine g_loadI act (gx gp_180 (w := 0x2001f02) rfl (by decide) rfl) (a := 2) (n := 31) rfl rfl rfl ?_
      refine n_call tb_pres act hEnd (gx (P := G_call) gp_180 (w := 0xa00000000000080c220000d200220f) rfl (by decide) rfl) (d' := D_210) rfl (as := [.ref 124, .int i2]) (rest := []) (b_four rw_21 hT_c20 e10_c20 hL_c20 (by omega) (by omega)) (show (2 : Nat) = fb 0xa00000000000080c220000d200220f % 16 by decide) (by show (2 : Nat) ≤ 3; decide) (fun _ => ⟨_, _, rfl, _, shp_at rw_21.1, Or.inr (show fb 0xa00000000000080c220000d200220f >>> 68 = 10 by decide)⟩) (by omega) (by show 8 + (3 + 11) + 0 ≤ R.locals; omega) (by show (0 : Nat) ≤ 8; decide) (by show kc + 0 ≤ _; omega) (by show ks + 0 ≤ _; omega) (fun r9 hs_c35 hpo hr9 => ?_) (fun x9 hs9 hx9 hpo => ?_)
      · obtain rfl : r9 = none := hr9.elim (fun q => q.2) (fun q => absurd rfl q.1)
        obtain ⟨-, tx_c35, L9_c35, hT_c35, e10_c35, hL_c35, fr_c35⟩ := hpo
        have rw_36 := rw_21.fr fr_c35 WT4_rw
        have f_37 := f_22.fr (fun j9 _ => fr_c35.2.2 125 j9 (by unfold WT4; omega))
        have f_38 := f_23.fr (fun j9 _ => fr_c35.2.2 127 j9 (by unfold WT4; omega))
        have f_39 := f_24.fr (fun j9 _ => fr_c35.2.2 129 j9 (by unfold WT4; omega))
        have f_40 := f_25.fr (fun j9 _ => fr_c35.2.2 126 j9 (by unfold WT4; omega))
        have f_41 := f_26.fr (fun j9 _ => fr_c35.2.2 128 j9 (by unfold WT4; omega))
        have f_42 := rd_fr fr_c35 f_27 (by unfold WT4; omega)
        have f_43 := rd_fr fr_c35 f_28 (by unfold WT4; omega)
        have f_44 := rd_fr fr_c35 f_29 (by unfold WT4; omega)
        have f_45 := rd_fr fr_c35 f_30 (by unfold WT4; omega)
        have f_46 := rd_fr fr_c35 f_31 (by unfold WT4; omega)
        have f_47 := rd_fr fr_c35 f_32 (by unfold WT4; omega)
        have f_48 := rd_fr fr_c35 f_33 (by unfold WT4; omega)
        have fr_49 := fr_34.tr (fr_c35.mono (fun k9 j9 h9 => by unfold WT4 at h9; unfold WR0; omega))
        clear rw_21 f_22 f_23 f_24 f_25 f_26 f_27 f_28 f_29 f_30 f_31 f_32 f_33 hT_c20 e10_c20 fr_34
        show WpN (gp g0 wp) CLS p l e R s m args below meth c Q D_180.2.2.1 kc0 ks0 34 [some (.ref 124), some (.int i1), some (.int i2), some (.int i3), some (.int i4), some (.int i5)] (hs_c35, kc, ks) []
        refine g_loadA act (gx gp_180 (w := 0x2303) rfl (by decide) rfl) (a := 0) (n := 35) rfl rfl rfl ?_
        refine g_loadI act (gx gp_180 (w := 0x3002402) rfl (by decide) rfl) (a := 3) (n := 36) rfl rfl rfl ?_
        refine n_call tb_pres act hEnd (gx (P := G_call) gp_180 (w := 0xa00000000000080c220000d200270f) rfl (by decide) rfl) (d' := D_210) rfl (as := [.ref 124, .int i3]) (rest := []) (b_four rw_36 hT_c35 e10_c35 hL_c35 (by omega) (by omega)) (show (2 : Nat) = fb 0xa00000000000080c220000d200270f % 16 by decide) (by show (2 : Nat) ≤ 3; decide) (fun _ => ⟨_, _, rfl, _, shp_at rw_36.1, Or.inr (show fb 0xa00000000000080c220000d200270f >>> 68 = 10 by decide)⟩) (by omega) (by show 8 + (3 + 11) + 0 ≤ R.locals; omega) (by show (0 : Nat) ≤ 8; decide) (by show kc + 0 ≤ _; omega) (by show ks + 0 ≤ _; omega) (fun r9 hs_c50 hpo hr9 => ?_) (fun x9 hs9 hx9 hpo => ?_)
        · obtain rfl : r9 = none := hr9.elim (fun q => q.2) (fun q => absurd rfl q.1)
          obtain ⟨-, tx_c50, L9_c50, hT_c50, e10_c50, hL_c50, fr_c50⟩ := hpo
          have rw_51 := rw_36.fr fr_c50 WT4_rw
          have f_52 := f_37.fr (fun j9 _ => fr_c50.2.2 125 j9 (by unfold WT4; omega))
          have f_53 := f_38.fr (fun j9 _ => fr_c50.2.2 127 j9 (by unfold WT4; omega))
          have f_54 := f_39.fr (fun j9 _ => fr_c50.2.2 129 j9 (by unfold WT4; omega))
          have f_55 := f_40.fr (fun j9 _ => fr_c50.2.2 126 j9 (by unfold WT4; omega))
          have f_56 := f_41.fr (fun j9 _ => fr_c50.2.2 128 j9 (by unfold WT4; omega))
          have f_57 := rd_fr fr_c50 f_42 (by unfold WT4; omega)
          have f_58 := rd_fr fr_c50 f_43 (by unfold WT4; omega)
          have f_59 := rd_fr fr_c50 f_44 (by unfold WT4; omega)
          have f_60 := rd_fr fr_c50 f_45 (by unfold WT4; omega)
          have f_61 := rd_fr fr_c50 f_46 (by unfold WT4; omega)
          have f_62 := rd_fr fr_c50 f_47 (by unfold WT4; omega)
          have f_63 := rd_fr fr_c50 f_48 (by unfold WT4; omega)
          have fr_64 := fr_49.tr (fr_c50.mono (fun k9 j9 h9 => by unfold WT4 at h9; unfold WR0; omega))
          clear rw_36 f_37 f_38 f_39 f_40 f_41 f_42 f_43 f_44 f_45 f_46 f_47 f_48 hT_c35 e10_c35 fr_49
          show WpN (gp g0 wp) CLS p l e R s m args below meth c Q D_180.2.2.1 kc0 ks0 39 [some (.ref 124), some (.int i1), some (.int i2), some (.int i3), some (.int i4), some (.int i5)] (hs_c50, kc, ks) []
          refine g_loadA act (gx gp_180 (w := 0x2803) rfl (by decide) rfl) (a := 0) (n := 40) rfl rfl rfl ?_
          refine g_loadI act (gx gp_180 (w := 0x4002a02) rfl (by decide) rfl) (a := 4) (n := 42) rfl rfl rfl ?_
          refine n_call tb_pres act hEnd (gx (P := G_call) gp_180 (w := 0xa00000000000080c220000d2002d0f) rfl (by decide) rfl) (d' := D_210) rfl (as := [.ref 124, .int i4]) (rest := []) (b_four rw_51 hT_c50 e10_c50 hL_c50 (by omega) (by omega)) (show (2 : Nat) = fb 0xa00000000000080c220000d2002d0f % 16 by decide) (by show (2 : Nat) ≤ 3; decide) (fun _ => ⟨_, _, rfl, _, shp_at rw_51.1, Or.inr (show fb 0xa00000000000080c220000d2002d0f >>> 68 = 10 by decide)⟩) (by omega) (by show 8 + (3 + 11) + 0 ≤ R.locals; omega) (by show (0 : Nat) ≤ 8; decide) (by show kc + 0 ≤ _; omega) (by show ks + 0 ≤ _; omega) (fun r9 hs_c65 hpo hr9 => ?_) (fun x9 hs9 hx9 hpo => ?_)
          · obtain rfl : r9 = none := hr9.elim (fun q => q.2) (fun q => absurd rfl q.1)
            obtain ⟨-, tx_c65, L9_c65, hT_c65, e10_c65, hL_c65, fr_c65⟩ := hpo
            have rw_66 := rw_51.fr fr_c65 WT4_rw
            have f_67 := f_52.fr (fun j9 _ => fr_c65.2.2 125 j9 (by unfold WT4; omega))
            have f_68 := f_53.fr (fun j9 _ => fr_c65.2.2 127 j9 (by unfold WT4; omega))
            have f_69 := f_54.fr (fun j9 _ => fr_c65.2.2 129 j9 (by unfold WT4; omega))
            have f_70 := f_55.fr (fun j9 _ => fr_c65.2.2 126 j9 (by unfold WT4; omega))
            have f_71 := f_56.fr (fun j9 _ => fr_c65.2.2 128 j9 (by unfold WT4; omega))
            have f_72 := rd_fr fr_c65 f_57 (by unfold WT4; omega)
            have f_73 := rd_fr fr_c65 f_58 (by unfold WT4; omega)
            have f_74 := rd_fr fr_c65 f_59 (by unfold WT4; omega)
            have f_75 := rd_fr fr_c65 f_60 (by unfold WT4; omega)
            have f_76 := rd_fr fr_c65 f_61 (by unfold WT4; omega)
            have f_77 := rd_fr fr_c65 f_62 (by unfold WT4; omega)
            have f_78 := rd_fr fr_c65 f_63 (by unfold WT4; omega)
            have fr_79 := fr_64.tr (fr_c65.mono (fun k9 j9 h9 => by unfold WT4 at h9; unfold WR0; omega))
            clear rw_51 f_52 f_53 f_54 f_55 f_56 f_57 f_58 f_59 f_60 f_61 f_62 f_63 hT_c50 e10_c50 fr_64
            show WpN (gp g0 wp) CLS p l e R s m args below meth c Q D_180.2.2.1 kc0 ks0 45 [some (.ref 124), some (.int i1), some (.int i2), some (.int i3), some (.int i4), some (.int i5)] (hs_c65, kc, ks) []
            refine g_loadA act (gx gp_180 (w := 0x2e03) rfl (by decide) rfl) (a := 0) (n := 46) rfl rfl rfl ?_
            refine g_loadI act (gx gp_180 (w := 0x5003002) rfl (by decide) rfl) (a := 5) (n := 48) rfl rfl rfl ?_
            refine n_call tb_pres act hEnd (gx (P := G_call) gp_180 (w := 0xa00000000000080c220000d200330f) rfl (by decide) rfl) (d' := D_210) rfl (as := [.ref 124, .int i5]) (rest := []) (b_four rw_66 hT_c65 e10_c65 hL_c65 (by omega) (by omega)) (show (2 : Nat) = fb 0xa00000000000080c220000d200330f % 16 by decide) (by show (2 : Nat) ≤ 3; decide) (fun _ => ⟨_, _, rfl, _, shp_at rw_66.1, Or.inr (show fb 0xa00000000000080c220000d200330f >>> 68 = 10 by decide)⟩) (by omega) (by show 8 + (3 + 11) + 0 ≤ R.locals; omega) (by show (0 : Nat) ≤ 8; decide) (by show kc + 0 ≤ _; omega) (by show ks + 0 ≤ _; omega) (fun r9 hs_c80 hpo hr9 => ?_) (fun x9 hs9 hx9 hpo => ?_)
            · obtain rfl : r9 = none := hr9.elim (fun q => q.2) (fun q => absurd rfl q.1)
              obtain ⟨-, tx_c80, L9_c80, hT_c80, e10_c80, hL_c80, fr_c80⟩ := hpo
              have rw_81 := rw_66.fr fr_c80 WT4_rw
              have f_82 := f_67.fr (fun j9 _ => fr_c80.2.2 125 j9 (by unfold WT4; omega))
              have f_83 := f_68.fr (fun j9 _ => fr_c80.2.2 127 j9 (by unfold WT4; omega))
              have f_84 := f_69.fr (fun j9 _ => fr_c80.2.2 129 j9 (by unfold WT4; omega))
              have f_85 := f_70.fr (fun j9 _ => fr_c80.2.2 126 j9 (by unfold WT4; omega))
              have f_86 := f_71.fr (fun j9 _ => fr_c80.2.2 128 j9 (by unfold WT4; omega))
              have f_87 := rd_fr fr_c80 f_72 (by unfold WT4; omega)
              have f_88 := rd_fr fr_c80 f_73 (by unfold WT4; omega)
              have f_89 := rd_fr fr_c80 f_74 (by unfold WT4; omega)
              have f_90 := rd_fr fr_c80 f_75 (by unfold WT4; omega)
              have f_91 := rd_fr fr_c80 f_76 (by unfold WT4; omega)
              have f_92 := rd_fr fr_c80 f_77 (by unfold WT4; omega)
              have f_93 := rd_fr fr_c80 f_78 (by unfold WT4; omega)
              have fr_94 := fr_79.tr (fr_c80.mono (fun k9 j9 h9 => by unfold WT4 at h9; unfold WR0; omega))
              clear rw_66 f_67 f_68 f_69 f_70 f_71 f_72 f_73 f_74 f_75 f_76 f_77 f_78 hT_c65 e10_c65 fr_79
              show WpN (gp g0 wp) CLS p l e R s m args below meth c Q D_180.2.2.1 kc0 ks0 51 [some (.ref 124), some (.int i1), some (.int i2), some (.int i3), some (.int i4), some (.int i5)] (hs_c80, kc, ks) []
              refine g_loadA act (gx gp_180 (w := 0x3403) rfl (by decide) rfl) (a := 0) (n := 52) rfl rfl rfl ?_
              refine r_getf act (gx gp_180 (w := 0x289003704) rfl (by decide) rfl) (n := 55) (ci := 9) (j := 10) (N := 39) rfl rfl rfl rw_81.1 (by decide) (v := .int L9_c80) e10_c80 ?_
              exact g_retI hEnd (gx gp_180 (w := 0x2f) rfl (by decide) rfl) ⟨rfl, Or.inl ⟨by omega, ⟨_, rfl, (hL_c80).trans (by omega)⟩, f_93, ⟨tl, wl, pv, nl, n, ng, nr, np, ⟨rw_81, f_82, f_83⟩, f_84, ⟨_, f_87, hp9⟩, by omega, hNW, hPN, hM.frw fr_94 ⟨_, f_93, by have w9 := (show (0 : Int32).toInt = ((0 : Nat) : Int) from by decide); omega, by have w9 := (show (0 : Int32).toInt = ((0 : Nat) : Int) from by decide); omega⟩, ⟨⟨_, hT_c80⟩, ⟨_, e10_c80, (hL_c80).trans (by omega)⟩, by omega, by omega, ⟨_, f_88⟩, ⟨_, f_89⟩, ⟨_, f_90⟩, ⟨_, f_91⟩, ⟨_, f_92, by have w9 := (rfl : Int32.toInt b9 = _); omega, by have w9 := (rfl : Int32.toInt b9 = _); omega⟩, ⟨_, f_85⟩, ⟨_, f_86⟩⟩⟩⟩, fr_94⟩ hk1 hk2
            · exact absurd hpo.1 (by omega)
          · exact absurd hpo.1 (by omega)
        · exact absurd hpo.1 (by omega)
      · exact absurd hpo.1 (by omega)
    · exact absurd hpo.1 (by omega)
  · simp only [i_le, show (20 : Int32).toInt = 20 from by decide, show (700 : Int32).toInt = 700 from by decide] at h6
    refine g_loadA act (gx gp_180 (w := 0x1303) rfl (by decide) rfl) (a := 0) (n := 19) rfl rfl rfl ?_
    refine g_constI act (gx gp_180 (w := 0x40000000c00000009000000001401) rfl (by decide) rfl) (n := 20) (x := (1 : Int32)) (by decide) rfl ?_
    refine n_call tb_pres act hEnd (gx (P := G_call) gp_180 (w := 0xa000000000000c08220000cd00170f) rfl (by decide) rfl) (d' := D_205) rfl (as := [.ref 124, .int (1 : Int32)]) (rest := []) (b_fails rw_1.1) (show (2 : Nat) = fb 0xa000000000000c08220000cd00170f % 16 by decide) (by show (2 : Nat) ≤ 2; decide) (fun _ => ⟨_, _, rfl, _, shp_at rw_1.1, Or.inr (show fb 0xa000000000000c08220000cd00170f >>> 68 = 10 by decide)⟩) (by omega) (by show 8 + (2 + 11) + 0 ≤ R.locals; omega) (by show (0 : Nat) ≤ 8; decide) (by show kc + 0 ≤ _; omega) (by show ks + 0 ≤ _; omega) (fun r9 h3 hpo hr9 => ?_) (fun x9 hs9 hx9 hpo => ?_)
    · obtain ⟨-, rfl, -, rfl⟩ := hpo
      have rw_96 := RW.wr (k := 124) (j := 0) (v := .int (1 : Int32)) rw_1 (Or.inr (by decide))
      have f_97 := f_2.ne (k := 124) (j := 0) (v := .int (1 : Int32)) (by decide)
      have f_98 := f_3.ne (k := 124) (j := 0) (v := .int (1 : Int32)) (by decide)
      have f_99 := f_4.ne (k := 124) (j := 0) (v := .int (1 : Int32)) (by decide)
      have f_100 := f_5.ne (k := 124) (j := 0) (v := .int (1 : Int32)) (by decide)
      have f_101 := f_6.ne (k := 124) (j := 0) (v := .int (1 : Int32)) (by decide)
      have f_102 := f_7.ne (k := 124) (j := 0) (v := .int (1 : Int32)) (by decide)
      have f_103 := (rd_ne hs_18 (k := 124) (j := 0) (.int (1 : Int32)) (Or.inr (by decide))).trans f_9
      have f_104 := (rd_ne hs_18 (k := 124) (j := 0) (.int (1 : Int32)) (Or.inr (by decide))).trans f_10
      have f_105 := (rd_ne hs_18 (k := 124) (j := 0) (.int (1 : Int32)) (Or.inr (by decide))).trans f_11
      have f_106 := (rd_ne hs_18 (k := 124) (j := 0) (.int (1 : Int32)) (Or.inr (by decide))).trans f_12
      have f_107 := (rd_ne hs_18 (k := 124) (j := 0) (.int (1 : Int32)) (Or.inr (by decide))).trans f_13
      have f_108 := (rd_ne hs_18 (k := 124) (j := 0) (.int (1 : Int32)) (Or.inr (by decide))).trans f_14
      have f_109 := (rd_ne hs_18 (k := 124) (j := 0) (.int (1 : Int32)) (Or.inr (by decide))).trans f_15
      have f_111 := rd_same (j := 0) (v := .int (1 : Int32)) rw_1.1
      have fr_112 := fr_17.wr (k := 124) (j := 0) (.int (1 : Int32)) (by unfold WR0; omega)
      clear rw_1 fr_17 f_2 f_3 f_4 f_5 f_6 f_7 f_9 f_10 f_11 f_12 f_13 f_14 f_15 f_16
      generalize (wr hs_18 124 0 (.int (1 : Int32))) = hs_113 at *
      show WpN (gp g0 wp) CLS p l e R s m args below meth c Q D_180.2.2.1 kc0 ks0 23 [some (.ref 124), some (.int i1), some (.int i2), some (.int i3), some (.int i4), some (.int i5)] (hs_113, kc, ks) [.int (0 : Int32)]
      exact g_retI hEnd (gx gp_180 (w := 0x2f) rfl (by decide) rfl) ⟨rfl, Or.inr ⟨by omega, rfl, f_111, ⟨tl, wl, pv, nl, n, ng, nr, np, ⟨rw_96, f_97, f_98⟩, f_99, ⟨_, f_103, hp9⟩, by omega, hNW, hPN, hM.frw fr_112 ⟨_, f_111, by have w9 := (show (1 : Int32).toInt = ((1 : Nat) : Int) from by decide); omega, by have w9 := (show (1 : Int32).toInt = ((1 : Nat) : Int) from by decide); omega⟩, ⟨⟨_, f_100⟩, ⟨_, f_104, (hL9).trans (by omega)⟩, by omega, by omega, ⟨_, f_105⟩, ⟨_, f_106⟩, ⟨_, f_107⟩, ⟨_, f_108⟩, ⟨_, f_109, by have w9 := (rfl : Int32.toInt b9 = _); omega, by have w9 := (rfl : Int32.toInt b9 = _); omega⟩, ⟨_, f_101⟩, ⟨_, f_102⟩⟩⟩⟩, fr_112⟩ hk1 hk2
    · exact absurd hpo.1 (by omega)

theorem br_truncate {i1 : Int32} (hRI : RSt hs L) : BodyN SSX TBL g0 CLS bl xs l D_284 1 22 0 0 [.ref 124, .int i1] hs (fun kd r h2 => kd = 0 ∧ (((0 ≤ i1.toInt ∧ i1.toInt ≤ L) ∧ (∃ x : Int32, r = some (.int x) ∧ x.toInt = i1.toInt) ∧ rd h2 124 0 = .int 0 ∧ RSt h2 i1.toInt) ∨ (¬ (0 ≤ i1.toInt ∧ i1.toInt ≤ L) ∧ r = some (.int 0) ∧ rd h2 124 0 = .int 1 ∧ RSt h2 L)) ∧ FrS WR0 hs h2) := by
  intro wp p e R s m args below meth c Q kc0 ks0 kc ks act hf hl hc hsl hEnd
  have hf : 1 ≤ R.frames := hf
  have hl : 22 ≤ R.locals := hl
  have hk1 : kc ≤ kc + 0 := by omega
  have hk2 : ks ≤ ks + 0 := by omega
  obtain ⟨tl, wl, pv, nl, n, ng, nr, np, ⟨rw0, hTo, hW⟩, hPa, ⟨p9, e6, hp9⟩, hp10, hNW, hPN, hM, ⟨⟨tx, hT⟩, ⟨L9, e10, hL9⟩, hL0, hL7, ⟨A9, e11⟩, ⟨c9, e12⟩, ⟨d9, e13⟩, ⟨f9, e15⟩, ⟨b9, e14, hb9⟩, ⟨fv, hF⟩, ⟨gv, hG⟩⟩⟩ := hRI
  obtain ⟨⟨x0, e0, hx0⟩, -⟩ := id hM
  have hN9 := hNW.1
  obtain ⟨n0, n1, n2, n3, n4, n5, n6, n7, n8, hG0, nL, nC, nP, nD⟩ := hN9
  have hGn := hG0.1
  have hGn3 := hG0.2.1
  have hGl := hG0.2.2.1
  have hfr0 := FrS.rf WR0 hs
  show WpN (gp g0 wp) CLS p l e R s m args below meth c Q D_284.2.2.1 kc0 ks0 0 [some (.ref 124), some (.int i1)] (hs, kc, ks) []
  refine g_loadA act (gx gp_284 (w := 0x103) rfl (by decide) rfl) (a := 0) (n := 1) rfl rfl rfl ?_
  refine g_constI act (gx gp_284 (w := 0x40000000400000001000000000201) rfl (by decide) rfl) (n := 2) (x := (0 : Int32)) (by decide) rfl ?_
  refine r_putf act (gx gp_284 (w := 0x9000513) rfl (by decide) rfl) (n := 5) (ci := 9) (j := 0) (N := 39) rfl rfl rfl rw0.1 (by decide) (Or.inl ⟨rfl, _, rfl⟩) ?_
  have rw_1 := RW.wr (k := 124) (j := 0) (v := .int (0 : Int32)) rw0 (Or.inr (by decide))
  have f_2 := hTo.ne (k := 124) (j := 0) (v := .int (0 : Int32)) (by decide)
  have f_3 := hW.ne (k := 124) (j := 0) (v := .int (0 : Int32)) (by decide)
  have f_4 := hPa.ne (k := 124) (j := 0) (v := .int (0 : Int32)) (by decide)
  have f_5 := hT.ne (k := 124) (j := 0) (v := .int (0 : Int32)) (by decide)
  have f_6 := hF.ne (k := 124) (j := 0) (v := .int (0 : Int32)) (by decide)
  have f_7 := hG.ne (k := 124) (j := 0) (v := .int (0 : Int32)) (by decide)
  have f_9 := (rd_ne hs (k := 124) (j := 0) (.int (0 : Int32)) (Or.inr (by decide))).trans e6
  have f_10 := (rd_ne hs (k := 124) (j := 0) (.int (0 : Int32)) (Or.inr (by decide))).trans e10
  have f_11 := (rd_ne hs (k := 124) (j := 0) (.int (0 : Int32)) (Or.inr (by decide))).trans e11
  have f_12 := (rd_ne hs (k := 124) (j := 0) (.int (0 : Int32)) (Or.inr (by decide))).trans e12
  have f_13 := (rd_ne hs (k := 124) (j := 0) (.int (0 : Int32)) (Or.inr (by decide))).trans e13
  have f_14 := (rd_ne hs (k := 124) (j := 0) (.int (0 : Int32)) (Or.inr (by decide))).trans e15
  have f_15 := (rd_ne hs (k := 124) (j := 0) (.int (0 : Int32)) (Or.inr (by decide))).trans e14
  have f_16 := rd_same (j := 0) (v := .int (0 : Int32)) rw0.1
  have fr_17 := hfr0.wr (k := 124) (j := 0) (.int (0 : Int32)) (by unfold WR0; omega)
  clear hTo hW hPa hT hF hG e0 e6 e10 e11 e12 e13 e15 e14
  generalize (wr hs 124 0 (.int (0 : Int32))) = hs_18 at *
  refine g_loadI act (gx gp_284 (w := 0x1000602) rfl (by decide) rfl) (a := 1) (n := 6) rfl rfl rfl ?_
  refine g_constI act (gx gp_284 (w := 0x40000000400000001000000000701) rfl (by decide) rfl) (n := 7) (x := (0 : Int32)) (by decide) rfl ?_
  refine g_loadA act (gx gp_284 (w := 0x803) rfl (by decide) rfl) (a := 0) (n := 8) rfl rfl rfl ?_
  refine r_getf act (gx gp_284 (w := 0x289000b04) rfl (by decide) rfl) (n := 11) (ci := 9) (j := 10) (N := 39) rfl rfl rfl rw_1.1 (by decide) (v := .int L9) f_10 ?_
  refine n_call tb_pres act hEnd (gx (P := G_call) gp_284 (w := 0x40c330000d9000e0f) rfl (by decide) rfl) (d' := D_217) rfl (as := [.int i1, .int (0 : Int32), .int L9]) (rest := []) (b_in (rfl : Int32.toInt i1 = _) (show (0 : Int32).toInt = ((0 : Nat) : Int) from by decide) hL9) (show (3 : Nat) = fb 0x40c330000d9000e0f % 16 by decide) (by show (3 : Nat) ≤ 3; decide) (fun q => absurd q (by decide)) (by omega) (by show 8 + (3 + 11) + 0 ≤ R.locals; omega) (by show (0 : Nat) ≤ 8; decide) (by show kc + 0 ≤ _; omega) (by show ks + 0 ≤ _; omega) (fun r9 h3 hpo hr9 => ?_) (fun x9 hs9 hx9 hpo => ?_)
  · obtain ⟨-, rfl, hin9⟩ := hpo
    obtain ⟨rv_19, rfl, hr_20⟩ := in1_x hin9
    show WpN (gp g0 wp) CLS p l e R s m args below meth c Q D_284.2.2.1 kc0 ks0 14 [some (.ref 124), some (.int i1)] (hs_18, kc, ks) [.int rv_19]
    refine g_ifNe act (gx gp_284 (w := 0x1700111d) rfl (by decide) rfl) (tgt := 23) (n := 17) rfl rfl (fun h6 => ?_) (fun h6 => ?_)
    · simp only [i_eq, i0] at h6
      refine g_loadA act (gx gp_284 (w := 0x1803) rfl (by decide) rfl) (a := 0) (n := 24) rfl rfl rfl ?_
      refine g_loadI act (gx gp_284 (w := 0x1001902) rfl (by decide) rfl) (a := 1) (n := 25) rfl rfl rfl ?_
      refine r_putf act (gx gp_284 (w := 0x289001c13) rfl (by decide) rfl) (n := 28) (ci := 9) (j := 10) (N := 39) rfl rfl rfl rw_1.1 (by decide) (Or.inl ⟨rfl, _, rfl⟩) ?_
      have rw_21 := RW.wr (k := 124) (j := 10) (v := .int i1) rw_1 (Or.inr (by decide))
      have f_22 := f_2.ne (k := 124) (j := 10) (v := .int i1) (by decide)
      have f_23 := f_3.ne (k := 124) (j := 10) (v := .int i1) (by decide)
      have f_24 := f_4.ne (k := 124) (j := 10) (v := .int i1) (by decide)
      have f_25 := f_5.ne (k := 124) (j := 10) (v := .int i1) (by decide)
      have f_26 := f_6.ne (k := 124) (j := 10) (v := .int i1) (by decide)
      have f_27 := f_7.ne (k := 124) (j := 10) (v := .int i1) (by decide)
      have f_28 := (rd_ne hs_18 (k := 124) (j := 10) (.int i1) (Or.inr (by decide))).trans f_9
      have f_30 := (rd_ne hs_18 (k := 124) (j := 10) (.int i1) (Or.inr (by decide))).trans f_11
      have f_31 := (rd_ne hs_18 (k := 124) (j := 10) (.int i1) (Or.inr (by decide))).trans f_12
      have f_32 := (rd_ne hs_18 (k := 124) (j := 10) (.int i1) (Or.inr (by decide))).trans f_13
      have f_33 := (rd_ne hs_18 (k := 124) (j := 10) (.int i1) (Or.inr (by decide))).trans f_14
      have f_34 := (rd_ne hs_18 (k := 124) (j := 10) (.int i1) (Or.inr (by decide))).trans f_15
      have f_35 := (rd_ne hs_18 (k := 124) (j := 10) (.int i1) (Or.inr (by decide))).trans f_16
      have f_36 := rd_same (j := 10) (v := .int i1) rw_1.1
      have fr_37 := fr_17.wr (k := 124) (j := 10) (.int i1) (by unfold WR0; omega)
      clear rw_1 fr_17 f_2 f_3 f_4 f_5 f_6 f_7 f_9 f_10 f_11 f_12 f_13 f_14 f_15 f_16
      generalize (wr hs_18 124 10 (.int i1)) = hs_38 at *
      refine g_loadA act (gx gp_284 (w := 0x1d03) rfl (by decide) rfl) (a := 0) (n := 29) rfl rfl rfl ?_
      refine r_getf act (gx gp_284 (w := 0x289002004) rfl (by decide) rfl) (n := 32) (ci := 9) (j := 10) (N := 39) rfl rfl rfl rw_21.1 (by decide) (v := .int i1) f_36 ?_
      exact g_retI hEnd (gx gp_284 (w := 0x2f) rfl (by decide) rfl) ⟨rfl, Or.inl ⟨by omega, ⟨_, rfl, rfl⟩, f_35, ⟨tl, wl, pv, nl, n, ng, nr, np, ⟨rw_21, f_22, f_23⟩, f_24, ⟨_, f_28, hp9⟩, by omega, hNW, hPN, hM.frw fr_37 ⟨_, f_35, by have w9 := (show (0 : Int32).toInt = ((0 : Nat) : Int) from by decide); omega, by have w9 := (show (0 : Int32).toInt = ((0 : Nat) : Int) from by decide); omega⟩, ⟨⟨_, f_25⟩, ⟨_, f_36, ((rfl : Int32.toInt i1 = _)).trans (by omega)⟩, by omega, by omega, ⟨_, f_30⟩, ⟨_, f_31⟩, ⟨_, f_32⟩, ⟨_, f_33⟩, ⟨_, f_34, by have w9 := (rfl : Int32.toInt b9 = _); omega, by have w9 := (rfl : Int32.toInt b9 = _); omega⟩, ⟨_, f_26⟩, ⟨_, f_27⟩⟩⟩⟩, fr_37⟩ hk1 hk2
    · simp only [i_eq, i0] at h6
      refine g_loadA act (gx gp_284 (w := 0x1203) rfl (by decide) rfl) (a := 0) (n := 18) rfl rfl rfl ?_
      refine g_constI act (gx gp_284 (w := 0x40000000c00000009000000001301) rfl (by decide) rfl) (n := 19) (x := (1 : Int32)) (by decide) rfl ?_
      refine n_call tb_pres act hEnd (gx (P := G_call) gp_284 (w := 0xa000000000000c08220000cd00160f) rfl (by decide) rfl) (d' := D_205) rfl (as := [.ref 124, .int (1 : Int32)]) (rest := []) (b_fails rw_1.1) (show (2 : Nat) = fb 0xa000000000000c08220000cd00160f % 16 by decide) (by show (2 : Nat) ≤ 2; decide) (fun _ => ⟨_, _, rfl, _, shp_at rw_1.1, Or.inr (show fb 0xa000000000000c08220000cd00160f >>> 68 = 10 by decide)⟩) (by omega) (by show 8 + (2 + 11) + 0 ≤ R.locals; omega) (by show (0 : Nat) ≤ 8; decide) (by show kc + 0 ≤ _; omega) (by show ks + 0 ≤ _; omega) (fun r9 h3 hpo hr9 => ?_) (fun x9 hs9 hx9 hpo => ?_)
      · obtain ⟨-, rfl, -, rfl⟩ := hpo
        have rw_40 := RW.wr (k := 124) (j := 0) (v := .int (1 : Int32)) rw_1 (Or.inr (by decide))
        have f_41 := f_2.ne (k := 124) (j := 0) (v := .int (1 : Int32)) (by decide)
        have f_42 := f_3.ne (k := 124) (j := 0) (v := .int (1 : Int32)) (by decide)
        have f_43 := f_4.ne (k := 124) (j := 0) (v := .int (1 : Int32)) (by decide)
        have f_44 := f_5.ne (k := 124) (j := 0) (v := .int (1 : Int32)) (by decide)
        have f_45 := f_6.ne (k := 124) (j := 0) (v := .int (1 : Int32)) (by decide)
        have f_46 := f_7.ne (k := 124) (j := 0) (v := .int (1 : Int32)) (by decide)
        have f_47 := (rd_ne hs_18 (k := 124) (j := 0) (.int (1 : Int32)) (Or.inr (by decide))).trans f_9
        have f_48 := (rd_ne hs_18 (k := 124) (j := 0) (.int (1 : Int32)) (Or.inr (by decide))).trans f_10
        have f_49 := (rd_ne hs_18 (k := 124) (j := 0) (.int (1 : Int32)) (Or.inr (by decide))).trans f_11
        have f_50 := (rd_ne hs_18 (k := 124) (j := 0) (.int (1 : Int32)) (Or.inr (by decide))).trans f_12
        have f_51 := (rd_ne hs_18 (k := 124) (j := 0) (.int (1 : Int32)) (Or.inr (by decide))).trans f_13
        have f_52 := (rd_ne hs_18 (k := 124) (j := 0) (.int (1 : Int32)) (Or.inr (by decide))).trans f_14
        have f_53 := (rd_ne hs_18 (k := 124) (j := 0) (.int (1 : Int32)) (Or.inr (by decide))).trans f_15
        have f_55 := rd_same (j := 0) (v := .int (1 : Int32)) rw_1.1
        have fr_56 := fr_17.wr (k := 124) (j := 0) (.int (1 : Int32)) (by unfold WR0; omega)
        clear rw_1 fr_17 f_2 f_3 f_4 f_5 f_6 f_7 f_9 f_10 f_11 f_12 f_13 f_14 f_15 f_16
        generalize (wr hs_18 124 0 (.int (1 : Int32))) = hs_57 at *
        show WpN (gp g0 wp) CLS p l e R s m args below meth c Q D_284.2.2.1 kc0 ks0 22 [some (.ref 124), some (.int i1)] (hs_57, kc, ks) [.int (0 : Int32)]
        exact g_retI hEnd (gx gp_284 (w := 0x2f) rfl (by decide) rfl) ⟨rfl, Or.inr ⟨by omega, rfl, f_55, ⟨tl, wl, pv, nl, n, ng, nr, np, ⟨rw_40, f_41, f_42⟩, f_43, ⟨_, f_47, hp9⟩, by omega, hNW, hPN, hM.frw fr_56 ⟨_, f_55, by have w9 := (show (1 : Int32).toInt = ((1 : Nat) : Int) from by decide); omega, by have w9 := (show (1 : Int32).toInt = ((1 : Nat) : Int) from by decide); omega⟩, ⟨⟨_, f_44⟩, ⟨_, f_48, (hL9).trans (by omega)⟩, by omega, by omega, ⟨_, f_49⟩, ⟨_, f_50⟩, ⟨_, f_51⟩, ⟨_, f_52⟩, ⟨_, f_53, by have w9 := (rfl : Int32.toInt b9 = _); omega, by have w9 := (rfl : Int32.toInt b9 = _); omega⟩, ⟨_, f_45⟩, ⟨_, f_46⟩⟩⟩⟩, fr_56⟩ hk1 hk2
      · exact absurd hpo.1 (by omega)
  · exact absurd hpo.1 (by omega)

theorem br_errorCode (hRI : RSt hs L) : BodyN SSX TBL g0 CLS bl xs l D_202 0 0 0 0 [.ref 124] hs (POR hs L) := by
  intro wp p e R s m args below meth c Q kc0 ks0 kc ks act hf hl hc hsl hEnd
  have hf : 0 ≤ R.frames := hf
  have hl : 0 ≤ R.locals := hl
  have hk1 : kc ≤ kc + 0 := by omega
  have hk2 : ks ≤ ks + 0 := by omega
  obtain ⟨tl, wl, pv, nl, n, ng, nr, np, ⟨rw0, hTo, hW⟩, hPa, ⟨p9, e6, hp9⟩, hp10, hNW, hPN, hM, ⟨⟨tx, hT⟩, ⟨L9, e10, hL9⟩, hL0, hL7, ⟨A9, e11⟩, ⟨c9, e12⟩, ⟨d9, e13⟩, ⟨f9, e15⟩, ⟨b9, e14, hb9⟩, ⟨fv, hF⟩, ⟨gv, hG⟩⟩⟩ := hRI
  obtain ⟨⟨x0, e0, hx0⟩, -⟩ := id hM
  have hN9 := hNW.1
  obtain ⟨n0, n1, n2, n3, n4, n5, n6, n7, n8, hG0, nL, nC, nP, nD⟩ := hN9
  have hGn := hG0.1
  have hGn3 := hG0.2.1
  have hGl := hG0.2.2.1
  have hfr0 := FrS.rf WR0 hs
  show WpN (gp g0 wp) CLS p l e R s m args below meth c Q D_202.2.2.1 kc0 ks0 0 [some (.ref 124)] (hs, kc, ks) []
  refine g_loadA act (gx gp_202 (w := 0x103) rfl (by decide) rfl) (a := 0) (n := 1) rfl rfl rfl ?_
  refine g_constI act (gx gp_202 (w := 0x40000000400000001000000000201) rfl (by decide) rfl) (n := 2) (x := (0 : Int32)) (by decide) rfl ?_
  refine r_putf act (gx gp_202 (w := 0x9000513) rfl (by decide) rfl) (n := 5) (ci := 9) (j := 0) (N := 39) rfl rfl rfl rw0.1 (by decide) (Or.inl ⟨rfl, _, rfl⟩) ?_
  have rw_1 := RW.wr (k := 124) (j := 0) (v := .int (0 : Int32)) rw0 (Or.inr (by decide))
  have f_2 := hTo.ne (k := 124) (j := 0) (v := .int (0 : Int32)) (by decide)
  have f_3 := hW.ne (k := 124) (j := 0) (v := .int (0 : Int32)) (by decide)
  have f_4 := hPa.ne (k := 124) (j := 0) (v := .int (0 : Int32)) (by decide)
  have f_5 := hT.ne (k := 124) (j := 0) (v := .int (0 : Int32)) (by decide)
  have f_6 := hF.ne (k := 124) (j := 0) (v := .int (0 : Int32)) (by decide)
  have f_7 := hG.ne (k := 124) (j := 0) (v := .int (0 : Int32)) (by decide)
  have f_9 := (rd_ne hs (k := 124) (j := 0) (.int (0 : Int32)) (Or.inr (by decide))).trans e6
  have f_10 := (rd_ne hs (k := 124) (j := 0) (.int (0 : Int32)) (Or.inr (by decide))).trans e10
  have f_11 := (rd_ne hs (k := 124) (j := 0) (.int (0 : Int32)) (Or.inr (by decide))).trans e11
  have f_12 := (rd_ne hs (k := 124) (j := 0) (.int (0 : Int32)) (Or.inr (by decide))).trans e12
  have f_13 := (rd_ne hs (k := 124) (j := 0) (.int (0 : Int32)) (Or.inr (by decide))).trans e13
  have f_14 := (rd_ne hs (k := 124) (j := 0) (.int (0 : Int32)) (Or.inr (by decide))).trans e15
  have f_15 := (rd_ne hs (k := 124) (j := 0) (.int (0 : Int32)) (Or.inr (by decide))).trans e14
  have f_16 := rd_same (j := 0) (v := .int (0 : Int32)) rw0.1
  have fr_17 := hfr0.wr (k := 124) (j := 0) (.int (0 : Int32)) (by unfold WR0; omega)
  clear hTo hW hPa hT hF hG e0 e6 e10 e11 e12 e13 e15 e14
  generalize (wr hs 124 0 (.int (0 : Int32))) = hs_18 at *
  refine g_loadA act (gx gp_202 (w := 0x603) rfl (by decide) rfl) (a := 0) (n := 6) rfl rfl rfl ?_
  refine r_getf act (gx gp_202 (w := 0x309000904) rfl (by decide) rfl) (n := 9) (ci := 9) (j := 12) (N := 39) rfl rfl rfl rw_1.1 (by decide) (v := .int c9) f_12 ?_
  exact g_retI hEnd (gx gp_202 (w := 0x2f) rfl (by decide) rfl) ⟨rfl, ⟨_, rfl⟩, ⟨tl, wl, pv, nl, n, ng, nr, np, ⟨rw_1, f_2, f_3⟩, f_4, ⟨_, f_9, hp9⟩, by omega, hNW, hPN, hM.frw fr_17 ⟨_, f_16, by have w9 := (show (0 : Int32).toInt = ((0 : Nat) : Int) from by decide); omega, by have w9 := (show (0 : Int32).toInt = ((0 : Nat) : Int) from by decide); omega⟩, ⟨⟨_, f_5⟩, ⟨_, f_10, (hL9).trans (by omega)⟩, by omega, by omega, ⟨_, f_11⟩, ⟨_, f_12⟩, ⟨_, f_13⟩, ⟨_, f_14⟩, ⟨_, f_15, by have w9 := (rfl : Int32.toInt b9 = _); omega, by have w9 := (rfl : Int32.toInt b9 = _); omega⟩, ⟨_, f_6⟩, ⟨_, f_7⟩⟩⟩, fr_17⟩ hk1 hk2

theorem br_errorPosition (hRI : RSt hs L) : BodyN SSX TBL g0 CLS bl xs l D_203 0 0 0 0 [.ref 124] hs (POR hs L) := by
  intro wp p e R s m args below meth c Q kc0 ks0 kc ks act hf hl hc hsl hEnd
  have hf : 0 ≤ R.frames := hf
  have hl : 0 ≤ R.locals := hl
  have hk1 : kc ≤ kc + 0 := by omega
  have hk2 : ks ≤ ks + 0 := by omega
  obtain ⟨tl, wl, pv, nl, n, ng, nr, np, ⟨rw0, hTo, hW⟩, hPa, ⟨p9, e6, hp9⟩, hp10, hNW, hPN, hM, ⟨⟨tx, hT⟩, ⟨L9, e10, hL9⟩, hL0, hL7, ⟨A9, e11⟩, ⟨c9, e12⟩, ⟨d9, e13⟩, ⟨f9, e15⟩, ⟨b9, e14, hb9⟩, ⟨fv, hF⟩, ⟨gv, hG⟩⟩⟩ := hRI
  obtain ⟨⟨x0, e0, hx0⟩, -⟩ := id hM
  have hN9 := hNW.1
  obtain ⟨n0, n1, n2, n3, n4, n5, n6, n7, n8, hG0, nL, nC, nP, nD⟩ := hN9
  have hGn := hG0.1
  have hGn3 := hG0.2.1
  have hGl := hG0.2.2.1
  have hfr0 := FrS.rf WR0 hs
  show WpN (gp g0 wp) CLS p l e R s m args below meth c Q D_203.2.2.1 kc0 ks0 0 [some (.ref 124)] (hs, kc, ks) []
  refine g_loadA act (gx gp_203 (w := 0x103) rfl (by decide) rfl) (a := 0) (n := 1) rfl rfl rfl ?_
  refine g_constI act (gx gp_203 (w := 0x40000000400000001000000000201) rfl (by decide) rfl) (n := 2) (x := (0 : Int32)) (by decide) rfl ?_
  refine r_putf act (gx gp_203 (w := 0x9000513) rfl (by decide) rfl) (n := 5) (ci := 9) (j := 0) (N := 39) rfl rfl rfl rw0.1 (by decide) (Or.inl ⟨rfl, _, rfl⟩) ?_
  have rw_1 := RW.wr (k := 124) (j := 0) (v := .int (0 : Int32)) rw0 (Or.inr (by decide))
  have f_2 := hTo.ne (k := 124) (j := 0) (v := .int (0 : Int32)) (by decide)
  have f_3 := hW.ne (k := 124) (j := 0) (v := .int (0 : Int32)) (by decide)
  have f_4 := hPa.ne (k := 124) (j := 0) (v := .int (0 : Int32)) (by decide)
  have f_5 := hT.ne (k := 124) (j := 0) (v := .int (0 : Int32)) (by decide)
  have f_6 := hF.ne (k := 124) (j := 0) (v := .int (0 : Int32)) (by decide)
  have f_7 := hG.ne (k := 124) (j := 0) (v := .int (0 : Int32)) (by decide)
  have f_9 := (rd_ne hs (k := 124) (j := 0) (.int (0 : Int32)) (Or.inr (by decide))).trans e6
  have f_10 := (rd_ne hs (k := 124) (j := 0) (.int (0 : Int32)) (Or.inr (by decide))).trans e10
  have f_11 := (rd_ne hs (k := 124) (j := 0) (.int (0 : Int32)) (Or.inr (by decide))).trans e11
  have f_12 := (rd_ne hs (k := 124) (j := 0) (.int (0 : Int32)) (Or.inr (by decide))).trans e12
  have f_13 := (rd_ne hs (k := 124) (j := 0) (.int (0 : Int32)) (Or.inr (by decide))).trans e13
  have f_14 := (rd_ne hs (k := 124) (j := 0) (.int (0 : Int32)) (Or.inr (by decide))).trans e15
  have f_15 := (rd_ne hs (k := 124) (j := 0) (.int (0 : Int32)) (Or.inr (by decide))).trans e14
  have f_16 := rd_same (j := 0) (v := .int (0 : Int32)) rw0.1
  have fr_17 := hfr0.wr (k := 124) (j := 0) (.int (0 : Int32)) (by unfold WR0; omega)
  clear hTo hW hPa hT hF hG e0 e6 e10 e11 e12 e13 e15 e14
  generalize (wr hs 124 0 (.int (0 : Int32))) = hs_18 at *
  refine g_loadA act (gx gp_203 (w := 0x603) rfl (by decide) rfl) (a := 0) (n := 6) rfl rfl rfl ?_
  refine r_getf act (gx gp_203 (w := 0x349000904) rfl (by decide) rfl) (n := 9) (ci := 9) (j := 13) (N := 39) rfl rfl rfl rw_1.1 (by decide) (v := .int d9) f_13 ?_
  exact g_retI hEnd (gx gp_203 (w := 0x2f) rfl (by decide) rfl) ⟨rfl, ⟨_, rfl⟩, ⟨tl, wl, pv, nl, n, ng, nr, np, ⟨rw_1, f_2, f_3⟩, f_4, ⟨_, f_9, hp9⟩, by omega, hNW, hPN, hM.frw fr_17 ⟨_, f_16, by have w9 := (show (0 : Int32).toInt = ((0 : Nat) : Int) from by decide); omega, by have w9 := (show (0 : Int32).toInt = ((0 : Nat) : Int) from by decide); omega⟩, ⟨⟨_, f_5⟩, ⟨_, f_10, (hL9).trans (by omega)⟩, by omega, by omega, ⟨_, f_11⟩, ⟨_, f_12⟩, ⟨_, f_13⟩, ⟨_, f_14⟩, ⟨_, f_15, by have w9 := (rfl : Int32.toInt b9 = _); omega, by have w9 := (rfl : Int32.toInt b9 = _); omega⟩, ⟨_, f_6⟩, ⟨_, f_7⟩⟩⟩, fr_17⟩ hk1 hk2

theorem br_outage (hRI : RSt hs L) : BodyN SSX TBL g0 CLS bl xs l D_246 0 0 0 0 [.ref 124] hs (POR hs L) := by
  intro wp p e R s m args below meth c Q kc0 ks0 kc ks act hf hl hc hsl hEnd
  have hf : 0 ≤ R.frames := hf
  have hl : 0 ≤ R.locals := hl
  have hk1 : kc ≤ kc + 0 := by omega
  have hk2 : ks ≤ ks + 0 := by omega
  obtain ⟨tl, wl, pv, nl, n, ng, nr, np, ⟨rw0, hTo, hW⟩, hPa, ⟨p9, e6, hp9⟩, hp10, hNW, hPN, hM, ⟨⟨tx, hT⟩, ⟨L9, e10, hL9⟩, hL0, hL7, ⟨A9, e11⟩, ⟨c9, e12⟩, ⟨d9, e13⟩, ⟨f9, e15⟩, ⟨b9, e14, hb9⟩, ⟨fv, hF⟩, ⟨gv, hG⟩⟩⟩ := hRI
  obtain ⟨⟨x0, e0, hx0⟩, -⟩ := id hM
  have hN9 := hNW.1
  obtain ⟨n0, n1, n2, n3, n4, n5, n6, n7, n8, hG0, nL, nC, nP, nD⟩ := hN9
  have hGn := hG0.1
  have hGn3 := hG0.2.1
  have hGl := hG0.2.2.1
  have hfr0 := FrS.rf WR0 hs
  show WpN (gp g0 wp) CLS p l e R s m args below meth c Q D_246.2.2.1 kc0 ks0 0 [some (.ref 124)] (hs, kc, ks) []
  refine g_loadA act (gx gp_246 (w := 0x103) rfl (by decide) rfl) (a := 0) (n := 1) rfl rfl rfl ?_
  refine g_constI act (gx gp_246 (w := 0x40000000400000001000000000201) rfl (by decide) rfl) (n := 2) (x := (0 : Int32)) (by decide) rfl ?_
  refine r_putf act (gx gp_246 (w := 0x9000513) rfl (by decide) rfl) (n := 5) (ci := 9) (j := 0) (N := 39) rfl rfl rfl rw0.1 (by decide) (Or.inl ⟨rfl, _, rfl⟩) ?_
  have rw_1 := RW.wr (k := 124) (j := 0) (v := .int (0 : Int32)) rw0 (Or.inr (by decide))
  have f_2 := hTo.ne (k := 124) (j := 0) (v := .int (0 : Int32)) (by decide)
  have f_3 := hW.ne (k := 124) (j := 0) (v := .int (0 : Int32)) (by decide)
  have f_4 := hPa.ne (k := 124) (j := 0) (v := .int (0 : Int32)) (by decide)
  have f_5 := hT.ne (k := 124) (j := 0) (v := .int (0 : Int32)) (by decide)
  have f_6 := hF.ne (k := 124) (j := 0) (v := .int (0 : Int32)) (by decide)
  have f_7 := hG.ne (k := 124) (j := 0) (v := .int (0 : Int32)) (by decide)
  have f_9 := (rd_ne hs (k := 124) (j := 0) (.int (0 : Int32)) (Or.inr (by decide))).trans e6
  have f_10 := (rd_ne hs (k := 124) (j := 0) (.int (0 : Int32)) (Or.inr (by decide))).trans e10
  have f_11 := (rd_ne hs (k := 124) (j := 0) (.int (0 : Int32)) (Or.inr (by decide))).trans e11
  have f_12 := (rd_ne hs (k := 124) (j := 0) (.int (0 : Int32)) (Or.inr (by decide))).trans e12
  have f_13 := (rd_ne hs (k := 124) (j := 0) (.int (0 : Int32)) (Or.inr (by decide))).trans e13
  have f_14 := (rd_ne hs (k := 124) (j := 0) (.int (0 : Int32)) (Or.inr (by decide))).trans e15
  have f_15 := (rd_ne hs (k := 124) (j := 0) (.int (0 : Int32)) (Or.inr (by decide))).trans e14
  have f_16 := rd_same (j := 0) (v := .int (0 : Int32)) rw0.1
  have fr_17 := hfr0.wr (k := 124) (j := 0) (.int (0 : Int32)) (by unfold WR0; omega)
  clear hTo hW hPa hT hF hG e0 e6 e10 e11 e12 e13 e15 e14
  generalize (wr hs 124 0 (.int (0 : Int32))) = hs_18 at *
  refine g_loadA act (gx gp_246 (w := 0x603) rfl (by decide) rfl) (a := 0) (n := 6) rfl rfl rfl ?_
  refine r_getf act (gx gp_246 (w := 0x30000c9000904) rfl (by decide) rfl) (n := 9) (ci := 9) (j := 3) (N := 39) rfl rfl rfl rw_1.1 (by decide) (rw_1.2 (3, 127, 32, 39) (by decide)).1 ?_
  refine g_constI act (gx gp_246 (w := 0x40000013400000131000000000b01) rfl (by decide) rfl) (n := 11) (x := (38 : Int32)) (by decide) rfl ?_
  obtain ⟨x_19, e_20, hx_21⟩ := f_3 38 (by omega)
  refine r_iald act (gx gp_246 (w := 0xc1a) rfl (by decide) rfl) (n := 12) (j := 38) rfl (rw_1.2 (3, 127, 32, 39) (by decide)).2 (show (38 : Int32).toInt = ((38 : Nat) : Int) from by decide) (show 38 < 39 by omega) (v := .int x_19) e_20 ?_
  exact g_retI hEnd (gx gp_246 (w := 0x2f) rfl (by decide) rfl) ⟨rfl, ⟨_, rfl⟩, ⟨tl, wl, pv, nl, n, ng, nr, np, ⟨rw_1, f_2, f_3⟩, f_4, ⟨_, f_9, hp9⟩, by omega, hNW, hPN, hM.frw fr_17 ⟨_, f_16, by have w9 := (show (0 : Int32).toInt = ((0 : Nat) : Int) from by decide); omega, by have w9 := (show (0 : Int32).toInt = ((0 : Nat) : Int) from by decide); omega⟩, ⟨⟨_, f_5⟩, ⟨_, f_10, (hL9).trans (by omega)⟩, by omega, by omega, ⟨_, f_11⟩, ⟨_, f_12⟩, ⟨_, f_13⟩, ⟨_, f_14⟩, ⟨_, f_15, by have w9 := (rfl : Int32.toInt b9 = _); omega, by have w9 := (rfl : Int32.toInt b9 = _); omega⟩, ⟨_, f_6⟩, ⟨_, f_7⟩⟩⟩, fr_17⟩ hk1 hk2

theorem br_count {i1 : Int32} (hRI : RSt hs L) : BodyN SSX TBL g0 CLS bl xs l D_195 1 22 0 0 [.ref 124, .int i1] hs (POR hs L) := by
  intro wp p e R s m args below meth c Q kc0 ks0 kc ks act hf hl hc hsl hEnd
  have hf : 1 ≤ R.frames := hf
  have hl : 22 ≤ R.locals := hl
  have hk1 : kc ≤ kc + 0 := by omega
  have hk2 : ks ≤ ks + 0 := by omega
  obtain ⟨tl, wl, pv, nl, n, ng, nr, np, ⟨rw0, hTo, hW⟩, hPa, ⟨p9, e6, hp9⟩, hp10, hNW, hPN, hM, ⟨⟨tx, hT⟩, ⟨L9, e10, hL9⟩, hL0, hL7, ⟨A9, e11⟩, ⟨c9, e12⟩, ⟨d9, e13⟩, ⟨f9, e15⟩, ⟨b9, e14, hb9⟩, ⟨fv, hF⟩, ⟨gv, hG⟩⟩⟩ := hRI
  obtain ⟨⟨x0, e0, hx0⟩, -⟩ := id hM
  have hN9 := hNW.1
  obtain ⟨n0, n1, n2, n3, n4, n5, n6, n7, n8, hG0, nL, nC, nP, nD⟩ := hN9
  have hGn := hG0.1
  have hGn3 := hG0.2.1
  have hGl := hG0.2.2.1
  have hfr0 := FrS.rf WR0 hs
  show WpN (gp g0 wp) CLS p l e R s m args below meth c Q D_195.2.2.1 kc0 ks0 0 [some (.ref 124), some (.int i1)] (hs, kc, ks) []
  refine g_loadA act (gx gp_195 (w := 0x103) rfl (by decide) rfl) (a := 0) (n := 1) rfl rfl rfl ?_
  refine g_loadI act (gx gp_195 (w := 0x1000202) rfl (by decide) rfl) (a := 1) (n := 2) rfl rfl rfl ?_
  refine g_constI act (gx gp_195 (w := 0x40000000400000001000000000301) rfl (by decide) rfl) (n := 3) (x := (0 : Int32)) (by decide) rfl ?_
  refine g_constI act (gx gp_195 (w := 0x40000002400000021000000000401) rfl (by decide) rfl) (n := 4) (x := (4 : Int32)) (by decide) rfl ?_
  refine n_call tb_pres act hEnd (gx (P := G_call) gp_195 (w := 0x40c330000d900070f) rfl (by decide) rfl) (d' := D_217) rfl (as := [.int i1, .int (0 : Int32), .int (4 : Int32)]) (rest := [.ref 124]) (b_in (rfl : Int32.toInt i1 = _) (show (0 : Int32).toInt = ((0 : Nat) : Int) from by decide) (show (4 : Int32).toInt = ((4 : Nat) : Int) from by decide)) (show (3 : Nat) = fb 0x40c330000d900070f % 16 by decide) (by show (3 : Nat) ≤ 3; decide) (fun q => absurd q (by decide)) (by omega) (by show 8 + (3 + 11) + 0 ≤ R.locals; omega) (by show (1 : Nat) ≤ 8; decide) (by show kc + 0 ≤ _; omega) (by show ks + 0 ≤ _; omega) (fun r9 h3 hpo hr9 => ?_) (fun x9 hs9 hx9 hpo => ?_)
  · obtain ⟨-, rfl, hin9⟩ := hpo
    obtain ⟨rv_1, rfl, hr_2⟩ := in1_x hin9
    show WpN (gp g0 wp) CLS p l e R s m args below meth c Q D_195.2.2.1 kc0 ks0 7 [some (.ref 124), some (.int i1)] (hs, kc, ks) [.int rv_1, .ref 124]
    refine g_ifEq act (gx gp_195 (w := 0xe000a0e) rfl (by decide) rfl) (tgt := 14) (n := 10) rfl rfl (fun h5 => ?_) (fun h5 => ?_)
    · simp only [i_eq, i0] at h5
      refine g_constI act (gx gp_195 (w := 0x40000000c00000009000000000f01) rfl (by decide) rfl) (n := 15) (x := (1 : Int32)) (by decide) rfl ?_
      refine r_putf act (gx gp_195 (w := 0x9001213) rfl (by decide) rfl) (n := 18) (ci := 9) (j := 0) (N := 39) rfl rfl rfl rw0.1 (by decide) (Or.inl ⟨rfl, _, rfl⟩) ?_
      have rw_3 := RW.wr (k := 124) (j := 0) (v := .int (1 : Int32)) rw0 (Or.inr (by decide))
      have f_4 := hTo.ne (k := 124) (j := 0) (v := .int (1 : Int32)) (by decide)
      have f_5 := hW.ne (k := 124) (j := 0) (v := .int (1 : Int32)) (by decide)
      have f_6 := hPa.ne (k := 124) (j := 0) (v := .int (1 : Int32)) (by decide)
      have f_7 := hT.ne (k := 124) (j := 0) (v := .int (1 : Int32)) (by decide)
      have f_8 := hF.ne (k := 124) (j := 0) (v := .int (1 : Int32)) (by decide)
      have f_9 := hG.ne (k := 124) (j := 0) (v := .int (1 : Int32)) (by decide)
      have f_11 := (rd_ne hs (k := 124) (j := 0) (.int (1 : Int32)) (Or.inr (by decide))).trans e6
      have f_12 := (rd_ne hs (k := 124) (j := 0) (.int (1 : Int32)) (Or.inr (by decide))).trans e10
      have f_13 := (rd_ne hs (k := 124) (j := 0) (.int (1 : Int32)) (Or.inr (by decide))).trans e11
      have f_14 := (rd_ne hs (k := 124) (j := 0) (.int (1 : Int32)) (Or.inr (by decide))).trans e12
      have f_15 := (rd_ne hs (k := 124) (j := 0) (.int (1 : Int32)) (Or.inr (by decide))).trans e13
      have f_16 := (rd_ne hs (k := 124) (j := 0) (.int (1 : Int32)) (Or.inr (by decide))).trans e15
      have f_17 := (rd_ne hs (k := 124) (j := 0) (.int (1 : Int32)) (Or.inr (by decide))).trans e14
      have f_18 := rd_same (j := 0) (v := .int (1 : Int32)) rw0.1
      have fr_19 := hfr0.wr (k := 124) (j := 0) (.int (1 : Int32)) (by unfold WR0; omega)
      clear hTo hW hPa hT hF hG e0 e6 e10 e11 e12 e13 e15 e14
      generalize (wr hs 124 0 (.int (1 : Int32))) = hs_20 at *
      refine g_loadA act (gx gp_195 (w := 0x1303) rfl (by decide) rfl) (a := 0) (n := 19) rfl rfl rfl ?_
      refine r_getf act (gx gp_195 (w := 0x9001604) rfl (by decide) rfl) (n := 22) (ci := 9) (j := 0) (N := 39) rfl rfl rfl rw_3.1 (by decide) (v := .int (1 : Int32)) f_18 ?_
      refine g_ifLe act (gx gp_195 (w := 0x1d00193d) rfl (by decide) rfl) (tgt := 29) (n := 25) rfl rfl (fun q => absurd q (by decide)) (fun _ => ?_)
      refine g_constI act (gx gp_195 (w := 0x40000000400000001000000001a01) rfl (by decide) rfl) (n := 26) (x := (0 : Int32)) (by decide) rfl ?_
      refine g_goto act (gx gp_195 (w := 0x2307) rfl (by decide) rfl) (n := 35) rfl ?_
      exact g_retI hEnd (gx gp_195 (w := 0x2f) rfl (by decide) rfl) ⟨rfl, ⟨_, rfl⟩, ⟨tl, wl, pv, nl, n, ng, nr, np, ⟨rw_3, f_4, f_5⟩, f_6, ⟨_, f_11, hp9⟩, by omega, hNW, hPN, hM.frw fr_19 ⟨_, f_18, by have w9 := (show (1 : Int32).toInt = ((1 : Nat) : Int) from by decide); omega, by have w9 := (show (1 : Int32).toInt = ((1 : Nat) : Int) from by decide); omega⟩, ⟨⟨_, f_7⟩, ⟨_, f_12, (hL9).trans (by omega)⟩, by omega, by omega, ⟨_, f_13⟩, ⟨_, f_14⟩, ⟨_, f_15⟩, ⟨_, f_16⟩, ⟨_, f_17, by have w9 := (rfl : Int32.toInt b9 = _); omega, by have w9 := (rfl : Int32.toInt b9 = _); omega⟩, ⟨_, f_8⟩, ⟨_, f_9⟩⟩⟩, fr_19⟩ hk1 hk2
    · simp only [i_eq, i0] at h5
      refine g_constI act (gx gp_195 (w := 0x40000000400000001000000000b01) rfl (by decide) rfl) (n := 11) (x := (0 : Int32)) (by decide) rfl ?_
      refine g_goto act (gx gp_195 (w := 0xf07) rfl (by decide) rfl) (n := 15) rfl ?_
      refine r_putf act (gx gp_195 (w := 0x9001213) rfl (by decide) rfl) (n := 18) (ci := 9) (j := 0) (N := 39) rfl rfl rfl rw0.1 (by decide) (Or.inl ⟨rfl, _, rfl⟩) ?_
      have rw_21 := RW.wr (k := 124) (j := 0) (v := .int (0 : Int32)) rw0 (Or.inr (by decide))
      have f_22 := hTo.ne (k := 124) (j := 0) (v := .int (0 : Int32)) (by decide)
      have f_23 := hW.ne (k := 124) (j := 0) (v := .int (0 : Int32)) (by decide)
      have f_24 := hPa.ne (k := 124) (j := 0) (v := .int (0 : Int32)) (by decide)
      have f_25 := hT.ne (k := 124) (j := 0) (v := .int (0 : Int32)) (by decide)
      have f_26 := hF.ne (k := 124) (j := 0) (v := .int (0 : Int32)) (by decide)
      have f_27 := hG.ne (k := 124) (j := 0) (v := .int (0 : Int32)) (by decide)
      have f_29 := (rd_ne hs (k := 124) (j := 0) (.int (0 : Int32)) (Or.inr (by decide))).trans e6
      have f_30 := (rd_ne hs (k := 124) (j := 0) (.int (0 : Int32)) (Or.inr (by decide))).trans e10
      have f_31 := (rd_ne hs (k := 124) (j := 0) (.int (0 : Int32)) (Or.inr (by decide))).trans e11
      have f_32 := (rd_ne hs (k := 124) (j := 0) (.int (0 : Int32)) (Or.inr (by decide))).trans e12
      have f_33 := (rd_ne hs (k := 124) (j := 0) (.int (0 : Int32)) (Or.inr (by decide))).trans e13
      have f_34 := (rd_ne hs (k := 124) (j := 0) (.int (0 : Int32)) (Or.inr (by decide))).trans e15
      have f_35 := (rd_ne hs (k := 124) (j := 0) (.int (0 : Int32)) (Or.inr (by decide))).trans e14
      have f_36 := rd_same (j := 0) (v := .int (0 : Int32)) rw0.1
      have fr_37 := hfr0.wr (k := 124) (j := 0) (.int (0 : Int32)) (by unfold WR0; omega)
      clear hTo hW hPa hT hF hG e0 e6 e10 e11 e12 e13 e15 e14
      generalize (wr hs 124 0 (.int (0 : Int32))) = hs_38 at *
      refine g_loadA act (gx gp_195 (w := 0x1303) rfl (by decide) rfl) (a := 0) (n := 19) rfl rfl rfl ?_
      refine r_getf act (gx gp_195 (w := 0x9001604) rfl (by decide) rfl) (n := 22) (ci := 9) (j := 0) (N := 39) rfl rfl rfl rw_21.1 (by decide) (v := .int (0 : Int32)) f_36 ?_
      refine g_ifLe act (gx gp_195 (w := 0x1d00193d) rfl (by decide) rfl) (tgt := 29) (n := 25) rfl rfl (fun _ => ?_) (fun q => absurd (by decide) q)
      refine g_loadA act (gx gp_195 (w := 0x1e03) rfl (by decide) rfl) (a := 0) (n := 30) rfl rfl rfl ?_
      refine r_getf act (gx gp_195 (w := 0x3000049002104) rfl (by decide) rfl) (n := 33) (ci := 9) (j := 1) (N := 39) rfl rfl rfl rw_21.1 (by decide) (rw_21.2 (1, 125, 32, 46) (by decide)).1 ?_
      refine g_loadI act (gx gp_195 (w := 0x1002202) rfl (by decide) rfl) (a := 1) (n := 34) rfl rfl rfl ?_
      obtain ⟨j_39, hj_40⟩ := Int.eq_ofNat_of_zero_le (show (0 : Int) ≤ (Int32.toInt i1) by omega)
      obtain ⟨x_41, e_42, hx_43⟩ := f_22 j_39 (by omega)
      refine r_iald act (gx gp_195 (w := 0x231a) rfl (by decide) rfl) (n := 35) (j := j_39) rfl (rw_21.2 (1, 125, 32, 46) (by decide)).2 ((rfl : Int32.toInt i1 = _).trans hj_40) (show j_39 < 46 by omega) (v := .int x_41) e_42 ?_
      exact g_retI hEnd (gx gp_195 (w := 0x2f) rfl (by decide) rfl) ⟨rfl, ⟨_, rfl⟩, ⟨tl, wl, pv, nl, n, ng, nr, np, ⟨rw_21, f_22, f_23⟩, f_24, ⟨_, f_29, hp9⟩, by omega, hNW, hPN, hM.frw fr_37 ⟨_, f_36, by have w9 := (show (0 : Int32).toInt = ((0 : Nat) : Int) from by decide); omega, by have w9 := (show (0 : Int32).toInt = ((0 : Nat) : Int) from by decide); omega⟩, ⟨⟨_, f_25⟩, ⟨_, f_30, (hL9).trans (by omega)⟩, by omega, by omega, ⟨_, f_31⟩, ⟨_, f_32⟩, ⟨_, f_33⟩, ⟨_, f_34⟩, ⟨_, f_35, by have w9 := (rfl : Int32.toInt b9 = _); omega, by have w9 := (rfl : Int32.toInt b9 = _); omega⟩, ⟨_, f_26⟩, ⟨_, f_27⟩⟩⟩, fr_37⟩ hk1 hk2
  · exact absurd hpo.1 (by omega)

theorem br_line {i1 i2 : Int32} (hRI : RSt hs L) : BodyN SSX TBL g0 CLS bl xs l D_237 2 43 0 0 [.ref 124, .int i1, .int i2] hs (POR hs L) := by
  intro wp p e R s m args below meth c Q kc0 ks0 kc ks act hf hl hc hsl hEnd
  have hf : 2 ≤ R.frames := hf
  have hl : 43 ≤ R.locals := hl
  have hk1 : kc ≤ kc + 0 := by omega
  have hk2 : ks ≤ ks + 0 := by omega
  obtain ⟨tl, wl, pv, nl, n, ng, nr, np, ⟨rw0, hTo, hW⟩, hPa, ⟨p9, e6, hp9⟩, hp10, hNW, hPN, hM, ⟨⟨tx, hT⟩, ⟨L9, e10, hL9⟩, hL0, hL7, ⟨A9, e11⟩, ⟨c9, e12⟩, ⟨d9, e13⟩, ⟨f9, e15⟩, ⟨b9, e14, hb9⟩, ⟨fv, hF⟩, ⟨gv, hG⟩⟩⟩ := hRI
  obtain ⟨⟨x0, e0, hx0⟩, -⟩ := id hM
  have hN9 := hNW.1
  obtain ⟨n0, n1, n2, n3, n4, n5, n6, n7, n8, hG0, nL, nC, nP, nD⟩ := hN9
  have hGn := hG0.1
  have hGn3 := hG0.2.1
  have hGl := hG0.2.2.1
  have hfr0 := FrS.rf WR0 hs
  show WpN (gp g0 wp) CLS p l e R s m args below meth c Q D_237.2.2.1 kc0 ks0 0 [some (.ref 124), some (.int i1), some (.int i2)] (hs, kc, ks) []
  refine g_loadA act (gx gp_237 (w := 0x103) rfl (by decide) rfl) (a := 0) (n := 1) rfl rfl rfl ?_
  refine g_loadA act (gx gp_237 (w := 0x203) rfl (by decide) rfl) (a := 0) (n := 2) rfl rfl rfl ?_
  refine g_loadI act (gx gp_237 (w := 0x1000302) rfl (by decide) rfl) (a := 1) (n := 3) rfl rfl rfl ?_
  refine n_call tb_pres act hEnd (gx (P := G_call) gp_237 (w := 0xa000000000000c08220000e200060f) rfl (by decide) rfl) (d' := D_226) rfl (as := [.ref 124, .int i1]) (rest := [.ref 124]) (b_isLine rw0 hTo (rfl : Int32.toInt i1 = _) (by omega) (by omega)) (show (2 : Nat) = fb 0xa000000000000c08220000e200060f % 16 by decide) (by show (2 : Nat) ≤ 2; decide) (fun _ => ⟨_, _, rfl, _, shp_at rw0.1, Or.inr (show fb 0xa000000000000c08220000e200060f >>> 68 = 10 by decide)⟩) (by omega) (by show 8 + (2 + 11) + 22 ≤ R.locals; omega) (by show (1 : Nat) ≤ 8; decide) (by show kc + 0 ≤ _; omega) (by show ks + 0 ≤ _; omega) (fun r9 h3 hpo hr9 => ?_) (fun x9 hs9 hx9 hpo => ?_)
  · obtain ⟨-, rfl, hin9⟩ := hpo
    obtain ⟨rv_1, rfl, hr_2⟩ := in1_x hin9
    show WpN (gp g0 wp) CLS p l e R s m args below meth c Q D_237.2.2.1 kc0 ks0 6 [some (.ref 124), some (.int i1), some (.int i2)] (hs, kc, ks) [.int rv_1, .ref 124]
    refine g_ifNe act (gx gp_237 (w := 0xd00091d) rfl (by decide) rfl) (tgt := 13) (n := 9) rfl rfl (fun h4 => ?_) (fun h4 => ?_)
    · simp only [i_eq, i0] at h4
      refine g_loadI act (gx gp_237 (w := 0x2000e02) rfl (by decide) rfl) (a := 2) (n := 14) rfl rfl rfl ?_
      refine g_constI act (gx gp_237 (w := 0x40000000400000001000000000f01) rfl (by decide) rfl) (n := 15) (x := (0 : Int32)) (by decide) rfl ?_
      refine g_constI act (gx gp_237 (w := 0x40000001c00000019000000001001) rfl (by decide) rfl) (n := 16) (x := (3 : Int32)) (by decide) rfl ?_
      refine n_call tb_pres act hEnd (gx (P := G_call) gp_237 (w := 0x40c330000d900130f) rfl (by decide) rfl) (d' := D_217) rfl (as := [.int i2, .int (0 : Int32), .int (3 : Int32)]) (rest := [.ref 124]) (b_in (rfl : Int32.toInt i2 = _) (show (0 : Int32).toInt = ((0 : Nat) : Int) from by decide) (show (3 : Int32).toInt = ((3 : Nat) : Int) from by decide)) (show (3 : Nat) = fb 0x40c330000d900130f % 16 by decide) (by show (3 : Nat) ≤ 3; decide) (fun q => absurd q (by decide)) (by omega) (by show 8 + (3 + 11) + 0 ≤ R.locals; omega) (by show (1 : Nat) ≤ 8; decide) (by show kc + 0 ≤ _; omega) (by show ks + 0 ≤ _; omega) (fun r9 h3 hpo hr9 => ?_) (fun x9 hs9 hx9 hpo => ?_)
      · obtain ⟨-, rfl, hin9⟩ := hpo
        obtain ⟨rv_3, rfl, hr_4⟩ := in1_x hin9
        show WpN (gp g0 wp) CLS p l e R s m args below meth c Q D_237.2.2.1 kc0 ks0 19 [some (.ref 124), some (.int i1), some (.int i2)] (hs, kc, ks) [.int rv_3, .ref 124]
        refine g_ifEq act (gx gp_237 (w := 0x1a00160e) rfl (by decide) rfl) (tgt := 26) (n := 22) rfl rfl (fun h8 => ?_) (fun h8 => ?_)
        · simp only [i_eq, i0] at h8
          refine g_constI act (gx gp_237 (w := 0x40000001400000011000000001b01) rfl (by decide) rfl) (n := 27) (x := (2 : Int32)) (by decide) rfl ?_
          refine r_putf act (gx gp_237 (w := 0x9001e13) rfl (by decide) rfl) (n := 30) (ci := 9) (j := 0) (N := 39) rfl rfl rfl rw0.1 (by decide) (Or.inl ⟨rfl, _, rfl⟩) ?_
          have rw_5 := RW.wr (k := 124) (j := 0) (v := .int (2 : Int32)) rw0 (Or.inr (by decide))
          have f_6 := hTo.ne (k := 124) (j := 0) (v := .int (2 : Int32)) (by decide)
          have f_7 := hW.ne (k := 124) (j := 0) (v := .int (2 : Int32)) (by decide)
          have f_8 := hPa.ne (k := 124) (j := 0) (v := .int (2 : Int32)) (by decide)
          have f_9 := hT.ne (k := 124) (j := 0) (v := .int (2 : Int32)) (by decide)
          have f_10 := hF.ne (k := 124) (j := 0) (v := .int (2 : Int32)) (by decide)
          have f_11 := hG.ne (k := 124) (j := 0) (v := .int (2 : Int32)) (by decide)
          have f_13 := (rd_ne hs (k := 124) (j := 0) (.int (2 : Int32)) (Or.inr (by decide))).trans e6
          have f_14 := (rd_ne hs (k := 124) (j := 0) (.int (2 : Int32)) (Or.inr (by decide))).trans e10
          have f_15 := (rd_ne hs (k := 124) (j := 0) (.int (2 : Int32)) (Or.inr (by decide))).trans e11
          have f_16 := (rd_ne hs (k := 124) (j := 0) (.int (2 : Int32)) (Or.inr (by decide))).trans e12
          have f_17 := (rd_ne hs (k := 124) (j := 0) (.int (2 : Int32)) (Or.inr (by decide))).trans e13
          have f_18 := (rd_ne hs (k := 124) (j := 0) (.int (2 : Int32)) (Or.inr (by decide))).trans e15
          have f_19 := (rd_ne hs (k := 124) (j := 0) (.int (2 : Int32)) (Or.inr (by decide))).trans e14
          have f_20 := rd_same (j := 0) (v := .int (2 : Int32)) rw0.1
          have fr_21 := hfr0.wr (k := 124) (j := 0) (.int (2 : Int32)) (by unfold WR0; omega)
          clear hTo hW hPa hT hF hG e0 e6 e10 e11 e12 e13 e15 e14
          generalize (wr hs 124 0 (.int (2 : Int32))) = hs_22 at *
          refine g_loadA act (gx gp_237 (w := 0x1f03) rfl (by decide) rfl) (a := 0) (n := 31) rfl rfl rfl ?_
          refine r_getf act (gx gp_237 (w := 0x9002204) rfl (by decide) rfl) (n := 34) (ci := 9) (j := 0) (N := 39) rfl rfl rfl rw_5.1 (by decide) (v := .int (2 : Int32)) f_20 ?_
          refine g_ifLe act (gx gp_237 (w := 0x2700253d) rfl (by decide) rfl) (tgt := 39) (n := 37) rfl rfl (fun q => absurd q (by decide)) (fun _ => ?_)
          refine g_constI act (gx gp_237 (w := 0x40000000400000001000000002601) rfl (by decide) rfl) (n := 38) (x := (0 : Int32)) (by decide) rfl ?_
          exact g_retI hEnd (gx gp_237 (w := 0x2f) rfl (by decide) rfl) ⟨rfl, ⟨_, rfl⟩, ⟨tl, wl, pv, nl, n, ng, nr, np, ⟨rw_5, f_6, f_7⟩, f_8, ⟨_, f_13, hp9⟩, by omega, hNW, hPN, hM.frw fr_21 ⟨_, f_20, by have w9 := (show (2 : Int32).toInt = ((2 : Nat) : Int) from by decide); omega, by have w9 := (show (2 : Int32).toInt = ((2 : Nat) : Int) from by decide); omega⟩, ⟨⟨_, f_9⟩, ⟨_, f_14, (hL9).trans (by omega)⟩, by omega, by omega, ⟨_, f_15⟩, ⟨_, f_16⟩, ⟨_, f_17⟩, ⟨_, f_18⟩, ⟨_, f_19, by have w9 := (rfl : Int32.toInt b9 = _); omega, by have w9 := (rfl : Int32.toInt b9 = _); omega⟩, ⟨_, f_10⟩, ⟨_, f_11⟩⟩⟩, fr_21⟩ hk1 hk2
        · simp only [i_eq, i0] at h8
          refine g_constI act (gx gp_237 (w := 0x40000000400000001000000001701) rfl (by decide) rfl) (n := 23) (x := (0 : Int32)) (by decide) rfl ?_
          refine g_goto act (gx gp_237 (w := 0x1b07) rfl (by decide) rfl) (n := 27) rfl ?_
          refine r_putf act (gx gp_237 (w := 0x9001e13) rfl (by decide) rfl) (n := 30) (ci := 9) (j := 0) (N := 39) rfl rfl rfl rw0.1 (by decide) (Or.inl ⟨rfl, _, rfl⟩) ?_
          have rw_23 := RW.wr (k := 124) (j := 0) (v := .int (0 : Int32)) rw0 (Or.inr (by decide))
          have f_24 := hTo.ne (k := 124) (j := 0) (v := .int (0 : Int32)) (by decide)
          have f_25 := hW.ne (k := 124) (j := 0) (v := .int (0 : Int32)) (by decide)
          have f_26 := hPa.ne (k := 124) (j := 0) (v := .int (0 : Int32)) (by decide)
          have f_27 := hT.ne (k := 124) (j := 0) (v := .int (0 : Int32)) (by decide)
          have f_28 := hF.ne (k := 124) (j := 0) (v := .int (0 : Int32)) (by decide)
          have f_29 := hG.ne (k := 124) (j := 0) (v := .int (0 : Int32)) (by decide)
          have f_31 := (rd_ne hs (k := 124) (j := 0) (.int (0 : Int32)) (Or.inr (by decide))).trans e6
          have f_32 := (rd_ne hs (k := 124) (j := 0) (.int (0 : Int32)) (Or.inr (by decide))).trans e10
          have f_33 := (rd_ne hs (k := 124) (j := 0) (.int (0 : Int32)) (Or.inr (by decide))).trans e11
          have f_34 := (rd_ne hs (k := 124) (j := 0) (.int (0 : Int32)) (Or.inr (by decide))).trans e12
          have f_35 := (rd_ne hs (k := 124) (j := 0) (.int (0 : Int32)) (Or.inr (by decide))).trans e13
          have f_36 := (rd_ne hs (k := 124) (j := 0) (.int (0 : Int32)) (Or.inr (by decide))).trans e15
          have f_37 := (rd_ne hs (k := 124) (j := 0) (.int (0 : Int32)) (Or.inr (by decide))).trans e14
          have f_38 := rd_same (j := 0) (v := .int (0 : Int32)) rw0.1
          have fr_39 := hfr0.wr (k := 124) (j := 0) (.int (0 : Int32)) (by unfold WR0; omega)
          clear hTo hW hPa hT hF hG e0 e6 e10 e11 e12 e13 e15 e14
          generalize (wr hs 124 0 (.int (0 : Int32))) = hs_40 at *
          refine g_loadA act (gx gp_237 (w := 0x1f03) rfl (by decide) rfl) (a := 0) (n := 31) rfl rfl rfl ?_
          refine r_getf act (gx gp_237 (w := 0x9002204) rfl (by decide) rfl) (n := 34) (ci := 9) (j := 0) (N := 39) rfl rfl rfl rw_23.1 (by decide) (v := .int (0 : Int32)) f_38 ?_
          refine g_ifLe act (gx gp_237 (w := 0x2700253d) rfl (by decide) rfl) (tgt := 39) (n := 37) rfl rfl (fun _ => ?_) (fun q => absurd (by decide) q)
          refine g_loadI act (gx gp_237 (w := 0x2002802) rfl (by decide) rfl) (a := 2) (n := 40) rfl rfl rfl ?_
          refine g_ifNe act (gx gp_237 (w := 0x36002b1d) rfl (by decide) rfl) (tgt := 54) (n := 43) rfl rfl (fun h18 => ?_) (fun h18 => ?_)
          · simp only [i_eq, i0] at h18
            refine g_loadI act (gx gp_237 (w := 0x2003702) rfl (by decide) rfl) (a := 2) (n := 55) rfl rfl rfl ?_
            refine g_constI act (gx gp_237 (w := 0x40000000c00000009000000003801) rfl (by decide) rfl) (n := 56) (x := (1 : Int32)) (by decide) rfl ?_
            refine g_icmpNe act (gx gp_237 (w := 0x47003b21) rfl (by decide) rfl) (tgt := 71) (n := 59) rfl rfl (fun h21 => ?_) (fun h21 => ?_)
            · simp only [i_eq, show (1 : Int32).toInt = 1 from by decide] at h21
              refine g_loadI act (gx gp_237 (w := 0x2004802) rfl (by decide) rfl) (a := 2) (n := 72) rfl rfl rfl ?_
              refine g_constI act (gx gp_237 (w := 0x40000001400000011000000004901) rfl (by decide) rfl) (n := 73) (x := (2 : Int32)) (by decide) rfl ?_
              refine g_icmpNe act (gx gp_237 (w := 0x57004c21) rfl (by decide) rfl) (tgt := 87) (n := 76) rfl rfl (fun h24 => ?_) (fun h24 => ?_)
              · simp only [i_eq, show (2 : Int32).toInt = 2 from by decide] at h24
                refine g_loadA act (gx gp_237 (w := 0x5803) rfl (by decide) rfl) (a := 0) (n := 88) rfl rfl rfl ?_
                refine r_getf act (gx gp_237 (w := 0x30000c9005b04) rfl (by decide) rfl) (n := 91) (ci := 9) (j := 3) (N := 39) rfl rfl rfl rw_23.1 (by decide) (rw_23.2 (3, 127, 32, 39) (by decide)).1 ?_
                refine g_constI act (gx gp_237 (w := 0x40000003400000031000000005d01) rfl (by decide) rfl) (n := 93) (x := (6 : Int32)) (by decide) rfl ?_
                refine g_loadI act (gx gp_237 (w := 0x1005e02) rfl (by decide) rfl) (a := 1) (n := 94) rfl rfl rfl ?_
                refine g_iadd act (gx gp_237 (w := 0x5f0a) rfl (by decide) rfl) (n := 95) rfl ?_
                have v_41 := iv_add (show (6 : Int32).toInt = ((6 : Nat) : Int) from by decide) (rfl : Int32.toInt i1 = _) (show -2147483648 ≤ (((6 : Nat) : Int) + (Int32.toInt i1)) by omega) (show (((6 : Nat) : Int) + (Int32.toInt i1)) < 2147483648 by omega)
                obtain ⟨j_42, hj_43⟩ := Int.eq_ofNat_of_zero_le (show (0 : Int) ≤ (((6 : Nat) : Int) + (Int32.toInt i1)) by omega)
                obtain ⟨x_44, e_45, hx_46⟩ := f_25 j_42 (by omega)
                refine r_iald act (gx gp_237 (w := 0x601a) rfl (by decide) rfl) (n := 96) (j := j_42) rfl (rw_23.2 (3, 127, 32, 39) (by decide)).2 (v_41.trans hj_43) (show j_42 < 39 by omega) (v := .int x_44) e_45 ?_
                exact g_retI hEnd (gx gp_237 (w := 0x2f) rfl (by decide) rfl) ⟨rfl, ⟨_, rfl⟩, ⟨tl, wl, pv, nl, n, ng, nr, np, ⟨rw_23, f_24, f_25⟩, f_26, ⟨_, f_31, hp9⟩, by omega, hNW, hPN, hM.frw fr_39 ⟨_, f_38, by have w9 := (show (0 : Int32).toInt = ((0 : Nat) : Int) from by decide); omega, by have w9 := (show (0 : Int32).toInt = ((0 : Nat) : Int) from by decide); omega⟩, ⟨⟨_, f_27⟩, ⟨_, f_32, (hL9).trans (by omega)⟩, by omega, by omega, ⟨_, f_33⟩, ⟨_, f_34⟩, ⟨_, f_35⟩, ⟨_, f_36⟩, ⟨_, f_37, by have w9 := (rfl : Int32.toInt b9 = _); omega, by have w9 := (rfl : Int32.toInt b9 = _); omega⟩, ⟨_, f_28⟩, ⟨_, f_29⟩⟩⟩, fr_39⟩ hk1 hk2
              · simp only [i_eq, show (2 : Int32).toInt = 2 from by decide] at h24
                refine g_loadA act (gx gp_237 (w := 0x4d03) rfl (by decide) rfl) (a := 0) (n := 77) rfl rfl rfl ?_
                refine r_getf act (gx gp_237 (w := 0x30000c9005004) rfl (by decide) rfl) (n := 80) (ci := 9) (j := 3) (N := 39) rfl rfl rfl rw_23.1 (by decide) (rw_23.2 (3, 127, 32, 39) (by decide)).1 ?_
                refine g_constI act (gx gp_237 (w := 0x40000000400000001000000005101) rfl (by decide) rfl) (n := 81) (x := (0 : Int32)) (by decide) rfl ?_
                refine g_loadI act (gx gp_237 (w := 0x1005202) rfl (by decide) rfl) (a := 1) (n := 82) rfl rfl rfl ?_
                refine g_iadd act (gx gp_237 (w := 0x530a) rfl (by decide) rfl) (n := 83) rfl ?_
                have v_47 := iv_add (show (0 : Int32).toInt = ((0 : Nat) : Int) from by decide) (rfl : Int32.toInt i1 = _) (show -2147483648 ≤ (((0 : Nat) : Int) + (Int32.toInt i1)) by omega) (show (((0 : Nat) : Int) + (Int32.toInt i1)) < 2147483648 by omega)
                obtain ⟨j_48, hj_49⟩ := Int.eq_ofNat_of_zero_le (show (0 : Int) ≤ (((0 : Nat) : Int) + (Int32.toInt i1)) by omega)
                obtain ⟨x_50, e_51, hx_52⟩ := f_25 j_48 (by omega)
                refine r_iald act (gx gp_237 (w := 0x541a) rfl (by decide) rfl) (n := 84) (j := j_48) rfl (rw_23.2 (3, 127, 32, 39) (by decide)).2 (v_47.trans hj_49) (show j_48 < 39 by omega) (v := .int x_50) e_51 ?_
                refine g_goto act (gx gp_237 (w := 0x6007) rfl (by decide) rfl) (n := 96) rfl ?_
                exact g_retI hEnd (gx gp_237 (w := 0x2f) rfl (by decide) rfl) ⟨rfl, ⟨_, rfl⟩, ⟨tl, wl, pv, nl, n, ng, nr, np, ⟨rw_23, f_24, f_25⟩, f_26, ⟨_, f_31, hp9⟩, by omega, hNW, hPN, hM.frw fr_39 ⟨_, f_38, by have w9 := (show (0 : Int32).toInt = ((0 : Nat) : Int) from by decide); omega, by have w9 := (show (0 : Int32).toInt = ((0 : Nat) : Int) from by decide); omega⟩, ⟨⟨_, f_27⟩, ⟨_, f_32, (hL9).trans (by omega)⟩, by omega, by omega, ⟨_, f_33⟩, ⟨_, f_34⟩, ⟨_, f_35⟩, ⟨_, f_36⟩, ⟨_, f_37, by have w9 := (rfl : Int32.toInt b9 = _); omega, by have w9 := (rfl : Int32.toInt b9 = _); omega⟩, ⟨_, f_28⟩, ⟨_, f_29⟩⟩⟩, fr_39⟩ hk1 hk2
            · simp only [i_eq, show (1 : Int32).toInt = 1 from by decide] at h21
              refine g_loadA act (gx gp_237 (w := 0x3c03) rfl (by decide) rfl) (a := 0) (n := 60) rfl rfl rfl ?_
              refine r_getf act (gx gp_237 (w := 0x3000049003f04) rfl (by decide) rfl) (n := 63) (ci := 9) (j := 1) (N := 39) rfl rfl rfl rw_23.1 (by decide) (rw_23.2 (1, 125, 32, 46) (by decide)).1 ?_
              refine g_constI act (gx gp_237 (w := 0x40000005c00000059000000004101) rfl (by decide) rfl) (n := 65) (x := (11 : Int32)) (by decide) rfl ?_
              refine g_loadI act (gx gp_237 (w := 0x1004202) rfl (by decide) rfl) (a := 1) (n := 66) rfl rfl rfl ?_
              refine g_iadd act (gx gp_237 (w := 0x430a) rfl (by decide) rfl) (n := 67) rfl ?_
              have v_53 := iv_add (show (11 : Int32).toInt = ((11 : Nat) : Int) from by decide) (rfl : Int32.toInt i1 = _) (show -2147483648 ≤ (((11 : Nat) : Int) + (Int32.toInt i1)) by omega) (show (((11 : Nat) : Int) + (Int32.toInt i1)) < 2147483648 by omega)
              obtain ⟨j_54, hj_55⟩ := Int.eq_ofNat_of_zero_le (show (0 : Int) ≤ (((11 : Nat) : Int) + (Int32.toInt i1)) by omega)
              obtain ⟨x_56, e_57, hx_58⟩ := f_24 j_54 (by omega)
              refine r_iald act (gx gp_237 (w := 0x441a) rfl (by decide) rfl) (n := 68) (j := j_54) rfl (rw_23.2 (1, 125, 32, 46) (by decide)).2 (v_53.trans hj_55) (show j_54 < 46 by omega) (v := .int x_56) e_57 ?_
              refine g_goto act (gx gp_237 (w := 0x6007) rfl (by decide) rfl) (n := 96) rfl ?_
              exact g_retI hEnd (gx gp_237 (w := 0x2f) rfl (by decide) rfl) ⟨rfl, ⟨_, rfl⟩, ⟨tl, wl, pv, nl, n, ng, nr, np, ⟨rw_23, f_24, f_25⟩, f_26, ⟨_, f_31, hp9⟩, by omega, hNW, hPN, hM.frw fr_39 ⟨_, f_38, by have w9 := (show (0 : Int32).toInt = ((0 : Nat) : Int) from by decide); omega, by have w9 := (show (0 : Int32).toInt = ((0 : Nat) : Int) from by decide); omega⟩, ⟨⟨_, f_27⟩, ⟨_, f_32, (hL9).trans (by omega)⟩, by omega, by omega, ⟨_, f_33⟩, ⟨_, f_34⟩, ⟨_, f_35⟩, ⟨_, f_36⟩, ⟨_, f_37, by have w9 := (rfl : Int32.toInt b9 = _); omega, by have w9 := (rfl : Int32.toInt b9 = _); omega⟩, ⟨_, f_28⟩, ⟨_, f_29⟩⟩⟩, fr_39⟩ hk1 hk2
          · simp only [i_eq, i0] at h18
            refine g_loadA act (gx gp_237 (w := 0x2c03) rfl (by decide) rfl) (a := 0) (n := 44) rfl rfl rfl ?_
            refine r_getf act (gx gp_237 (w := 0x3000049002f04) rfl (by decide) rfl) (n := 47) (ci := 9) (j := 1) (N := 39) rfl rfl rfl rw_23.1 (by decide) (rw_23.2 (1, 125, 32, 46) (by decide)).1 ?_
            refine g_constI act (gx gp_237 (w := 0x40000002c00000029000000003001) rfl (by decide) rfl) (n := 48) (x := (5 : Int32)) (by decide) rfl ?_
            refine g_loadI act (gx gp_237 (w := 0x1003102) rfl (by decide) rfl) (a := 1) (n := 49) rfl rfl rfl ?_
            refine g_iadd act (gx gp_237 (w := 0x320a) rfl (by decide) rfl) (n := 50) rfl ?_
            have v_59 := iv_add (show (5 : Int32).toInt = ((5 : Nat) : Int) from by decide) (rfl : Int32.toInt i1 = _) (show -2147483648 ≤ (((5 : Nat) : Int) + (Int32.toInt i1)) by omega) (show (((5 : Nat) : Int) + (Int32.toInt i1)) < 2147483648 by omega)
            obtain ⟨j_60, hj_61⟩ := Int.eq_ofNat_of_zero_le (show (0 : Int) ≤ (((5 : Nat) : Int) + (Int32.toInt i1)) by omega)
            obtain ⟨x_62, e_63, hx_64⟩ := f_24 j_60 (by omega)
            refine r_iald act (gx gp_237 (w := 0x331a) rfl (by decide) rfl) (n := 51) (j := j_60) rfl (rw_23.2 (1, 125, 32, 46) (by decide)).2 (v_59.trans hj_61) (show j_60 < 46 by omega) (v := .int x_62) e_63 ?_
            refine g_goto act (gx gp_237 (w := 0x6007) rfl (by decide) rfl) (n := 96) rfl ?_
            exact g_retI hEnd (gx gp_237 (w := 0x2f) rfl (by decide) rfl) ⟨rfl, ⟨_, rfl⟩, ⟨tl, wl, pv, nl, n, ng, nr, np, ⟨rw_23, f_24, f_25⟩, f_26, ⟨_, f_31, hp9⟩, by omega, hNW, hPN, hM.frw fr_39 ⟨_, f_38, by have w9 := (show (0 : Int32).toInt = ((0 : Nat) : Int) from by decide); omega, by have w9 := (show (0 : Int32).toInt = ((0 : Nat) : Int) from by decide); omega⟩, ⟨⟨_, f_27⟩, ⟨_, f_32, (hL9).trans (by omega)⟩, by omega, by omega, ⟨_, f_33⟩, ⟨_, f_34⟩, ⟨_, f_35⟩, ⟨_, f_36⟩, ⟨_, f_37, by have w9 := (rfl : Int32.toInt b9 = _); omega, by have w9 := (rfl : Int32.toInt b9 = _); omega⟩, ⟨_, f_28⟩, ⟨_, f_29⟩⟩⟩, fr_39⟩ hk1 hk2
      · exact absurd hpo.1 (by omega)
    · simp only [i_eq, i0] at h4
      refine g_constI act (gx gp_237 (w := 0x40000000c00000009000000000a01) rfl (by decide) rfl) (n := 10) (x := (1 : Int32)) (by decide) rfl ?_
      refine g_goto act (gx gp_237 (w := 0x1b07) rfl (by decide) rfl) (n := 27) rfl ?_
      refine r_putf act (gx gp_237 (w := 0x9001e13) rfl (by decide) rfl) (n := 30) (ci := 9) (j := 0) (N := 39) rfl rfl rfl rw0.1 (by decide) (Or.inl ⟨rfl, _, rfl⟩) ?_
      have rw_65 := RW.wr (k := 124) (j := 0) (v := .int (1 : Int32)) rw0 (Or.inr (by decide))
      have f_66 := hTo.ne (k := 124) (j := 0) (v := .int (1 : Int32)) (by decide)
      have f_67 := hW.ne (k := 124) (j := 0) (v := .int (1 : Int32)) (by decide)
      have f_68 := hPa.ne (k := 124) (j := 0) (v := .int (1 : Int32)) (by decide)
      have f_69 := hT.ne (k := 124) (j := 0) (v := .int (1 : Int32)) (by decide)
      have f_70 := hF.ne (k := 124) (j := 0) (v := .int (1 : Int32)) (by decide)
      have f_71 := hG.ne (k := 124) (j := 0) (v := .int (1 : Int32)) (by decide)
      have f_73 := (rd_ne hs (k := 124) (j := 0) (.int (1 : Int32)) (Or.inr (by decide))).trans e6
      have f_74 := (rd_ne hs (k := 124) (j := 0) (.int (1 : Int32)) (Or.inr (by decide))).trans e10
      have f_75 := (rd_ne hs (k := 124) (j := 0) (.int (1 : Int32)) (Or.inr (by decide))).trans e11
      have f_76 := (rd_ne hs (k := 124) (j := 0) (.int (1 : Int32)) (Or.inr (by decide))).trans e12
      have f_77 := (rd_ne hs (k := 124) (j := 0) (.int (1 : Int32)) (Or.inr (by decide))).trans e13
      have f_78 := (rd_ne hs (k := 124) (j := 0) (.int (1 : Int32)) (Or.inr (by decide))).trans e15
      have f_79 := (rd_ne hs (k := 124) (j := 0) (.int (1 : Int32)) (Or.inr (by decide))).trans e14
      have f_80 := rd_same (j := 0) (v := .int (1 : Int32)) rw0.1
      have fr_81 := hfr0.wr (k := 124) (j := 0) (.int (1 : Int32)) (by unfold WR0; omega)
      clear hTo hW hPa hT hF hG e0 e6 e10 e11 e12 e13 e15 e14
      generalize (wr hs 124 0 (.int (1 : Int32))) = hs_82 at *
      refine g_loadA act (gx gp_237 (w := 0x1f03) rfl (by decide) rfl) (a := 0) (n := 31) rfl rfl rfl ?_
      refine r_getf act (gx gp_237 (w := 0x9002204) rfl (by decide) rfl) (n := 34) (ci := 9) (j := 0) (N := 39) rfl rfl rfl rw_65.1 (by decide) (v := .int (1 : Int32)) f_80 ?_
      refine g_ifLe act (gx gp_237 (w := 0x2700253d) rfl (by decide) rfl) (tgt := 39) (n := 37) rfl rfl (fun q => absurd q (by decide)) (fun _ => ?_)
      refine g_constI act (gx gp_237 (w := 0x40000000400000001000000002601) rfl (by decide) rfl) (n := 38) (x := (0 : Int32)) (by decide) rfl ?_
      exact g_retI hEnd (gx gp_237 (w := 0x2f) rfl (by decide) rfl) ⟨rfl, ⟨_, rfl⟩, ⟨tl, wl, pv, nl, n, ng, nr, np, ⟨rw_65, f_66, f_67⟩, f_68, ⟨_, f_73, hp9⟩, by omega, hNW, hPN, hM.frw fr_81 ⟨_, f_80, by have w9 := (show (1 : Int32).toInt = ((1 : Nat) : Int) from by decide); omega, by have w9 := (show (1 : Int32).toInt = ((1 : Nat) : Int) from by decide); omega⟩, ⟨⟨_, f_69⟩, ⟨_, f_74, (hL9).trans (by omega)⟩, by omega, by omega, ⟨_, f_75⟩, ⟨_, f_76⟩, ⟨_, f_77⟩, ⟨_, f_78⟩, ⟨_, f_79, by have w9 := (rfl : Int32.toInt b9 = _); omega, by have w9 := (rfl : Int32.toInt b9 = _); omega⟩, ⟨_, f_70⟩, ⟨_, f_71⟩⟩⟩, fr_81⟩ hk1 hk2
  · exact absurd hpo.1 (by omega)

theorem br_generator {i1 i2 : Int32} (hRI : RSt hs L) : BodyN SSX TBL g0 CLS bl xs l D_213 2 43 0 0 [.ref 124, .int i1, .int i2] hs (POR hs L) := by
  intro wp p e R s m args below meth c Q kc0 ks0 kc ks act hf hl hc hsl hEnd
  have hf : 2 ≤ R.frames := hf
  have hl : 43 ≤ R.locals := hl
  have hk1 : kc ≤ kc + 0 := by omega
  have hk2 : ks ≤ ks + 0 := by omega
  obtain ⟨tl, wl, pv, nl, n, ng, nr, np, ⟨rw0, hTo, hW⟩, hPa, ⟨p9, e6, hp9⟩, hp10, hNW, hPN, hM, ⟨⟨tx, hT⟩, ⟨L9, e10, hL9⟩, hL0, hL7, ⟨A9, e11⟩, ⟨c9, e12⟩, ⟨d9, e13⟩, ⟨f9, e15⟩, ⟨b9, e14, hb9⟩, ⟨fv, hF⟩, ⟨gv, hG⟩⟩⟩ := hRI
  obtain ⟨⟨x0, e0, hx0⟩, -⟩ := id hM
  have hN9 := hNW.1
  obtain ⟨n0, n1, n2, n3, n4, n5, n6, n7, n8, hG0, nL, nC, nP, nD⟩ := hN9
  have hGn := hG0.1
  have hGn3 := hG0.2.1
  have hGl := hG0.2.2.1
  have hfr0 := FrS.rf WR0 hs
  show WpN (gp g0 wp) CLS p l e R s m args below meth c Q D_213.2.2.1 kc0 ks0 0 [some (.ref 124), some (.int i1), some (.int i2)] (hs, kc, ks) []
  refine g_loadA act (gx gp_213 (w := 0x103) rfl (by decide) rfl) (a := 0) (n := 1) rfl rfl rfl ?_
  refine g_loadA act (gx gp_213 (w := 0x203) rfl (by decide) rfl) (a := 0) (n := 2) rfl rfl rfl ?_
  refine g_loadI act (gx gp_213 (w := 0x1000302) rfl (by decide) rfl) (a := 1) (n := 3) rfl rfl rfl ?_
  refine n_call tb_pres act hEnd (gx (P := G_call) gp_213 (w := 0xa000000000000c08220000de00060f) rfl (by decide) rfl) (d' := D_222) rfl (as := [.ref 124, .int i1]) (rest := [.ref 124]) (b_isGenerator rw0 hTo (rfl : Int32.toInt i1 = _) (by omega) (by omega)) (show (2 : Nat) = fb 0xa000000000000c08220000de00060f % 16 by decide) (by show (2 : Nat) ≤ 2; decide) (fun _ => ⟨_, _, rfl, _, shp_at rw0.1, Or.inr (show fb 0xa000000000000c08220000de00060f >>> 68 = 10 by decide)⟩) (by omega) (by show 8 + (2 + 11) + 22 ≤ R.locals; omega) (by show (1 : Nat) ≤ 8; decide) (by show kc + 0 ≤ _; omega) (by show ks + 0 ≤ _; omega) (fun r9 h3 hpo hr9 => ?_) (fun x9 hs9 hx9 hpo => ?_)
  · obtain ⟨-, rfl, hin9⟩ := hpo
    obtain ⟨rv_1, rfl, hr_2⟩ := in1_x hin9
    show WpN (gp g0 wp) CLS p l e R s m args below meth c Q D_213.2.2.1 kc0 ks0 6 [some (.ref 124), some (.int i1), some (.int i2)] (hs, kc, ks) [.int rv_1, .ref 124]
    refine g_ifNe act (gx gp_213 (w := 0xd00091d) rfl (by decide) rfl) (tgt := 13) (n := 9) rfl rfl (fun h4 => ?_) (fun h4 => ?_)
    · simp only [i_eq, i0] at h4
      refine g_loadI act (gx gp_213 (w := 0x2000e02) rfl (by decide) rfl) (a := 2) (n := 14) rfl rfl rfl ?_
      refine g_constI act (gx gp_213 (w := 0x40000000400000001000000000f01) rfl (by decide) rfl) (n := 15) (x := (0 : Int32)) (by decide) rfl ?_
      refine g_constI act (gx gp_213 (w := 0x40000001400000011000000001001) rfl (by decide) rfl) (n := 16) (x := (2 : Int32)) (by decide) rfl ?_
      refine n_call tb_pres act hEnd (gx (P := G_call) gp_213 (w := 0x40c330000d900130f) rfl (by decide) rfl) (d' := D_217) rfl (as := [.int i2, .int (0 : Int32), .int (2 : Int32)]) (rest := [.ref 124]) (b_in (rfl : Int32.toInt i2 = _) (show (0 : Int32).toInt = ((0 : Nat) : Int) from by decide) (show (2 : Int32).toInt = ((2 : Nat) : Int) from by decide)) (show (3 : Nat) = fb 0x40c330000d900130f % 16 by decide) (by show (3 : Nat) ≤ 3; decide) (fun q => absurd q (by decide)) (by omega) (by show 8 + (3 + 11) + 0 ≤ R.locals; omega) (by show (1 : Nat) ≤ 8; decide) (by show kc + 0 ≤ _; omega) (by show ks + 0 ≤ _; omega) (fun r9 h3 hpo hr9 => ?_) (fun x9 hs9 hx9 hpo => ?_)
      · obtain ⟨-, rfl, hin9⟩ := hpo
        obtain ⟨rv_3, rfl, hr_4⟩ := in1_x hin9
        show WpN (gp g0 wp) CLS p l e R s m args below meth c Q D_213.2.2.1 kc0 ks0 19 [some (.ref 124), some (.int i1), some (.int i2)] (hs, kc, ks) [.int rv_3, .ref 124]
        refine g_ifEq act (gx gp_213 (w := 0x1a00160e) rfl (by decide) rfl) (tgt := 26) (n := 22) rfl rfl (fun h8 => ?_) (fun h8 => ?_)
        · simp only [i_eq, i0] at h8
          refine g_constI act (gx gp_213 (w := 0x40000001400000011000000001b01) rfl (by decide) rfl) (n := 27) (x := (2 : Int32)) (by decide) rfl ?_
          refine r_putf act (gx gp_213 (w := 0x9001e13) rfl (by decide) rfl) (n := 30) (ci := 9) (j := 0) (N := 39) rfl rfl rfl rw0.1 (by decide) (Or.inl ⟨rfl, _, rfl⟩) ?_
          have rw_5 := RW.wr (k := 124) (j := 0) (v := .int (2 : Int32)) rw0 (Or.inr (by decide))
          have f_6 := hTo.ne (k := 124) (j := 0) (v := .int (2 : Int32)) (by decide)
          have f_7 := hW.ne (k := 124) (j := 0) (v := .int (2 : Int32)) (by decide)
          have f_8 := hPa.ne (k := 124) (j := 0) (v := .int (2 : Int32)) (by decide)
          have f_9 := hT.ne (k := 124) (j := 0) (v := .int (2 : Int32)) (by decide)
          have f_10 := hF.ne (k := 124) (j := 0) (v := .int (2 : Int32)) (by decide)
          have f_11 := hG.ne (k := 124) (j := 0) (v := .int (2 : Int32)) (by decide)
          have f_13 := (rd_ne hs (k := 124) (j := 0) (.int (2 : Int32)) (Or.inr (by decide))).trans e6
          have f_14 := (rd_ne hs (k := 124) (j := 0) (.int (2 : Int32)) (Or.inr (by decide))).trans e10
          have f_15 := (rd_ne hs (k := 124) (j := 0) (.int (2 : Int32)) (Or.inr (by decide))).trans e11
          have f_16 := (rd_ne hs (k := 124) (j := 0) (.int (2 : Int32)) (Or.inr (by decide))).trans e12
          have f_17 := (rd_ne hs (k := 124) (j := 0) (.int (2 : Int32)) (Or.inr (by decide))).trans e13
          have f_18 := (rd_ne hs (k := 124) (j := 0) (.int (2 : Int32)) (Or.inr (by decide))).trans e15
          have f_19 := (rd_ne hs (k := 124) (j := 0) (.int (2 : Int32)) (Or.inr (by decide))).trans e14
          have f_20 := rd_same (j := 0) (v := .int (2 : Int32)) rw0.1
          have fr_21 := hfr0.wr (k := 124) (j := 0) (.int (2 : Int32)) (by unfold WR0; omega)
          clear hTo hW hPa hT hF hG e0 e6 e10 e11 e12 e13 e15 e14
          generalize (wr hs 124 0 (.int (2 : Int32))) = hs_22 at *
          refine g_loadA act (gx gp_213 (w := 0x1f03) rfl (by decide) rfl) (a := 0) (n := 31) rfl rfl rfl ?_
          refine r_getf act (gx gp_213 (w := 0x9002204) rfl (by decide) rfl) (n := 34) (ci := 9) (j := 0) (N := 39) rfl rfl rfl rw_5.1 (by decide) (v := .int (2 : Int32)) f_20 ?_
          refine g_ifLe act (gx gp_213 (w := 0x2700253d) rfl (by decide) rfl) (tgt := 39) (n := 37) rfl rfl (fun q => absurd q (by decide)) (fun _ => ?_)
          refine g_constI act (gx gp_213 (w := 0x40000000400000001000000002601) rfl (by decide) rfl) (n := 38) (x := (0 : Int32)) (by decide) rfl ?_
          exact g_retI hEnd (gx gp_213 (w := 0x2f) rfl (by decide) rfl) ⟨rfl, ⟨_, rfl⟩, ⟨tl, wl, pv, nl, n, ng, nr, np, ⟨rw_5, f_6, f_7⟩, f_8, ⟨_, f_13, hp9⟩, by omega, hNW, hPN, hM.frw fr_21 ⟨_, f_20, by have w9 := (show (2 : Int32).toInt = ((2 : Nat) : Int) from by decide); omega, by have w9 := (show (2 : Int32).toInt = ((2 : Nat) : Int) from by decide); omega⟩, ⟨⟨_, f_9⟩, ⟨_, f_14, (hL9).trans (by omega)⟩, by omega, by omega, ⟨_, f_15⟩, ⟨_, f_16⟩, ⟨_, f_17⟩, ⟨_, f_18⟩, ⟨_, f_19, by have w9 := (rfl : Int32.toInt b9 = _); omega, by have w9 := (rfl : Int32.toInt b9 = _); omega⟩, ⟨_, f_10⟩, ⟨_, f_11⟩⟩⟩, fr_21⟩ hk1 hk2
        · simp only [i_eq, i0] at h8
          refine g_constI act (gx gp_213 (w := 0x40000000400000001000000001701) rfl (by decide) rfl) (n := 23) (x := (0 : Int32)) (by decide) rfl ?_
          refine g_goto act (gx gp_213 (w := 0x1b07) rfl (by decide) rfl) (n := 27) rfl ?_
          refine r_putf act (gx gp_213 (w := 0x9001e13) rfl (by decide) rfl) (n := 30) (ci := 9) (j := 0) (N := 39) rfl rfl rfl rw0.1 (by decide) (Or.inl ⟨rfl, _, rfl⟩) ?_
          have rw_23 := RW.wr (k := 124) (j := 0) (v := .int (0 : Int32)) rw0 (Or.inr (by decide))
          have f_24 := hTo.ne (k := 124) (j := 0) (v := .int (0 : Int32)) (by decide)
          have f_25 := hW.ne (k := 124) (j := 0) (v := .int (0 : Int32)) (by decide)
          have f_26 := hPa.ne (k := 124) (j := 0) (v := .int (0 : Int32)) (by decide)
          have f_27 := hT.ne (k := 124) (j := 0) (v := .int (0 : Int32)) (by decide)
          have f_28 := hF.ne (k := 124) (j := 0) (v := .int (0 : Int32)) (by decide)
          have f_29 := hG.ne (k := 124) (j := 0) (v := .int (0 : Int32)) (by decide)
          have f_31 := (rd_ne hs (k := 124) (j := 0) (.int (0 : Int32)) (Or.inr (by decide))).trans e6
          have f_32 := (rd_ne hs (k := 124) (j := 0) (.int (0 : Int32)) (Or.inr (by decide))).trans e10
          have f_33 := (rd_ne hs (k := 124) (j := 0) (.int (0 : Int32)) (Or.inr (by decide))).trans e11
          have f_34 := (rd_ne hs (k := 124) (j := 0) (.int (0 : Int32)) (Or.inr (by decide))).trans e12
          have f_35 := (rd_ne hs (k := 124) (j := 0) (.int (0 : Int32)) (Or.inr (by decide))).trans e13
          have f_36 := (rd_ne hs (k := 124) (j := 0) (.int (0 : Int32)) (Or.inr (by decide))).trans e15
          have f_37 := (rd_ne hs (k := 124) (j := 0) (.int (0 : Int32)) (Or.inr (by decide))).trans e14
          have f_38 := rd_same (j := 0) (v := .int (0 : Int32)) rw0.1
          have fr_39 := hfr0.wr (k := 124) (j := 0) (.int (0 : Int32)) (by unfold WR0; omega)
          clear hTo hW hPa hT hF hG e0 e6 e10 e11 e12 e13 e15 e14
          generalize (wr hs 124 0 (.int (0 : Int32))) = hs_40 at *
          refine g_loadA act (gx gp_213 (w := 0x1f03) rfl (by decide) rfl) (a := 0) (n := 31) rfl rfl rfl ?_
          refine r_getf act (gx gp_213 (w := 0x9002204) rfl (by decide) rfl) (n := 34) (ci := 9) (j := 0) (N := 39) rfl rfl rfl rw_23.1 (by decide) (v := .int (0 : Int32)) f_38 ?_
          refine g_ifLe act (gx gp_213 (w := 0x2700253d) rfl (by decide) rfl) (tgt := 39) (n := 37) rfl rfl (fun _ => ?_) (fun q => absurd (by decide) q)
          refine g_loadI act (gx gp_213 (w := 0x2002802) rfl (by decide) rfl) (a := 2) (n := 40) rfl rfl rfl ?_
          refine g_ifNe act (gx gp_213 (w := 0x37002b1d) rfl (by decide) rfl) (tgt := 55) (n := 43) rfl rfl (fun h18 => ?_) (fun h18 => ?_)
          · simp only [i_eq, i0] at h18
            refine g_loadI act (gx gp_213 (w := 0x2003802) rfl (by decide) rfl) (a := 2) (n := 56) rfl rfl rfl ?_
            refine g_constI act (gx gp_213 (w := 0x40000000c00000009000000003901) rfl (by decide) rfl) (n := 57) (x := (1 : Int32)) (by decide) rfl ?_
            refine g_icmpNe act (gx gp_213 (w := 0x48003c21) rfl (by decide) rfl) (tgt := 72) (n := 60) rfl rfl (fun h21 => ?_) (fun h21 => ?_)
            · simp only [i_eq, show (1 : Int32).toInt = 1 from by decide] at h21
              refine g_loadA act (gx gp_213 (w := 0x4903) rfl (by decide) rfl) (a := 0) (n := 73) rfl rfl rfl ?_
              refine r_getf act (gx gp_213 (w := 0x30000c9004c04) rfl (by decide) rfl) (n := 76) (ci := 9) (j := 3) (N := 39) rfl rfl rfl rw_23.1 (by decide) (rw_23.2 (3, 127, 32, 39) (by decide)).1 ?_
              refine g_constI act (gx gp_213 (w := 0x40000008c00000089000000004e01) rfl (by decide) rfl) (n := 78) (x := (17 : Int32)) (by decide) rfl ?_
              refine g_loadI act (gx gp_213 (w := 0x1004f02) rfl (by decide) rfl) (a := 1) (n := 79) rfl rfl rfl ?_
              refine g_iadd act (gx gp_213 (w := 0x500a) rfl (by decide) rfl) (n := 80) rfl ?_
              have v_41 := iv_add (show (17 : Int32).toInt = ((17 : Nat) : Int) from by decide) (rfl : Int32.toInt i1 = _) (show -2147483648 ≤ (((17 : Nat) : Int) + (Int32.toInt i1)) by omega) (show (((17 : Nat) : Int) + (Int32.toInt i1)) < 2147483648 by omega)
              obtain ⟨j_42, hj_43⟩ := Int.eq_ofNat_of_zero_le (show (0 : Int) ≤ (((17 : Nat) : Int) + (Int32.toInt i1)) by omega)
              obtain ⟨x_44, e_45, hx_46⟩ := f_25 j_42 (by omega)
              refine r_iald act (gx gp_213 (w := 0x511a) rfl (by decide) rfl) (n := 81) (j := j_42) rfl (rw_23.2 (3, 127, 32, 39) (by decide)).2 (v_41.trans hj_43) (show j_42 < 39 by omega) (v := .int x_44) e_45 ?_
              exact g_retI hEnd (gx gp_213 (w := 0x2f) rfl (by decide) rfl) ⟨rfl, ⟨_, rfl⟩, ⟨tl, wl, pv, nl, n, ng, nr, np, ⟨rw_23, f_24, f_25⟩, f_26, ⟨_, f_31, hp9⟩, by omega, hNW, hPN, hM.frw fr_39 ⟨_, f_38, by have w9 := (show (0 : Int32).toInt = ((0 : Nat) : Int) from by decide); omega, by have w9 := (show (0 : Int32).toInt = ((0 : Nat) : Int) from by decide); omega⟩, ⟨⟨_, f_27⟩, ⟨_, f_32, (hL9).trans (by omega)⟩, by omega, by omega, ⟨_, f_33⟩, ⟨_, f_34⟩, ⟨_, f_35⟩, ⟨_, f_36⟩, ⟨_, f_37, by have w9 := (rfl : Int32.toInt b9 = _); omega, by have w9 := (rfl : Int32.toInt b9 = _); omega⟩, ⟨_, f_28⟩, ⟨_, f_29⟩⟩⟩, fr_39⟩ hk1 hk2
            · simp only [i_eq, show (1 : Int32).toInt = 1 from by decide] at h21
              refine g_loadA act (gx gp_213 (w := 0x3d03) rfl (by decide) rfl) (a := 0) (n := 61) rfl rfl rfl ?_
              refine r_getf act (gx gp_213 (w := 0x30000c9004004) rfl (by decide) rfl) (n := 64) (ci := 9) (j := 3) (N := 39) rfl rfl rfl rw_23.1 (by decide) (rw_23.2 (3, 127, 32, 39) (by decide)).1 ?_
              refine g_constI act (gx gp_213 (w := 0x40000006400000061000000004201) rfl (by decide) rfl) (n := 66) (x := (12 : Int32)) (by decide) rfl ?_
              refine g_loadI act (gx gp_213 (w := 0x1004302) rfl (by decide) rfl) (a := 1) (n := 67) rfl rfl rfl ?_
              refine g_iadd act (gx gp_213 (w := 0x440a) rfl (by decide) rfl) (n := 68) rfl ?_
              have v_47 := iv_add (show (12 : Int32).toInt = ((12 : Nat) : Int) from by decide) (rfl : Int32.toInt i1 = _) (show -2147483648 ≤ (((12 : Nat) : Int) + (Int32.toInt i1)) by omega) (show (((12 : Nat) : Int) + (Int32.toInt i1)) < 2147483648 by omega)
              obtain ⟨j_48, hj_49⟩ := Int.eq_ofNat_of_zero_le (show (0 : Int) ≤ (((12 : Nat) : Int) + (Int32.toInt i1)) by omega)
              obtain ⟨x_50, e_51, hx_52⟩ := f_25 j_48 (by omega)
              refine r_iald act (gx gp_213 (w := 0x451a) rfl (by decide) rfl) (n := 69) (j := j_48) rfl (rw_23.2 (3, 127, 32, 39) (by decide)).2 (v_47.trans hj_49) (show j_48 < 39 by omega) (v := .int x_50) e_51 ?_
              refine g_goto act (gx gp_213 (w := 0x5107) rfl (by decide) rfl) (n := 81) rfl ?_
              exact g_retI hEnd (gx gp_213 (w := 0x2f) rfl (by decide) rfl) ⟨rfl, ⟨_, rfl⟩, ⟨tl, wl, pv, nl, n, ng, nr, np, ⟨rw_23, f_24, f_25⟩, f_26, ⟨_, f_31, hp9⟩, by omega, hNW, hPN, hM.frw fr_39 ⟨_, f_38, by have w9 := (show (0 : Int32).toInt = ((0 : Nat) : Int) from by decide); omega, by have w9 := (show (0 : Int32).toInt = ((0 : Nat) : Int) from by decide); omega⟩, ⟨⟨_, f_27⟩, ⟨_, f_32, (hL9).trans (by omega)⟩, by omega, by omega, ⟨_, f_33⟩, ⟨_, f_34⟩, ⟨_, f_35⟩, ⟨_, f_36⟩, ⟨_, f_37, by have w9 := (rfl : Int32.toInt b9 = _); omega, by have w9 := (rfl : Int32.toInt b9 = _); omega⟩, ⟨_, f_28⟩, ⟨_, f_29⟩⟩⟩, fr_39⟩ hk1 hk2
          · simp only [i_eq, i0] at h18
            refine g_loadA act (gx gp_213 (w := 0x2c03) rfl (by decide) rfl) (a := 0) (n := 44) rfl rfl rfl ?_
            refine r_getf act (gx gp_213 (w := 0x3000049002f04) rfl (by decide) rfl) (n := 47) (ci := 9) (j := 1) (N := 39) rfl rfl rfl rw_23.1 (by decide) (rw_23.2 (1, 125, 32, 46) (by decide)).1 ?_
            refine g_constI act (gx gp_213 (w := 0x40000008c00000089000000003101) rfl (by decide) rfl) (n := 49) (x := (17 : Int32)) (by decide) rfl ?_
            refine g_loadI act (gx gp_213 (w := 0x1003202) rfl (by decide) rfl) (a := 1) (n := 50) rfl rfl rfl ?_
            refine g_iadd act (gx gp_213 (w := 0x330a) rfl (by decide) rfl) (n := 51) rfl ?_
            have v_53 := iv_add (show (17 : Int32).toInt = ((17 : Nat) : Int) from by decide) (rfl : Int32.toInt i1 = _) (show -2147483648 ≤ (((17 : Nat) : Int) + (Int32.toInt i1)) by omega) (show (((17 : Nat) : Int) + (Int32.toInt i1)) < 2147483648 by omega)
            obtain ⟨j_54, hj_55⟩ := Int.eq_ofNat_of_zero_le (show (0 : Int) ≤ (((17 : Nat) : Int) + (Int32.toInt i1)) by omega)
            obtain ⟨x_56, e_57, hx_58⟩ := f_24 j_54 (by omega)
            refine r_iald act (gx gp_213 (w := 0x341a) rfl (by decide) rfl) (n := 52) (j := j_54) rfl (rw_23.2 (1, 125, 32, 46) (by decide)).2 (v_53.trans hj_55) (show j_54 < 46 by omega) (v := .int x_56) e_57 ?_
            refine g_goto act (gx gp_213 (w := 0x5107) rfl (by decide) rfl) (n := 81) rfl ?_
            exact g_retI hEnd (gx gp_213 (w := 0x2f) rfl (by decide) rfl) ⟨rfl, ⟨_, rfl⟩, ⟨tl, wl, pv, nl, n, ng, nr, np, ⟨rw_23, f_24, f_25⟩, f_26, ⟨_, f_31, hp9⟩, by omega, hNW, hPN, hM.frw fr_39 ⟨_, f_38, by have w9 := (show (0 : Int32).toInt = ((0 : Nat) : Int) from by decide); omega, by have w9 := (show (0 : Int32).toInt = ((0 : Nat) : Int) from by decide); omega⟩, ⟨⟨_, f_27⟩, ⟨_, f_32, (hL9).trans (by omega)⟩, by omega, by omega, ⟨_, f_33⟩, ⟨_, f_34⟩, ⟨_, f_35⟩, ⟨_, f_36⟩, ⟨_, f_37, by have w9 := (rfl : Int32.toInt b9 = _); omega, by have w9 := (rfl : Int32.toInt b9 = _); omega⟩, ⟨_, f_28⟩, ⟨_, f_29⟩⟩⟩, fr_39⟩ hk1 hk2
      · exact absurd hpo.1 (by omega)
    · simp only [i_eq, i0] at h4
      refine g_constI act (gx gp_213 (w := 0x40000000c00000009000000000a01) rfl (by decide) rfl) (n := 10) (x := (1 : Int32)) (by decide) rfl ?_
      refine g_goto act (gx gp_213 (w := 0x1b07) rfl (by decide) rfl) (n := 27) rfl ?_
      refine r_putf act (gx gp_213 (w := 0x9001e13) rfl (by decide) rfl) (n := 30) (ci := 9) (j := 0) (N := 39) rfl rfl rfl rw0.1 (by decide) (Or.inl ⟨rfl, _, rfl⟩) ?_
      have rw_59 := RW.wr (k := 124) (j := 0) (v := .int (1 : Int32)) rw0 (Or.inr (by decide))
      have f_60 := hTo.ne (k := 124) (j := 0) (v := .int (1 : Int32)) (by decide)
      have f_61 := hW.ne (k := 124) (j := 0) (v := .int (1 : Int32)) (by decide)
      have f_62 := hPa.ne (k := 124) (j := 0) (v := .int (1 : Int32)) (by decide)
      have f_63 := hT.ne (k := 124) (j := 0) (v := .int (1 : Int32)) (by decide)
      have f_64 := hF.ne (k := 124) (j := 0) (v := .int (1 : Int32)) (by decide)
      have f_65 := hG.ne (k := 124) (j := 0) (v := .int (1 : Int32)) (by decide)
      have f_67 := (rd_ne hs (k := 124) (j := 0) (.int (1 : Int32)) (Or.inr (by decide))).trans e6
      have f_68 := (rd_ne hs (k := 124) (j := 0) (.int (1 : Int32)) (Or.inr (by decide))).trans e10
      have f_69 := (rd_ne hs (k := 124) (j := 0) (.int (1 : Int32)) (Or.inr (by decide))).trans e11
      have f_70 := (rd_ne hs (k := 124) (j := 0) (.int (1 : Int32)) (Or.inr (by decide))).trans e12
      have f_71 := (rd_ne hs (k := 124) (j := 0) (.int (1 : Int32)) (Or.inr (by decide))).trans e13
      have f_72 := (rd_ne hs (k := 124) (j := 0) (.int (1 : Int32)) (Or.inr (by decide))).trans e15
      have f_73 := (rd_ne hs (k := 124) (j := 0) (.int (1 : Int32)) (Or.inr (by decide))).trans e14
      have f_74 := rd_same (j := 0) (v := .int (1 : Int32)) rw0.1
      have fr_75 := hfr0.wr (k := 124) (j := 0) (.int (1 : Int32)) (by unfold WR0; omega)
      clear hTo hW hPa hT hF hG e0 e6 e10 e11 e12 e13 e15 e14
      generalize (wr hs 124 0 (.int (1 : Int32))) = hs_76 at *
      refine g_loadA act (gx gp_213 (w := 0x1f03) rfl (by decide) rfl) (a := 0) (n := 31) rfl rfl rfl ?_
      refine r_getf act (gx gp_213 (w := 0x9002204) rfl (by decide) rfl) (n := 34) (ci := 9) (j := 0) (N := 39) rfl rfl rfl rw_59.1 (by decide) (v := .int (1 : Int32)) f_74 ?_
      refine g_ifLe act (gx gp_213 (w := 0x2700253d) rfl (by decide) rfl) (tgt := 39) (n := 37) rfl rfl (fun q => absurd q (by decide)) (fun _ => ?_)
      refine g_constI act (gx gp_213 (w := 0x40000000400000001000000002601) rfl (by decide) rfl) (n := 38) (x := (0 : Int32)) (by decide) rfl ?_
      exact g_retI hEnd (gx gp_213 (w := 0x2f) rfl (by decide) rfl) ⟨rfl, ⟨_, rfl⟩, ⟨tl, wl, pv, nl, n, ng, nr, np, ⟨rw_59, f_60, f_61⟩, f_62, ⟨_, f_67, hp9⟩, by omega, hNW, hPN, hM.frw fr_75 ⟨_, f_74, by have w9 := (show (1 : Int32).toInt = ((1 : Nat) : Int) from by decide); omega, by have w9 := (show (1 : Int32).toInt = ((1 : Nat) : Int) from by decide); omega⟩, ⟨⟨_, f_63⟩, ⟨_, f_68, (hL9).trans (by omega)⟩, by omega, by omega, ⟨_, f_69⟩, ⟨_, f_70⟩, ⟨_, f_71⟩, ⟨_, f_72⟩, ⟨_, f_73, by have w9 := (rfl : Int32.toInt b9 = _); omega, by have w9 := (rfl : Int32.toInt b9 = _); omega⟩, ⟨_, f_64⟩, ⟨_, f_65⟩⟩⟩, fr_75⟩ hk1 hk2
  · exact absurd hpo.1 (by omega)

theorem br_demand {i1 i2 : Int32} (hRI : RSt hs L) : BodyN SSX TBL g0 CLS bl xs l D_198 2 43 0 0 [.ref 124, .int i1, .int i2] hs (POR hs L) := by
  intro wp p e R s m args below meth c Q kc0 ks0 kc ks act hf hl hc hsl hEnd
  have hf : 2 ≤ R.frames := hf
  have hl : 43 ≤ R.locals := hl
  have hk1 : kc ≤ kc + 0 := by omega
  have hk2 : ks ≤ ks + 0 := by omega
  obtain ⟨tl, wl, pv, nl, n, ng, nr, np, ⟨rw0, hTo, hW⟩, hPa, ⟨p9, e6, hp9⟩, hp10, hNW, hPN, hM, ⟨⟨tx, hT⟩, ⟨L9, e10, hL9⟩, hL0, hL7, ⟨A9, e11⟩, ⟨c9, e12⟩, ⟨d9, e13⟩, ⟨f9, e15⟩, ⟨b9, e14, hb9⟩, ⟨fv, hF⟩, ⟨gv, hG⟩⟩⟩ := hRI
  obtain ⟨⟨x0, e0, hx0⟩, -⟩ := id hM
  have hN9 := hNW.1
  obtain ⟨n0, n1, n2, n3, n4, n5, n6, n7, n8, hG0, nL, nC, nP, nD⟩ := hN9
  have hGn := hG0.1
  have hGn3 := hG0.2.1
  have hGl := hG0.2.2.1
  have hfr0 := FrS.rf WR0 hs
  show WpN (gp g0 wp) CLS p l e R s m args below meth c Q D_198.2.2.1 kc0 ks0 0 [some (.ref 124), some (.int i1), some (.int i2)] (hs, kc, ks) []
  refine g_loadA act (gx gp_198 (w := 0x103) rfl (by decide) rfl) (a := 0) (n := 1) rfl rfl rfl ?_
  refine g_loadA act (gx gp_198 (w := 0x203) rfl (by decide) rfl) (a := 0) (n := 2) rfl rfl rfl ?_
  refine g_loadI act (gx gp_198 (w := 0x1000302) rfl (by decide) rfl) (a := 1) (n := 3) rfl rfl rfl ?_
  refine n_call tb_pres act hEnd (gx (P := G_call) gp_198 (w := 0xa000000000000c08220000e000060f) rfl (by decide) rfl) (d' := D_224) rfl (as := [.ref 124, .int i1]) (rest := [.ref 124]) (b_isInterval rw0 hTo (rfl : Int32.toInt i1 = _) (by omega) (by omega)) (show (2 : Nat) = fb 0xa000000000000c08220000e000060f % 16 by decide) (by show (2 : Nat) ≤ 2; decide) (fun _ => ⟨_, _, rfl, _, shp_at rw0.1, Or.inr (show fb 0xa000000000000c08220000e000060f >>> 68 = 10 by decide)⟩) (by omega) (by show 8 + (2 + 11) + 22 ≤ R.locals; omega) (by show (1 : Nat) ≤ 8; decide) (by show kc + 0 ≤ _; omega) (by show ks + 0 ≤ _; omega) (fun r9 h3 hpo hr9 => ?_) (fun x9 hs9 hx9 hpo => ?_)
  · obtain ⟨-, rfl, hin9⟩ := hpo
    obtain ⟨rv_1, rfl, hr_2⟩ := in1_x hin9
    show WpN (gp g0 wp) CLS p l e R s m args below meth c Q D_198.2.2.1 kc0 ks0 6 [some (.ref 124), some (.int i1), some (.int i2)] (hs, kc, ks) [.int rv_1, .ref 124]
    refine g_ifEq act (gx gp_198 (w := 0x1500090e) rfl (by decide) rfl) (tgt := 21) (n := 9) rfl rfl (fun h4 => ?_) (fun h4 => ?_)
    · simp only [i_eq, i0] at h4
      refine g_constI act (gx gp_198 (w := 0x40000000c00000009000000001601) rfl (by decide) rfl) (n := 22) (x := (1 : Int32)) (by decide) rfl ?_
      refine r_putf act (gx gp_198 (w := 0x9001913) rfl (by decide) rfl) (n := 25) (ci := 9) (j := 0) (N := 39) rfl rfl rfl rw0.1 (by decide) (Or.inl ⟨rfl, _, rfl⟩) ?_
      have rw_3 := RW.wr (k := 124) (j := 0) (v := .int (1 : Int32)) rw0 (Or.inr (by decide))
      have f_4 := hTo.ne (k := 124) (j := 0) (v := .int (1 : Int32)) (by decide)
      have f_5 := hW.ne (k := 124) (j := 0) (v := .int (1 : Int32)) (by decide)
      have f_6 := hPa.ne (k := 124) (j := 0) (v := .int (1 : Int32)) (by decide)
      have f_7 := hT.ne (k := 124) (j := 0) (v := .int (1 : Int32)) (by decide)
      have f_8 := hF.ne (k := 124) (j := 0) (v := .int (1 : Int32)) (by decide)
      have f_9 := hG.ne (k := 124) (j := 0) (v := .int (1 : Int32)) (by decide)
      have f_11 := (rd_ne hs (k := 124) (j := 0) (.int (1 : Int32)) (Or.inr (by decide))).trans e6
      have f_12 := (rd_ne hs (k := 124) (j := 0) (.int (1 : Int32)) (Or.inr (by decide))).trans e10
      have f_13 := (rd_ne hs (k := 124) (j := 0) (.int (1 : Int32)) (Or.inr (by decide))).trans e11
      have f_14 := (rd_ne hs (k := 124) (j := 0) (.int (1 : Int32)) (Or.inr (by decide))).trans e12
      have f_15 := (rd_ne hs (k := 124) (j := 0) (.int (1 : Int32)) (Or.inr (by decide))).trans e13
      have f_16 := (rd_ne hs (k := 124) (j := 0) (.int (1 : Int32)) (Or.inr (by decide))).trans e15
      have f_17 := (rd_ne hs (k := 124) (j := 0) (.int (1 : Int32)) (Or.inr (by decide))).trans e14
      have f_18 := rd_same (j := 0) (v := .int (1 : Int32)) rw0.1
      have fr_19 := hfr0.wr (k := 124) (j := 0) (.int (1 : Int32)) (by unfold WR0; omega)
      clear hTo hW hPa hT hF hG e0 e6 e10 e11 e12 e13 e15 e14
      generalize (wr hs 124 0 (.int (1 : Int32))) = hs_20 at *
      refine g_loadA act (gx gp_198 (w := 0x1a03) rfl (by decide) rfl) (a := 0) (n := 26) rfl rfl rfl ?_
      refine r_getf act (gx gp_198 (w := 0x9001d04) rfl (by decide) rfl) (n := 29) (ci := 9) (j := 0) (N := 39) rfl rfl rfl rw_3.1 (by decide) (v := .int (1 : Int32)) f_18 ?_
      refine g_ifLe act (gx gp_198 (w := 0x2400203d) rfl (by decide) rfl) (tgt := 36) (n := 32) rfl rfl (fun q => absurd q (by decide)) (fun _ => ?_)
      refine g_constI act (gx gp_198 (w := 0x40000000400000001000000002101) rfl (by decide) rfl) (n := 33) (x := (0 : Int32)) (by decide) rfl ?_
      refine g_goto act (gx gp_198 (w := 0x2a07) rfl (by decide) rfl) (n := 42) rfl ?_
      exact g_retI hEnd (gx gp_198 (w := 0x2f) rfl (by decide) rfl) ⟨rfl, ⟨_, rfl⟩, ⟨tl, wl, pv, nl, n, ng, nr, np, ⟨rw_3, f_4, f_5⟩, f_6, ⟨_, f_11, hp9⟩, by omega, hNW, hPN, hM.frw fr_19 ⟨_, f_18, by have w9 := (show (1 : Int32).toInt = ((1 : Nat) : Int) from by decide); omega, by have w9 := (show (1 : Int32).toInt = ((1 : Nat) : Int) from by decide); omega⟩, ⟨⟨_, f_7⟩, ⟨_, f_12, (hL9).trans (by omega)⟩, by omega, by omega, ⟨_, f_13⟩, ⟨_, f_14⟩, ⟨_, f_15⟩, ⟨_, f_16⟩, ⟨_, f_17, by have w9 := (rfl : Int32.toInt b9 = _); omega, by have w9 := (rfl : Int32.toInt b9 = _); omega⟩, ⟨_, f_8⟩, ⟨_, f_9⟩⟩⟩, fr_19⟩ hk1 hk2
    · simp only [i_eq, i0] at h4
      refine g_loadA act (gx gp_198 (w := 0xa03) rfl (by decide) rfl) (a := 0) (n := 10) rfl rfl rfl ?_
      refine g_loadI act (gx gp_198 (w := 0x2000b02) rfl (by decide) rfl) (a := 2) (n := 11) rfl rfl rfl ?_
      refine n_call tb_pres act hEnd (gx (P := G_call) gp_198 (w := 0xa000000000000c08220000e3000e0f) rfl (by decide) rfl) (d' := D_227) rfl (as := [.ref 124, .int i2]) (rest := [.ref 124]) (b_isNode rw0 hTo (rfl : Int32.toInt i2 = _) (by omega) (by omega)) (show (2 : Nat) = fb 0xa000000000000c08220000e3000e0f % 16 by decide) (by show (2 : Nat) ≤ 2; decide) (fun _ => ⟨_, _, rfl, _, shp_at rw0.1, Or.inr (show fb 0xa000000000000c08220000e3000e0f >>> 68 = 10 by decide)⟩) (by omega) (by show 8 + (2 + 11) + 22 ≤ R.locals; omega) (by show (1 : Nat) ≤ 8; decide) (by show kc + 0 ≤ _; omega) (by show ks + 0 ≤ _; omega) (fun r9 h3 hpo hr9 => ?_) (fun x9 hs9 hx9 hpo => ?_)
      · obtain ⟨-, rfl, hin9⟩ := hpo
        obtain ⟨rv_21, rfl, hr_22⟩ := in1_x hin9
        show WpN (gp g0 wp) CLS p l e R s m args below meth c Q D_198.2.2.1 kc0 ks0 14 [some (.ref 124), some (.int i1), some (.int i2)] (hs, kc, ks) [.int rv_21, .ref 124]
        refine g_ifEq act (gx gp_198 (w := 0x1500110e) rfl (by decide) rfl) (tgt := 21) (n := 17) rfl rfl (fun h12 => ?_) (fun h12 => ?_)
        · simp only [i_eq, i0] at h12
          refine g_constI act (gx gp_198 (w := 0x40000000c00000009000000001601) rfl (by decide) rfl) (n := 22) (x := (1 : Int32)) (by decide) rfl ?_
          refine r_putf act (gx gp_198 (w := 0x9001913) rfl (by decide) rfl) (n := 25) (ci := 9) (j := 0) (N := 39) rfl rfl rfl rw0.1 (by decide) (Or.inl ⟨rfl, _, rfl⟩) ?_
          have rw_23 := RW.wr (k := 124) (j := 0) (v := .int (1 : Int32)) rw0 (Or.inr (by decide))
          have f_24 := hTo.ne (k := 124) (j := 0) (v := .int (1 : Int32)) (by decide)
          have f_25 := hW.ne (k := 124) (j := 0) (v := .int (1 : Int32)) (by decide)
          have f_26 := hPa.ne (k := 124) (j := 0) (v := .int (1 : Int32)) (by decide)
          have f_27 := hT.ne (k := 124) (j := 0) (v := .int (1 : Int32)) (by decide)
          have f_28 := hF.ne (k := 124) (j := 0) (v := .int (1 : Int32)) (by decide)
          have f_29 := hG.ne (k := 124) (j := 0) (v := .int (1 : Int32)) (by decide)
          have f_31 := (rd_ne hs (k := 124) (j := 0) (.int (1 : Int32)) (Or.inr (by decide))).trans e6
          have f_32 := (rd_ne hs (k := 124) (j := 0) (.int (1 : Int32)) (Or.inr (by decide))).trans e10
          have f_33 := (rd_ne hs (k := 124) (j := 0) (.int (1 : Int32)) (Or.inr (by decide))).trans e11
          have f_34 := (rd_ne hs (k := 124) (j := 0) (.int (1 : Int32)) (Or.inr (by decide))).trans e12
          have f_35 := (rd_ne hs (k := 124) (j := 0) (.int (1 : Int32)) (Or.inr (by decide))).trans e13
          have f_36 := (rd_ne hs (k := 124) (j := 0) (.int (1 : Int32)) (Or.inr (by decide))).trans e15
          have f_37 := (rd_ne hs (k := 124) (j := 0) (.int (1 : Int32)) (Or.inr (by decide))).trans e14
          have f_38 := rd_same (j := 0) (v := .int (1 : Int32)) rw0.1
          have fr_39 := hfr0.wr (k := 124) (j := 0) (.int (1 : Int32)) (by unfold WR0; omega)
          clear hTo hW hPa hT hF hG e0 e6 e10 e11 e12 e13 e15 e14
          generalize (wr hs 124 0 (.int (1 : Int32))) = hs_40 at *
          refine g_loadA act (gx gp_198 (w := 0x1a03) rfl (by decide) rfl) (a := 0) (n := 26) rfl rfl rfl ?_
          refine r_getf act (gx gp_198 (w := 0x9001d04) rfl (by decide) rfl) (n := 29) (ci := 9) (j := 0) (N := 39) rfl rfl rfl rw_23.1 (by decide) (v := .int (1 : Int32)) f_38 ?_
          refine g_ifLe act (gx gp_198 (w := 0x2400203d) rfl (by decide) rfl) (tgt := 36) (n := 32) rfl rfl (fun q => absurd q (by decide)) (fun _ => ?_)
          refine g_constI act (gx gp_198 (w := 0x40000000400000001000000002101) rfl (by decide) rfl) (n := 33) (x := (0 : Int32)) (by decide) rfl ?_
          refine g_goto act (gx gp_198 (w := 0x2a07) rfl (by decide) rfl) (n := 42) rfl ?_
          exact g_retI hEnd (gx gp_198 (w := 0x2f) rfl (by decide) rfl) ⟨rfl, ⟨_, rfl⟩, ⟨tl, wl, pv, nl, n, ng, nr, np, ⟨rw_23, f_24, f_25⟩, f_26, ⟨_, f_31, hp9⟩, by omega, hNW, hPN, hM.frw fr_39 ⟨_, f_38, by have w9 := (show (1 : Int32).toInt = ((1 : Nat) : Int) from by decide); omega, by have w9 := (show (1 : Int32).toInt = ((1 : Nat) : Int) from by decide); omega⟩, ⟨⟨_, f_27⟩, ⟨_, f_32, (hL9).trans (by omega)⟩, by omega, by omega, ⟨_, f_33⟩, ⟨_, f_34⟩, ⟨_, f_35⟩, ⟨_, f_36⟩, ⟨_, f_37, by have w9 := (rfl : Int32.toInt b9 = _); omega, by have w9 := (rfl : Int32.toInt b9 = _); omega⟩, ⟨_, f_28⟩, ⟨_, f_29⟩⟩⟩, fr_39⟩ hk1 hk2
        · simp only [i_eq, i0] at h12
          refine g_constI act (gx gp_198 (w := 0x40000000400000001000000001201) rfl (by decide) rfl) (n := 18) (x := (0 : Int32)) (by decide) rfl ?_
          refine g_goto act (gx gp_198 (w := 0x1607) rfl (by decide) rfl) (n := 22) rfl ?_
          refine r_putf act (gx gp_198 (w := 0x9001913) rfl (by decide) rfl) (n := 25) (ci := 9) (j := 0) (N := 39) rfl rfl rfl rw0.1 (by decide) (Or.inl ⟨rfl, _, rfl⟩) ?_
          have rw_41 := RW.wr (k := 124) (j := 0) (v := .int (0 : Int32)) rw0 (Or.inr (by decide))
          have f_42 := hTo.ne (k := 124) (j := 0) (v := .int (0 : Int32)) (by decide)
          have f_43 := hW.ne (k := 124) (j := 0) (v := .int (0 : Int32)) (by decide)
          have f_44 := hPa.ne (k := 124) (j := 0) (v := .int (0 : Int32)) (by decide)
          have f_45 := hT.ne (k := 124) (j := 0) (v := .int (0 : Int32)) (by decide)
          have f_46 := hF.ne (k := 124) (j := 0) (v := .int (0 : Int32)) (by decide)
          have f_47 := hG.ne (k := 124) (j := 0) (v := .int (0 : Int32)) (by decide)
          have f_49 := (rd_ne hs (k := 124) (j := 0) (.int (0 : Int32)) (Or.inr (by decide))).trans e6
          have f_50 := (rd_ne hs (k := 124) (j := 0) (.int (0 : Int32)) (Or.inr (by decide))).trans e10
          have f_51 := (rd_ne hs (k := 124) (j := 0) (.int (0 : Int32)) (Or.inr (by decide))).trans e11
          have f_52 := (rd_ne hs (k := 124) (j := 0) (.int (0 : Int32)) (Or.inr (by decide))).trans e12
          have f_53 := (rd_ne hs (k := 124) (j := 0) (.int (0 : Int32)) (Or.inr (by decide))).trans e13
          have f_54 := (rd_ne hs (k := 124) (j := 0) (.int (0 : Int32)) (Or.inr (by decide))).trans e15
          have f_55 := (rd_ne hs (k := 124) (j := 0) (.int (0 : Int32)) (Or.inr (by decide))).trans e14
          have f_56 := rd_same (j := 0) (v := .int (0 : Int32)) rw0.1
          have fr_57 := hfr0.wr (k := 124) (j := 0) (.int (0 : Int32)) (by unfold WR0; omega)
          clear hTo hW hPa hT hF hG e0 e6 e10 e11 e12 e13 e15 e14
          generalize (wr hs 124 0 (.int (0 : Int32))) = hs_58 at *
          refine g_loadA act (gx gp_198 (w := 0x1a03) rfl (by decide) rfl) (a := 0) (n := 26) rfl rfl rfl ?_
          refine r_getf act (gx gp_198 (w := 0x9001d04) rfl (by decide) rfl) (n := 29) (ci := 9) (j := 0) (N := 39) rfl rfl rfl rw_41.1 (by decide) (v := .int (0 : Int32)) f_56 ?_
          refine g_ifLe act (gx gp_198 (w := 0x2400203d) rfl (by decide) rfl) (tgt := 36) (n := 32) rfl rfl (fun _ => ?_) (fun q => absurd (by decide) q)
          refine g_loadA act (gx gp_198 (w := 0x2503) rfl (by decide) rfl) (a := 0) (n := 37) rfl rfl rfl ?_
          refine g_loadI act (gx gp_198 (w := 0x1002602) rfl (by decide) rfl) (a := 1) (n := 38) rfl rfl rfl ?_
          refine g_loadI act (gx gp_198 (w := 0x2002702) rfl (by decide) rfl) (a := 2) (n := 39) rfl rfl rfl ?_
          obtain ⟨j_60, hj_61⟩ := Int.eq_ofNat_of_zero_le (show (0 : Int) ≤ (Int32.toInt i1) by omega)
          obtain ⟨j_62, hj_63⟩ := Int.eq_ofNat_of_zero_le (show (0 : Int) ≤ (Int32.toInt i2) by omega)
          refine n_call tb_pres act hEnd (gx (P := G_call) gp_198 (w := 0xa000000000000c0c330000c8002a0f) rfl (by decide) rfl) (d' := D_200) rfl (as := [.ref 124, .int i1, .int i2]) (rest := []) (b_demandOf rw_41 f_43 ((rfl : Int32.toInt i1 = _).trans hj_61) ((rfl : Int32.toInt i2 = _).trans hj_63) (by omega) (by omega)) (show (3 : Nat) = fb 0xa000000000000c0c330000c8002a0f % 16 by decide) (by show (3 : Nat) ≤ 3; decide) (fun _ => ⟨_, _, rfl, _, shp_at rw_41.1, Or.inr (show fb 0xa000000000000c0c330000c8002a0f >>> 68 = 10 by decide)⟩) (by omega) (by show 8 + (3 + 11) + 0 ≤ R.locals; omega) (by show (0 : Nat) ≤ 8; decide) (by show kc + 0 ≤ _; omega) (by show ks + 0 ≤ _; omega) (fun r9 h3 hpo hr9 => ?_) (fun x9 hs9 hx9 hpo => ?_)
          · obtain ⟨-, rfl, rv_59, rfl, -⟩ := hpo
            show WpN (gp g0 wp) CLS p l e R s m args below meth c Q D_198.2.2.1 kc0 ks0 42 [some (.ref 124), some (.int i1), some (.int i2)] (hs_58, kc, ks) [.int rv_59]
            exact g_retI hEnd (gx gp_198 (w := 0x2f) rfl (by decide) rfl) ⟨rfl, ⟨_, rfl⟩, ⟨tl, wl, pv, nl, n, ng, nr, np, ⟨rw_41, f_42, f_43⟩, f_44, ⟨_, f_49, hp9⟩, by omega, hNW, hPN, hM.frw fr_57 ⟨_, f_56, by have w9 := (show (0 : Int32).toInt = ((0 : Nat) : Int) from by decide); omega, by have w9 := (show (0 : Int32).toInt = ((0 : Nat) : Int) from by decide); omega⟩, ⟨⟨_, f_45⟩, ⟨_, f_50, (hL9).trans (by omega)⟩, by omega, by omega, ⟨_, f_51⟩, ⟨_, f_52⟩, ⟨_, f_53⟩, ⟨_, f_54⟩, ⟨_, f_55, by have w9 := (rfl : Int32.toInt b9 = _); omega, by have w9 := (rfl : Int32.toInt b9 = _); omega⟩, ⟨_, f_46⟩, ⟨_, f_47⟩⟩⟩, fr_57⟩ hk1 hk2
          · exact absurd hpo.1 (by omega)
      · exact absurd hpo.1 (by omega)
  · exact absurd hpo.1 (by omega)

end PUB1
