/-! The constructor of Change, exactly. -/
def WK1 (k0 k _j : Nat) : Prop := k = k0
/-- five ints as a function -/
def F5 (a b c d e : Int) : Nat → Int := fun j => if j = 0 then a else if j = 1 then b else if j = 2 then c else if j = 3 then d else e
section CHGS
variable {g0 : GG} {bl : Nat} {xs : Nat → Int32} {l : Launch} {hs : List CE}

theorem cx_chg {k : Nat} {a0 a1 a2 a3 a4 : Int32} (hk : shp hs k = some (8, 5)) : BodyN SSX TBL g0 CLS bl xs l D_69 1 12 0 0 [.ref k, .int a0, .int a1, .int a2, .int a3, .int a4] hs (fun kd r h2 => kd = 0 ∧ r = none ∧ CHC h2 k (F5 a0.toInt a1.toInt a2.toInt a3.toInt a4.toInt) ∧ FrS (WK1 k) hs h2) := by
  intro wp p e R sW m args below meth cW Q kc0 ks0 kc ks act hf hl hc hsl hEnd
  have hf : 1 ≤ R.frames := hf
  have hl : 12 ≤ R.locals := hl
  show WpN (gp g0 wp) CLS p l e R sW m args below meth cW Q D_69.2.2.1 kc0 ks0 0 [some (.ref k), some (.int a0), some (.int a1), some (.int a2), some (.int a3), some (.int a4)] (hs, kc, ks) []
  refine g_loadA act (gx gp_69 (w := 0x103) rfl (by decide) rfl) (a := 0) (n := 1) rfl rfl rfl ?_
  refine n_objinit act (gx gp_69 (w := 0x429) rfl (by decide) rfl) (by omega) (by show (0 : Nat) + 12 ≤ R.locals; omega) rfl ?_
  refine g_loadA act (gx gp_69 (w := 0x503) rfl (by decide) rfl) (a := 0) (n := 5) rfl rfl rfl ?_
  refine g_loadI act (gx gp_69 (w := 0x1000602) rfl (by decide) rfl) (a := 1) (n := 6) rfl rfl rfl ?_
  refine r_putf act (gx gp_69 (w := 0x8000913) rfl (by decide) rfl) (n := 9) (ci := 8) (j := 0) (N := 5) rfl rfl rfl hk (by decide) (Or.inl ⟨rfl, _, rfl⟩) ?_
  have k1 : shp (wr hs k 0 (.int a0)) k = some (8, 5) := (shp_wr _ _ _ _ _).trans hk
  have f1 : FrS (WK1 k) hs (wr hs k 0 (.int a0)) := (FrS.rf (WK1 k) hs).wr (k := k) (j := 0) (.int a0) rfl
  have r1_0 := rd_same (j := 0) (v := .int a0) hk
  generalize (wr hs k 0 (.int a0)) = h1 at *
  refine g_loadA act (gx gp_69 (w := 0xa03) rfl (by decide) rfl) (a := 0) (n := 10) rfl rfl rfl ?_
  refine g_loadI act (gx gp_69 (w := 0x2000b02) rfl (by decide) rfl) (a := 2) (n := 11) rfl rfl rfl ?_
  refine r_putf act (gx gp_69 (w := 0x48000e13) rfl (by decide) rfl) (n := 14) (ci := 8) (j := 1) (N := 5) rfl rfl rfl k1 (by decide) (Or.inl ⟨rfl, _, rfl⟩) ?_
  have k2 : shp (wr h1 k 1 (.int a1)) k = some (8, 5) := (shp_wr _ _ _ _ _).trans k1
  have f2 : FrS (WK1 k) hs (wr h1 k 1 (.int a1)) := f1.wr (k := k) (j := 1) (.int a1) rfl
  have r2_1 := rd_same (j := 1) (v := .int a1) k1
  have r2_0 := (rd_ne h1 (k := k) (j := 1) (.int a1) (k2 := k) (j2 := 0) (Or.inr (by decide))).trans r1_0
  generalize (wr h1 k 1 (.int a1)) = h2 at *
  refine g_loadA act (gx gp_69 (w := 0xf03) rfl (by decide) rfl) (a := 0) (n := 15) rfl rfl rfl ?_
  refine g_loadI act (gx gp_69 (w := 0x3001002) rfl (by decide) rfl) (a := 3) (n := 16) rfl rfl rfl ?_
  refine r_putf act (gx gp_69 (w := 0x88001313) rfl (by decide) rfl) (n := 19) (ci := 8) (j := 2) (N := 5) rfl rfl rfl k2 (by decide) (Or.inl ⟨rfl, _, rfl⟩) ?_
  have k3 : shp (wr h2 k 2 (.int a2)) k = some (8, 5) := (shp_wr _ _ _ _ _).trans k2
  have f3 : FrS (WK1 k) hs (wr h2 k 2 (.int a2)) := f2.wr (k := k) (j := 2) (.int a2) rfl
  have r3_2 := rd_same (j := 2) (v := .int a2) k2
  have r3_0 := (rd_ne h2 (k := k) (j := 2) (.int a2) (k2 := k) (j2 := 0) (Or.inr (by decide))).trans r2_0
  have r3_1 := (rd_ne h2 (k := k) (j := 2) (.int a2) (k2 := k) (j2 := 1) (Or.inr (by decide))).trans r2_1
  generalize (wr h2 k 2 (.int a2)) = h3 at *
  refine g_loadA act (gx gp_69 (w := 0x1403) rfl (by decide) rfl) (a := 0) (n := 20) rfl rfl rfl ?_
  refine g_loadI act (gx gp_69 (w := 0x4001602) rfl (by decide) rfl) (a := 4) (n := 22) rfl rfl rfl ?_
  refine r_putf act (gx gp_69 (w := 0xc8001913) rfl (by decide) rfl) (n := 25) (ci := 8) (j := 3) (N := 5) rfl rfl rfl k3 (by decide) (Or.inl ⟨rfl, _, rfl⟩) ?_
  have k4 : shp (wr h3 k 3 (.int a3)) k = some (8, 5) := (shp_wr _ _ _ _ _).trans k3
  have f4 : FrS (WK1 k) hs (wr h3 k 3 (.int a3)) := f3.wr (k := k) (j := 3) (.int a3) rfl
  have r4_3 := rd_same (j := 3) (v := .int a3) k3
  have r4_0 := (rd_ne h3 (k := k) (j := 3) (.int a3) (k2 := k) (j2 := 0) (Or.inr (by decide))).trans r3_0
  have r4_1 := (rd_ne h3 (k := k) (j := 3) (.int a3) (k2 := k) (j2 := 1) (Or.inr (by decide))).trans r3_1
  have r4_2 := (rd_ne h3 (k := k) (j := 3) (.int a3) (k2 := k) (j2 := 2) (Or.inr (by decide))).trans r3_2
  generalize (wr h3 k 3 (.int a3)) = h4 at *
  refine g_loadA act (gx gp_69 (w := 0x1a03) rfl (by decide) rfl) (a := 0) (n := 26) rfl rfl rfl ?_
  refine g_loadI act (gx gp_69 (w := 0x5001c02) rfl (by decide) rfl) (a := 5) (n := 28) rfl rfl rfl ?_
  refine r_putf act (gx gp_69 (w := 0x108001f13) rfl (by decide) rfl) (n := 31) (ci := 8) (j := 4) (N := 5) rfl rfl rfl k4 (by decide) (Or.inl ⟨rfl, _, rfl⟩) ?_
  have k5 : shp (wr h4 k 4 (.int a4)) k = some (8, 5) := (shp_wr _ _ _ _ _).trans k4
  have f5 : FrS (WK1 k) hs (wr h4 k 4 (.int a4)) := f4.wr (k := k) (j := 4) (.int a4) rfl
  have r5_4 := rd_same (j := 4) (v := .int a4) k4
  have r5_0 := (rd_ne h4 (k := k) (j := 4) (.int a4) (k2 := k) (j2 := 0) (Or.inr (by decide))).trans r4_0
  have r5_1 := (rd_ne h4 (k := k) (j := 4) (.int a4) (k2 := k) (j2 := 1) (Or.inr (by decide))).trans r4_1
  have r5_2 := (rd_ne h4 (k := k) (j := 4) (.int a4) (k2 := k) (j2 := 2) (Or.inr (by decide))).trans r4_2
  have r5_3 := (rd_ne h4 (k := k) (j := 4) (.int a4) (k2 := k) (j2 := 3) (Or.inr (by decide))).trans r4_3
  generalize (wr h4 k 4 (.int a4)) = h5 at *
  exact g_retV hEnd (gx gp_69 (w := 0x18) rfl (by decide) rfl) ⟨rfl, rfl, ⟨k5, fun j hj => by
    match j, hj with
    | 0, _ => exact ⟨a0, r5_0, rfl⟩
    | 1, _ => exact ⟨a1, r5_1, rfl⟩
    | 2, _ => exact ⟨a2, r5_2, rfl⟩
    | 3, _ => exact ⟨a3, r5_3, rfl⟩
    | 4, _ => exact ⟨a4, r5_4, rfl⟩
    | j + 5, hj => exact absurd hj (by omega)⟩, f5⟩ (by show kc ≤ kc + 0; omega) (by show ks ≤ ks + 0; omega)

end CHGS
