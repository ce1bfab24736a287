/-! The class's setOutage, takeBack and undo, exactly. -/
theorem g_switchX {ss : SS} {TBL : List Cond} {g : GG} {cl : List vw_C} {bl : Nat} {xs : Nat → Int32} {d : MD} {p : Program} {l : Launch} {e : Env} {R : Room} {s : State} {m : MethodId} {args : Array Value} {below : List Frame} {meth : Method} {c : Code} {Q : State → Prop} {kc0 ks0 pc : Nat} {L : LN} {h : HN} {S : List Value} {ft : Nat → Nat → Nat} {mdl : Nat → Option MD} {w : Nat} (act : Act ss TBL g cl bl xs d p l s m args meth c) (hG : G_switch ss TBL cl ft mdl d pc w) {t b : Nat} (ht : fa w = t) (hb9 : swb (fb w) = b) {x : Int32} (KO : (x.toInt + 2147483648 < (swl b : Int) ∨ (swl b : Int) + swn b ≤ x.toInt + 2147483648) → WpN g cl p l e R s m args below meth c Q d.2.2.1 kc0 ks0 t L h S)
    (KI : ∀ j t' : Nat, j < swn b → Nat.mod (Nat.shiftRight b (Nat.add 48 (Nat.mul 16 j))) 65536 = t' → x.toInt + 2147483648 = (swl b : Int) + j → WpN g cl p l e R s m args below meth c Q d.2.2.1 kc0 ks0 t' L h S) : WpN g cl p l e R s m args below meth c Q d.2.2.1 kc0 ks0 pc L h (.int x :: S) := by
  by_cases ho : x.toInt + 2147483648 < (swl b : Int) ∨ (swl b : Int) + swn b ≤ x.toInt + 2147483648
  · obtain ⟨hx, hb, hr, hml, hown, hts, hK, hE, hlocks, hnm, htab, htr⟩ := act
    obtain ⟨dflt, lo, hi, offs, len, hd, x1, x2, x3, x4⟩ := hG
    subst ht
    subst hb9
    intro ls st H locs cells slots r
    obtain ⟨ws, hL, ⟨v9, st9, rfl, h9, hS⟩, hH, hP, hD, hSS, hc1, hc2⟩ := r
    have h9 : v9 = .int x := h9
    subst h9
    exact lv_tableOut hx hb hd (show x.toInt < lo ∨ hi < x.toInt by omega) x3 (KO ho _ _ _ _ _ _ ⟨ws, hL, hS, hH, hP, hD, hSS, hc1, hc2⟩)
  · obtain ⟨hx, hb, hr, hml, hown, hts, hK, hE, hlocks, hnm, htab, htr⟩ := act
    obtain ⟨dflt, lo, hi, offs, len, hd, x1, x2, x3, x4⟩ := hG
    subst ht
    subst hb9
    intro ls st H locs cells slots r
    obtain ⟨ws, hL, ⟨v9, st9, rfl, h9, hS⟩, hH, hP, hD, hSS, hc1, hc2⟩ := r
    have h9 : v9 = .int x := h9
    subst h9
    obtain ⟨j, hj⟩ := Int.eq_ofNat_of_zero_le (show 0 ≤ x.toInt - lo by omega)
    obtain ⟨off, o1, o2⟩ := x4 j (by omega)
    exact lv_tableIn hx hb hd (show ¬ x.toInt < lo by omega) (show ¬ hi < x.toInt by omega) (by rw [hj, Int.toNat_natCast]; exact o1) o2 (KI j _ (by omega) rfl (by omega) _ _ _ _ _ _ ⟨ws, hL, hS, hH, hP, hD, hSS, hc1, hc2⟩)
/-- a change taken back -/
def upC (c w : Nat → Int) : Nat → Int := if c 0 = 0 then upI (upI w (c 1).toNat (c 3)) (6 + (c 1).toNat) (c 4) else if c 0 = 1 then upI w (12 + (c 1).toNat) (c 3) else if c 0 = 2 then upI w (17 + (c 1).toNat) (c 3) else if c 0 = 3 then upI w (22 + 4 * (c 1).toNat + (c 2).toNat) (c 3) else upI w 38 (c 3)
/-- a change as the class makes them -/
def CGd (c : Nat → Int) : Prop := (c 0 = 0 ∧ 0 ≤ c 1 ∧ c 1 < 6) ∨ (c 0 = 1 ∧ 0 ≤ c 1 ∧ c 1 < 5) ∨ (c 0 = 2 ∧ 0 ≤ c 1 ∧ c 1 < 5) ∨ (c 0 = 3 ∧ 0 ≤ c 1 ∧ c 1 < 4 ∧ 0 ≤ c 2 ∧ c 2 < 4) ∨ c 0 = 4
theorem upC0 {c w : Nat → Int} (h : c 0 = 0) : upC c w = upI (upI w (c 1).toNat (c 3)) (6 + (c 1).toNat) (c 4) := by unfold upC; rw [if_pos h]
theorem upC1 {c w : Nat → Int} (h : c 0 = 1) : upC c w = upI w (12 + (c 1).toNat) (c 3) := by unfold upC; rw [if_neg (by omega), if_pos h]
theorem upC2 {c w : Nat → Int} (h : c 0 = 2) : upC c w = upI w (17 + (c 1).toNat) (c 3) := by unfold upC; rw [if_neg (by omega), if_neg (by omega), if_pos h]
theorem upC3 {c w : Nat → Int} (h : c 0 = 3) : upC c w = upI w (22 + 4 * (c 1).toNat + (c 2).toNat) (c 3) := by unfold upC; rw [if_neg (by omega), if_neg (by omega), if_neg (by omega), if_pos h]
theorem upC4 {c w : Nat → Int} (h : c 0 = 4) : upC c w = upI w 38 (c 3) := by unfold upC; rw [if_neg (by omega), if_neg (by omega), if_neg (by omega), if_neg (by omega)]
theorem upI_ne9 {w : Nat → Int} {i j : Nat} {v : Int} (h : j ≠ i) : upI w i v j = w j := by unfold upI; rw [if_neg h]
theorem CHC.ne {hs : List CE} {ke : Nat} {c : Nat → Int} {g a j : Nat} (h : CHC hs ke c) (hG : GLS hs g) (hp : gpl a j) : ke ≠ g + a := fun z => by
  obtain ⟨c2, N2, e2, q2⟩ := hG.kd hp
  have e := h.1
  rw [z, e2] at e
  cases e
  omega
theorem CLN.cong {hs : List CE} {tx : Nat → Int} {L ec ep : Int} {g : Nat} {F : Nat → Nat → Int32} {fv gv gv2 : Nat → Int} {o : Int} {nl ng nr n : Nat} (h : CLN hs tx L ec ep g F fv gv o nl ng nr n) (e : ∀ j, j < 38 → gv2 j = gv j) : CLN hs tx L ec ep g F fv gv2 o nl ng nr n :=
  ⟨h.1, h.2.1, h.2.2.1, h.2.2.2.1, h.2.2.2.2.1.cong e, h.2.2.2.2.2⟩
theorem cx_rml {g0 : GG} {bl : Nat} {xs : Nat → Int32} {l : Launch} {hs : List CE} {ch : Nat → Nat → Int} {ka m : Nat} {i9 : Int32} (h : LSA hs ka (m + 1) ch) (hm : m + 1 ≤ 10) (hi : i9.toInt = (m : Int)) : BodyN SSX TBL g0 CLS bl xs l D_300 3 90 0 0 [.ref 35, .int i9] hs (fun kd r h2 => kd = 0 ∧ (∃ kc : Nat, r = some (.ref kc) ∧ CHC h2 kc (ch m)) ∧ LSA h2 ka m ch ∧ FrS (WLs ka) hs h2) := by
  obtain ⟨h35, ⟨m9, e2⟩, ⟨n9, e1, hn9⟩, e0, h148, hka, hel⟩ := h
  have k35 : ka ≠ 35 := by omega
  obtain ⟨kc, ek, hkc⟩ := hel m (by omega)
  refine (b_rml h35 hka e1 e2 (by omega) (by omega) (by omega) hi e0 ek).imp ?_
  rintro kd r h2 ⟨rfl, rfl, rfl⟩
  have f1 : FrS (WLs ka) hs (wr hs 35 2 (.int (m9 + (1 : Int32)))) := (FrS.rf (WLs ka) hs).wr (k := 35) (j := 2) _ (Or.inl rfl)
  have f3 := f1.wr (k := 35) (j := 1) (.int (n9 - (1 : Int32))) (Or.inl rfl)
  have f4 := f3.wr (k := ka) (j := m) .null (Or.inr rfl)
  have en : (n9 - (1 : Int32)).toInt = ((m : Nat) : Int) := (iv_sub hn9 (show (1 : Int32).toInt = 1 from by decide) (by omega) (by omega)).trans (by omega)
  have hold : ∀ k2 : Nat, ∀ d : Nat → Int, CHC hs k2 d → CHC (wr (wr (wr hs 35 2 (.int (m9 + (1 : Int32)))) 35 1 (.int (n9 - (1 : Int32)))) ka m .null) k2 d := fun k2 d hd =>
    hd.same (f4.2.1 k2) (fun j => f4.2.2 k2 j (fun z => by
      rcases z with z | z
      · exact lsc_n35 h35 hd.1 z
      · exact lsc_ne hka hd.1 z.symm))
  refine ⟨rfl, ⟨kc, rfl, hold kc _ hkc⟩, ⟨(f4.2.1 35).trans h35, ⟨m9 + (1 : Int32), ?_⟩, ⟨_, (rd_ne _ _ (Or.inl (fun z => k35 z.symm))).trans (rd_same ((f1.2.1 35).trans h35)), en⟩, ?_, h148, (f4.2.1 ka).trans hka, fun j hj => ?_⟩, f4⟩
  · exact (rd_ne _ _ (Or.inl (fun z => k35 z.symm))).trans ((rd_ne _ _ (Or.inr (by decide))).trans (rd_same h35))
  · exact (rd_ne _ _ (Or.inl (fun z => k35 z.symm))).trans ((rd_ne _ _ (Or.inr (by decide))).trans ((rd_ne _ _ (Or.inr (by decide))).trans e0))
  · obtain ⟨k2, q1, q2⟩ := hel j (by omega)
    exact ⟨k2, (rd_ne _ _ (Or.inr (by omega))).trans ((rd_ne _ _ (Or.inl k35)).trans ((rd_ne _ _ (Or.inl k35)).trans q1)), hold k2 _ q2⟩
section TKB
variable {g0 : GG} {bl : Nat} {xs : Nat → Int32} {l : Launch} {hs : List CE} {tx : Nat → Int} {L ec ep : Int} {g : Nat} {F : Nat → Nat → Int32} {fv gv : Nat → Int} {o : Int} {nl ng nr n nc : Nat} {ch : Nat → Nat → Int} {ke ka : Nat} {c : Nat → Int}

theorem cx_tkb0 (hC : CLN hs tx L ec ep g F fv gv o nl ng nr n) (ho : gv 38 = o) (hT : TRS hs fv o nl) (hA : LSA hs ka nc ch) (he : CHC hs ke c) (hk0 : c 0 = 0) (hk1 : 0 ≤ c 1) (hk2 : c 1 < 6) : BodyN SSX TBL g0 CLS bl xs l D_63 0 0 0 0 [.ref 0, .ref ke] hs (fun kd r h2 => kd = 0 ∧ r = none ∧ (∃ F2 : Nat → Nat → Int32, CLN h2 tx L ec ep g F2 fv (upC c gv) (upC c gv 38) nl ng nr n) ∧ TRS h2 fv o nl ∧ LSA h2 ka nc ch ∧ h2.length = hs.length ∧ KPS g hs h2) := by
  intro wp p e R sW m args below meth cW Q kc0 ks0 kc ks act hf hl hc hsl hEnd
  have hf : 0 ≤ R.frames := hf
  have hl : 0 ≤ R.locals := hl
  have hK0 : KPS g hs hs := KPS.rf hs
  obtain ⟨x0, y0, e0⟩ := he.2 0 (by decide)
  obtain ⟨x1, y1, e1⟩ := he.2 1 (by decide)
  obtain ⟨x2, y2, e2⟩ := he.2 2 (by decide)
  obtain ⟨x3, y3, e3⟩ := he.2 3 (by decide)
  obtain ⟨x4, y4, e4⟩ := he.2 4 (by decide)
  show WpN (gp g0 wp) CLS p l e R sW m args below meth cW Q D_63.2.2.1 kc0 ks0 0 [some (.ref 0), some (.ref ke)] (hs, kc, ks) []
  refine g_loadA act (gx gp_63 (w := 0x1000103) rfl (by decide) rfl) (a := 1) (n := 1) rfl rfl rfl ?_
  refine r_getf act (gx gp_63 (w := 0x8000404) rfl (by decide) rfl) (n := 4) (ci := 8) (j := 0) (N := 5) rfl rfl rfl he.1 (by decide) (v := .int x0) y0 ?_
  have sb : swb (fb 0x4000085000036) = 0x6d005a00470024000480000000 := by decide +kernel
  have s1 : swl 0x6d005a00470024000480000000 = 2147483648 := by decide +kernel
  have s2 : swn 0x6d005a00470024000480000000 = 4 := by decide +kernel
  refine g_switchX act (gx gp_63 (w := 0x4000085000036) rfl (by decide) rfl) (t := 133) rfl sb (fun ho => by rw [s1, s2] at ho; exfalso; omega) (fun j t9 hj htj hx => ?_)
  rw [s1] at hx
  obtain rfl : j = 0 := by omega
  obtain rfl : 36 = t9 := (by decide +kernel : (36 : Nat) = Nat.mod (Nat.shiftRight 0x6d005a00470024000480000000 (Nat.add 48 (Nat.mul 16 0))) 65536).trans htj
  refine g_loadA act (gx gp_63 (w := 0x2503) rfl (by decide) rfl) (a := 0) (n := 37) rfl rfl rfl ?_
  refine r_getf act (gx gp_63 (w := 0x3000180002804) rfl (by decide) rfl) (n := 40) (ci := 0) (j := 6) (N := 7) rfl rfl rfl hC.1.1 (by decide) (v := .ref g) hC.2.1 ?_
  refine r_getf act (gx gp_63 (w := 0x3000204002b04) rfl (by decide) rfl) (n := 43) (ci := 4) (j := 8) (N := 18) rfl rfl rfl hC.2.2.2.1.1.2.1 (by decide) (v := .ref (g + 3)) (hC.2.2.2.1.1.2.2.1 (8, 3, 32, 6) (by decide)).1 ?_
  refine g_loadA act (gx gp_63 (w := 0x1002c03) rfl (by decide) rfl) (a := 1) (n := 44) rfl rfl rfl ?_
  refine r_getf act (gx gp_63 (w := 0x48002f04) rfl (by decide) rfl) (n := 47) (ci := 8) (j := 1) (N := 5) rfl rfl rfl he.1 (by decide) (v := .int x1) y1 ?_
  refine g_loadA act (gx gp_63 (w := 0x1003003) rfl (by decide) rfl) (a := 1) (n := 48) rfl rfl rfl ?_
  refine r_getf act (gx gp_63 (w := 0xc8003304) rfl (by decide) rfl) (n := 51) (ci := 8) (j := 3) (N := 5) rfl rfl rfl he.1 (by decide) (v := .int x3) y3 ?_
  refine r_iast act (gx gp_63 (w := 0x3424) rfl (by decide) rfl) (n := 52) (N := 6) rfl (hC.2.2.2.1.1.2.2.1 (8, 3, 32, 6) (by decide)).2 (j := x1.toInt.toNat) (by omega) (by omega) ?_
  have z0n := he.ne hC.2.2.2.1.1 (show gpl 3 x1.toInt.toNat from (by unfold gpl; omega))
  have z0_0 := (rd_ne hs (k := (g + 3)) (j := x1.toInt.toNat) (.int x3) (k2 := ke) (j2 := 0) (Or.inl z0n)).trans y0
  have z0_1 := (rd_ne hs (k := (g + 3)) (j := x1.toInt.toNat) (.int x3) (k2 := ke) (j2 := 1) (Or.inl z0n)).trans y1
  have z0_2 := (rd_ne hs (k := (g + 3)) (j := x1.toInt.toNat) (.int x3) (k2 := ke) (j2 := 2) (Or.inl z0n)).trans y2
  have z0_3 := (rd_ne hs (k := (g + 3)) (j := x1.toInt.toNat) (.int x3) (k2 := ke) (j2 := 3) (Or.inl z0n)).trans y3
  have z0_4 := (rd_ne hs (k := (g + 3)) (j := x1.toInt.toNat) (.int x3) (k2 := ke) (j2 := 4) (Or.inl z0n)).trans y4
  have z0s : shp (wr hs (g + 3) x1.toInt.toNat (.int x3)) ke = some (8, 5) := (shp_wr _ _ _ _ _).trans he.1
  have hC1 : CLN (wr hs (g + 3) x1.toInt.toNat (.int x3)) tx L ec ep g (upF F 3 x1.toInt.toNat x3) fv (upI gv (x1.toInt.toNat) (Int32.toInt x3)) o nl ng nr n := hC.pw (by unfold gpl; omega) (hC.2.2.2.2.1.lim (x := x3) (i9 := x1.toInt.toNat) (by omega)) hC.2.2.2.2.2.1
  have hA1 := hA.gwr (v := .int x3) hC.2.2.2.1.1 (show gpl 3 x1.toInt.toNat from (by unfold gpl; omega))
  have hK1 := hK0.gwr (a := 3) (j := x1.toInt.toNat) (v := .int x3) (by omega)
  have ln1 : (wr hs (g + 3) x1.toInt.toNat (.int x3)).length = hs.length := wr_len _ _ _ _
  have hT1 := hT.gwr (a := 3) (j := x1.toInt.toNat) (v := .int x3) hC.g0
  generalize (wr hs (g + 3) x1.toInt.toNat (.int x3)) = h1 at *
  refine g_loadA act (gx gp_63 (w := 0x3503) rfl (by decide) rfl) (a := 0) (n := 53) rfl rfl rfl ?_
  refine r_getf act (gx gp_63 (w := 0x3000180003804) rfl (by decide) rfl) (n := 56) (ci := 0) (j := 6) (N := 7) rfl rfl rfl hC1.1.1 (by decide) (v := .ref g) hC1.2.1 ?_
  refine r_getf act (gx gp_63 (w := 0x3000244003b04) rfl (by decide) rfl) (n := 59) (ci := 4) (j := 9) (N := 18) rfl rfl rfl hC1.2.2.2.1.1.2.1 (by decide) (v := .ref (g + 4)) (hC1.2.2.2.1.1.2.2.1 (9, 4, 32, 6) (by decide)).1 ?_
  refine g_loadA act (gx gp_63 (w := 0x1003c03) rfl (by decide) rfl) (a := 1) (n := 60) rfl rfl rfl ?_
  refine r_getf act (gx gp_63 (w := 0x48003f04) rfl (by decide) rfl) (n := 63) (ci := 8) (j := 1) (N := 5) rfl rfl rfl z0s (by decide) (v := .int x1) z0_1 ?_
  refine g_loadA act (gx gp_63 (w := 0x1004003) rfl (by decide) rfl) (a := 1) (n := 64) rfl rfl rfl ?_
  refine r_getf act (gx gp_63 (w := 0x108004304) rfl (by decide) rfl) (n := 67) (ci := 8) (j := 4) (N := 5) rfl rfl rfl z0s (by decide) (v := .int x4) z0_4 ?_
  refine r_iast act (gx gp_63 (w := 0x4424) rfl (by decide) rfl) (n := 68) (N := 6) rfl (hC1.2.2.2.1.1.2.2.1 (9, 4, 32, 6) (by decide)).2 (j := x1.toInt.toNat) (by omega) (by omega) ?_
  have z1n := he.ne hC.2.2.2.1.1 (show gpl 4 x1.toInt.toNat from (by unfold gpl; omega))
  have z1_0 := (rd_ne h1 (k := (g + 4)) (j := x1.toInt.toNat) (.int x4) (k2 := ke) (j2 := 0) (Or.inl z1n)).trans z0_0
  have z1_1 := (rd_ne h1 (k := (g + 4)) (j := x1.toInt.toNat) (.int x4) (k2 := ke) (j2 := 1) (Or.inl z1n)).trans z0_1
  have z1_2 := (rd_ne h1 (k := (g + 4)) (j := x1.toInt.toNat) (.int x4) (k2 := ke) (j2 := 2) (Or.inl z1n)).trans z0_2
  have z1_3 := (rd_ne h1 (k := (g + 4)) (j := x1.toInt.toNat) (.int x4) (k2 := ke) (j2 := 3) (Or.inl z1n)).trans z0_3
  have z1_4 := (rd_ne h1 (k := (g + 4)) (j := x1.toInt.toNat) (.int x4) (k2 := ke) (j2 := 4) (Or.inl z1n)).trans z0_4
  have z1s : shp (wr h1 (g + 4) x1.toInt.toNat (.int x4)) ke = some (8, 5) := (shp_wr _ _ _ _ _).trans z0s
  have hC2 : CLN (wr h1 (g + 4) x1.toInt.toNat (.int x4)) tx L ec ep g (upF (upF F 3 x1.toInt.toNat x3) 4 x1.toInt.toNat x4) fv (upI (upI gv (x1.toInt.toNat) (Int32.toInt x3)) (6 + x1.toInt.toNat) (Int32.toInt x4)) o nl ng nr n := hC1.pw (by unfold gpl; omega) (hC1.2.2.2.2.1.eme (x := x4) (i9 := x1.toInt.toNat) (by omega)) hC1.2.2.2.2.2.1
  have hA2 := hA1.gwr (v := .int x4) hC1.2.2.2.1.1 (show gpl 4 x1.toInt.toNat from (by unfold gpl; omega))
  have hK2 := hK1.gwr (a := 4) (j := x1.toInt.toNat) (v := .int x4) (by omega)
  have ln2 : (wr h1 (g + 4) x1.toInt.toNat (.int x4)).length = h1.length := wr_len _ _ _ _
  have hT2 := hT1.gwr (a := 4) (j := x1.toInt.toNat) (v := .int x4) hC1.g0
  generalize (wr h1 (g + 4) x1.toInt.toNat (.int x4)) = h2 at *
  refine g_goto act (gx gp_63 (w := 0x9007) rfl (by decide) rfl) (n := 144) rfl ?_
  have hC9 := hC2
  rw [e1, e3, e4] at hC9
  rw [← upC0 hk0] at hC9
  have o9 : o = upC c gv 38 := by rw [upC0 hk0, upI_ne9 (by omega), upI_ne9 (by omega)]; exact ho.symm
  rw [o9] at hC9
  have ll9 : h2.length = hs.length := by omega
  exact g_retV hEnd (gx gp_63 (w := 0x18) rfl (by decide) rfl) ⟨rfl, rfl, ⟨_, hC9⟩, hT2, hA2, ll9, hK2⟩ (by show kc ≤ kc + 0; omega) (by show ks ≤ ks + 0; omega)

theorem cx_tkb1 (hC : CLN hs tx L ec ep g F fv gv o nl ng nr n) (ho : gv 38 = o) (hT : TRS hs fv o nl) (hA : LSA hs ka nc ch) (he : CHC hs ke c) (hk0 : c 0 = 1) (hk1 : 0 ≤ c 1) (hk2 : c 1 < 5) : BodyN SSX TBL g0 CLS bl xs l D_63 0 0 0 0 [.ref 0, .ref ke] hs (fun kd r h2 => kd = 0 ∧ r = none ∧ (∃ F2 : Nat → Nat → Int32, CLN h2 tx L ec ep g F2 fv (upC c gv) (upC c gv 38) nl ng nr n) ∧ TRS h2 fv o nl ∧ LSA h2 ka nc ch ∧ h2.length = hs.length ∧ KPS g hs h2) := by
  intro wp p e R sW m args below meth cW Q kc0 ks0 kc ks act hf hl hc hsl hEnd
  have hf : 0 ≤ R.frames := hf
  have hl : 0 ≤ R.locals := hl
  have hK0 : KPS g hs hs := KPS.rf hs
  obtain ⟨x0, y0, e0⟩ := he.2 0 (by decide)
  obtain ⟨x1, y1, e1⟩ := he.2 1 (by decide)
  obtain ⟨x2, y2, e2⟩ := he.2 2 (by decide)
  obtain ⟨x3, y3, e3⟩ := he.2 3 (by decide)
  obtain ⟨x4, y4, e4⟩ := he.2 4 (by decide)
  show WpN (gp g0 wp) CLS p l e R sW m args below meth cW Q D_63.2.2.1 kc0 ks0 0 [some (.ref 0), some (.ref ke)] (hs, kc, ks) []
  refine g_loadA act (gx gp_63 (w := 0x1000103) rfl (by decide) rfl) (a := 1) (n := 1) rfl rfl rfl ?_
  refine r_getf act (gx gp_63 (w := 0x8000404) rfl (by decide) rfl) (n := 4) (ci := 8) (j := 0) (N := 5) rfl rfl rfl he.1 (by decide) (v := .int x0) y0 ?_
  have sb : swb (fb 0x4000085000036) = 0x6d005a00470024000480000000 := by decide +kernel
  have s1 : swl 0x6d005a00470024000480000000 = 2147483648 := by decide +kernel
  have s2 : swn 0x6d005a00470024000480000000 = 4 := by decide +kernel
  refine g_switchX act (gx gp_63 (w := 0x4000085000036) rfl (by decide) rfl) (t := 133) rfl sb (fun ho => by rw [s1, s2] at ho; exfalso; omega) (fun j t9 hj htj hx => ?_)
  rw [s1] at hx
  obtain rfl : j = 1 := by omega
  obtain rfl : 71 = t9 := (by decide +kernel : (71 : Nat) = Nat.mod (Nat.shiftRight 0x6d005a00470024000480000000 (Nat.add 48 (Nat.mul 16 1))) 65536).trans htj
  refine g_loadA act (gx gp_63 (w := 0x4803) rfl (by decide) rfl) (a := 0) (n := 72) rfl rfl rfl ?_
  refine r_getf act (gx gp_63 (w := 0x3000180004b04) rfl (by decide) rfl) (n := 75) (ci := 0) (j := 6) (N := 7) rfl rfl rfl hC.1.1 (by decide) (v := .ref g) hC.2.1 ?_
  refine r_getf act (gx gp_63 (w := 0x30002c4004e04) rfl (by decide) rfl) (n := 78) (ci := 4) (j := 11) (N := 18) rfl rfl rfl hC.2.2.2.1.1.2.1 (by decide) (v := .ref (g + 6)) (hC.2.2.2.1.1.2.2.1 (11, 6, 32, 5) (by decide)).1 ?_
  refine g_loadA act (gx gp_63 (w := 0x1004f03) rfl (by decide) rfl) (a := 1) (n := 79) rfl rfl rfl ?_
  refine r_getf act (gx gp_63 (w := 0x48005204) rfl (by decide) rfl) (n := 82) (ci := 8) (j := 1) (N := 5) rfl rfl rfl he.1 (by decide) (v := .int x1) y1 ?_
  refine g_loadA act (gx gp_63 (w := 0x1005303) rfl (by decide) rfl) (a := 1) (n := 83) rfl rfl rfl ?_
  refine r_getf act (gx gp_63 (w := 0xc8005604) rfl (by decide) rfl) (n := 86) (ci := 8) (j := 3) (N := 5) rfl rfl rfl he.1 (by decide) (v := .int x3) y3 ?_
  refine r_iast act (gx gp_63 (w := 0x5724) rfl (by decide) rfl) (n := 87) (N := 5) rfl (hC.2.2.2.1.1.2.2.1 (11, 6, 32, 5) (by decide)).2 (j := x1.toInt.toNat) (by omega) (by omega) ?_
  have z0n := he.ne hC.2.2.2.1.1 (show gpl 6 x1.toInt.toNat from (by unfold gpl; omega))
  have z0_0 := (rd_ne hs (k := (g + 6)) (j := x1.toInt.toNat) (.int x3) (k2 := ke) (j2 := 0) (Or.inl z0n)).trans y0
  have z0_1 := (rd_ne hs (k := (g + 6)) (j := x1.toInt.toNat) (.int x3) (k2 := ke) (j2 := 1) (Or.inl z0n)).trans y1
  have z0_2 := (rd_ne hs (k := (g + 6)) (j := x1.toInt.toNat) (.int x3) (k2 := ke) (j2 := 2) (Or.inl z0n)).trans y2
  have z0_3 := (rd_ne hs (k := (g + 6)) (j := x1.toInt.toNat) (.int x3) (k2 := ke) (j2 := 3) (Or.inl z0n)).trans y3
  have z0_4 := (rd_ne hs (k := (g + 6)) (j := x1.toInt.toNat) (.int x3) (k2 := ke) (j2 := 4) (Or.inl z0n)).trans y4
  have z0s : shp (wr hs (g + 6) x1.toInt.toNat (.int x3)) ke = some (8, 5) := (shp_wr _ _ _ _ _).trans he.1
  have hC1 : CLN (wr hs (g + 6) x1.toInt.toNat (.int x3)) tx L ec ep g (upF F 6 x1.toInt.toNat x3) fv (upI gv (12 + x1.toInt.toNat) (Int32.toInt x3)) o nl ng nr n := hC.pw (by unfold gpl; omega) (hC.2.2.2.2.1.cst (x := x3) (i9 := x1.toInt.toNat) (by omega)) hC.2.2.2.2.2.1
  have hA1 := hA.gwr (v := .int x3) hC.2.2.2.1.1 (show gpl 6 x1.toInt.toNat from (by unfold gpl; omega))
  have hK1 := hK0.gwr (a := 6) (j := x1.toInt.toNat) (v := .int x3) (by omega)
  have ln1 : (wr hs (g + 6) x1.toInt.toNat (.int x3)).length = hs.length := wr_len _ _ _ _
  have hT1 := hT.gwr (a := 6) (j := x1.toInt.toNat) (v := .int x3) hC.g0
  generalize (wr hs (g + 6) x1.toInt.toNat (.int x3)) = h1 at *
  refine g_goto act (gx gp_63 (w := 0x9007) rfl (by decide) rfl) (n := 144) rfl ?_
  have hC9 := hC1
  rw [e1, e3] at hC9
  rw [← upC1 hk0] at hC9
  have o9 : o = upC c gv 38 := by rw [upC1 hk0, upI_ne9 (by omega)]; exact ho.symm
  rw [o9] at hC9
  have ll9 : h1.length = hs.length := by omega
  exact g_retV hEnd (gx gp_63 (w := 0x18) rfl (by decide) rfl) ⟨rfl, rfl, ⟨_, hC9⟩, hT1, hA1, ll9, hK1⟩ (by show kc ≤ kc + 0; omega) (by show ks ≤ ks + 0; omega)

theorem cx_tkb2 (hC : CLN hs tx L ec ep g F fv gv o nl ng nr n) (ho : gv 38 = o) (hT : TRS hs fv o nl) (hA : LSA hs ka nc ch) (he : CHC hs ke c) (hk0 : c 0 = 2) (hk1 : 0 ≤ c 1) (hk2 : c 1 < 5) : BodyN SSX TBL g0 CLS bl xs l D_63 0 0 0 0 [.ref 0, .ref ke] hs (fun kd r h2 => kd = 0 ∧ r = none ∧ (∃ F2 : Nat → Nat → Int32, CLN h2 tx L ec ep g F2 fv (upC c gv) (upC c gv 38) nl ng nr n) ∧ TRS h2 fv o nl ∧ LSA h2 ka nc ch ∧ h2.length = hs.length ∧ KPS g hs h2) := by
  intro wp p e R sW m args below meth cW Q kc0 ks0 kc ks act hf hl hc hsl hEnd
  have hf : 0 ≤ R.frames := hf
  have hl : 0 ≤ R.locals := hl
  have hK0 : KPS g hs hs := KPS.rf hs
  obtain ⟨x0, y0, e0⟩ := he.2 0 (by decide)
  obtain ⟨x1, y1, e1⟩ := he.2 1 (by decide)
  obtain ⟨x2, y2, e2⟩ := he.2 2 (by decide)
  obtain ⟨x3, y3, e3⟩ := he.2 3 (by decide)
  obtain ⟨x4, y4, e4⟩ := he.2 4 (by decide)
  show WpN (gp g0 wp) CLS p l e R sW m args below meth cW Q D_63.2.2.1 kc0 ks0 0 [some (.ref 0), some (.ref ke)] (hs, kc, ks) []
  refine g_loadA act (gx gp_63 (w := 0x1000103) rfl (by decide) rfl) (a := 1) (n := 1) rfl rfl rfl ?_
  refine r_getf act (gx gp_63 (w := 0x8000404) rfl (by decide) rfl) (n := 4) (ci := 8) (j := 0) (N := 5) rfl rfl rfl he.1 (by decide) (v := .int x0) y0 ?_
  have sb : swb (fb 0x4000085000036) = 0x6d005a00470024000480000000 := by decide +kernel
  have s1 : swl 0x6d005a00470024000480000000 = 2147483648 := by decide +kernel
  have s2 : swn 0x6d005a00470024000480000000 = 4 := by decide +kernel
  refine g_switchX act (gx gp_63 (w := 0x4000085000036) rfl (by decide) rfl) (t := 133) rfl sb (fun ho => by rw [s1, s2] at ho; exfalso; omega) (fun j t9 hj htj hx => ?_)
  rw [s1] at hx
  obtain rfl : j = 2 := by omega
  obtain rfl : 90 = t9 := (by decide +kernel : (90 : Nat) = Nat.mod (Nat.shiftRight 0x6d005a00470024000480000000 (Nat.add 48 (Nat.mul 16 2))) 65536).trans htj
  refine g_loadA act (gx gp_63 (w := 0x5b03) rfl (by decide) rfl) (a := 0) (n := 91) rfl rfl rfl ?_
  refine r_getf act (gx gp_63 (w := 0x3000180005e04) rfl (by decide) rfl) (n := 94) (ci := 0) (j := 6) (N := 7) rfl rfl rfl hC.1.1 (by decide) (v := .ref g) hC.2.1 ?_
  refine r_getf act (gx gp_63 (w := 0x3000304006104) rfl (by decide) rfl) (n := 97) (ci := 4) (j := 12) (N := 18) rfl rfl rfl hC.2.2.2.1.1.2.1 (by decide) (v := .ref (g + 7)) (hC.2.2.2.1.1.2.2.1 (12, 7, 32, 5) (by decide)).1 ?_
  refine g_loadA act (gx gp_63 (w := 0x1006203) rfl (by decide) rfl) (a := 1) (n := 98) rfl rfl rfl ?_
  refine r_getf act (gx gp_63 (w := 0x48006504) rfl (by decide) rfl) (n := 101) (ci := 8) (j := 1) (N := 5) rfl rfl rfl he.1 (by decide) (v := .int x1) y1 ?_
  refine g_loadA act (gx gp_63 (w := 0x1006603) rfl (by decide) rfl) (a := 1) (n := 102) rfl rfl rfl ?_
  refine r_getf act (gx gp_63 (w := 0xc8006904) rfl (by decide) rfl) (n := 105) (ci := 8) (j := 3) (N := 5) rfl rfl rfl he.1 (by decide) (v := .int x3) y3 ?_
  refine r_iast act (gx gp_63 (w := 0x6a24) rfl (by decide) rfl) (n := 106) (N := 5) rfl (hC.2.2.2.1.1.2.2.1 (12, 7, 32, 5) (by decide)).2 (j := x1.toInt.toNat) (by omega) (by omega) ?_
  have z0n := he.ne hC.2.2.2.1.1 (show gpl 7 x1.toInt.toNat from (by unfold gpl; omega))
  have z0_0 := (rd_ne hs (k := (g + 7)) (j := x1.toInt.toNat) (.int x3) (k2 := ke) (j2 := 0) (Or.inl z0n)).trans y0
  have z0_1 := (rd_ne hs (k := (g + 7)) (j := x1.toInt.toNat) (.int x3) (k2 := ke) (j2 := 1) (Or.inl z0n)).trans y1
  have z0_2 := (rd_ne hs (k := (g + 7)) (j := x1.toInt.toNat) (.int x3) (k2 := ke) (j2 := 2) (Or.inl z0n)).trans y2
  have z0_3 := (rd_ne hs (k := (g + 7)) (j := x1.toInt.toNat) (.int x3) (k2 := ke) (j2 := 3) (Or.inl z0n)).trans y3
  have z0_4 := (rd_ne hs (k := (g + 7)) (j := x1.toInt.toNat) (.int x3) (k2 := ke) (j2 := 4) (Or.inl z0n)).trans y4
  have z0s : shp (wr hs (g + 7) x1.toInt.toNat (.int x3)) ke = some (8, 5) := (shp_wr _ _ _ _ _).trans he.1
  have hC1 : CLN (wr hs (g + 7) x1.toInt.toNat (.int x3)) tx L ec ep g (upF F 7 x1.toInt.toNat x3) fv (upI gv (17 + x1.toInt.toNat) (Int32.toInt x3)) o nl ng nr n := hC.pw (by unfold gpl; omega) (hC.2.2.2.2.1.cap (x := x3) (i9 := x1.toInt.toNat) (by omega)) hC.2.2.2.2.2.1
  have hA1 := hA.gwr (v := .int x3) hC.2.2.2.1.1 (show gpl 7 x1.toInt.toNat from (by unfold gpl; omega))
  have hK1 := hK0.gwr (a := 7) (j := x1.toInt.toNat) (v := .int x3) (by omega)
  have ln1 : (wr hs (g + 7) x1.toInt.toNat (.int x3)).length = hs.length := wr_len _ _ _ _
  have hT1 := hT.gwr (a := 7) (j := x1.toInt.toNat) (v := .int x3) hC.g0
  generalize (wr hs (g + 7) x1.toInt.toNat (.int x3)) = h1 at *
  refine g_goto act (gx gp_63 (w := 0x9007) rfl (by decide) rfl) (n := 144) rfl ?_
  have hC9 := hC1
  rw [e1, e3] at hC9
  rw [← upC2 hk0] at hC9
  have o9 : o = upC c gv 38 := by rw [upC2 hk0, upI_ne9 (by omega)]; exact ho.symm
  rw [o9] at hC9
  have ll9 : h1.length = hs.length := by omega
  exact g_retV hEnd (gx gp_63 (w := 0x18) rfl (by decide) rfl) ⟨rfl, rfl, ⟨_, hC9⟩, hT1, hA1, ll9, hK1⟩ (by show kc ≤ kc + 0; omega) (by show ks ≤ ks + 0; omega)

theorem cx_tkb3 (hC : CLN hs tx L ec ep g F fv gv o nl ng nr n) (ho : gv 38 = o) (hT : TRS hs fv o nl) (hA : LSA hs ka nc ch) (he : CHC hs ke c) (hk0 : c 0 = 3) (hk1 : 0 ≤ c 1) (hk2 : c 1 < 4) (hk3 : 0 ≤ c 2) (hk4 : c 2 < 4) : BodyN SSX TBL g0 CLS bl xs l D_63 0 0 0 0 [.ref 0, .ref ke] hs (fun kd r h2 => kd = 0 ∧ r = none ∧ (∃ F2 : Nat → Nat → Int32, CLN h2 tx L ec ep g F2 fv (upC c gv) (upC c gv 38) nl ng nr n) ∧ TRS h2 fv o nl ∧ LSA h2 ka nc ch ∧ h2.length = hs.length ∧ KPS g hs h2) := by
  intro wp p e R sW m args below meth cW Q kc0 ks0 kc ks act hf hl hc hsl hEnd
  have hf : 0 ≤ R.frames := hf
  have hl : 0 ≤ R.locals := hl
  have hK0 : KPS g hs hs := KPS.rf hs
  obtain ⟨x0, y0, e0⟩ := he.2 0 (by decide)
  obtain ⟨x1, y1, e1⟩ := he.2 1 (by decide)
  obtain ⟨x2, y2, e2⟩ := he.2 2 (by decide)
  obtain ⟨x3, y3, e3⟩ := he.2 3 (by decide)
  obtain ⟨x4, y4, e4⟩ := he.2 4 (by decide)
  show WpN (gp g0 wp) CLS p l e R sW m args below meth cW Q D_63.2.2.1 kc0 ks0 0 [some (.ref 0), some (.ref ke)] (hs, kc, ks) []
  refine g_loadA act (gx gp_63 (w := 0x1000103) rfl (by decide) rfl) (a := 1) (n := 1) rfl rfl rfl ?_
  refine r_getf act (gx gp_63 (w := 0x8000404) rfl (by decide) rfl) (n := 4) (ci := 8) (j := 0) (N := 5) rfl rfl rfl he.1 (by decide) (v := .int x0) y0 ?_
  have sb : swb (fb 0x4000085000036) = 0x6d005a00470024000480000000 := by decide +kernel
  have s1 : swl 0x6d005a00470024000480000000 = 2147483648 := by decide +kernel
  have s2 : swn 0x6d005a00470024000480000000 = 4 := by decide +kernel
  refine g_switchX act (gx gp_63 (w := 0x4000085000036) rfl (by decide) rfl) (t := 133) rfl sb (fun ho => by rw [s1, s2] at ho; exfalso; omega) (fun j t9 hj htj hx => ?_)
  rw [s1] at hx
  obtain rfl : j = 3 := by omega
  obtain rfl : 109 = t9 := (by decide +kernel : (109 : Nat) = Nat.mod (Nat.shiftRight 0x6d005a00470024000480000000 (Nat.add 48 (Nat.mul 16 3))) 65536).trans htj
  refine g_loadA act (gx gp_63 (w := 0x6e03) rfl (by decide) rfl) (a := 0) (n := 110) rfl rfl rfl ?_
  refine r_getf act (gx gp_63 (w := 0x3000180007104) rfl (by decide) rfl) (n := 113) (ci := 0) (j := 6) (N := 7) rfl rfl rfl hC.1.1 (by decide) (v := .ref g) hC.2.1 ?_
  refine r_getf act (gx gp_63 (w := 0x3000344007404) rfl (by decide) rfl) (n := 116) (ci := 4) (j := 13) (N := 18) rfl rfl rfl hC.2.2.2.1.1.2.1 (by decide) (v := .ref (g + 8)) (hC.2.2.2.1.1.2.2.1 (13, 8, 37, 4) (by decide)).1 ?_
  refine g_loadA act (gx gp_63 (w := 0x1007503) rfl (by decide) rfl) (a := 1) (n := 117) rfl rfl rfl ?_
  refine r_getf act (gx gp_63 (w := 0x48007804) rfl (by decide) rfl) (n := 120) (ci := 8) (j := 1) (N := 5) rfl rfl rfl he.1 (by decide) (v := .int x1) y1 ?_
  refine r_aald act (gx gp_63 (w := 0x7912) rfl (by decide) rfl) (n := 121) (c9 := 37) (N := 4) (j := x1.toInt.toNat) rfl (hC.2.2.2.1.1.2.2.1 (13, 8, 37, 4) (by decide)).2 (by decide) (by omega) (by omega) (hC.2.2.2.1.1.2.2.2 x1.toInt.toNat (by omega)).1 ?_
  refine g_loadA act (gx gp_63 (w := 0x1007a03) rfl (by decide) rfl) (a := 1) (n := 122) rfl rfl rfl ?_
  refine r_getf act (gx gp_63 (w := 0x88007d04) rfl (by decide) rfl) (n := 125) (ci := 8) (j := 2) (N := 5) rfl rfl rfl he.1 (by decide) (v := .int x2) y2 ?_
  refine g_loadA act (gx gp_63 (w := 0x1007e03) rfl (by decide) rfl) (a := 1) (n := 126) rfl rfl rfl ?_
  refine r_getf act (gx gp_63 (w := 0xc8008104) rfl (by decide) rfl) (n := 129) (ci := 8) (j := 3) (N := 5) rfl rfl rfl he.1 (by decide) (v := .int x3) y3 ?_
  refine r_iast act (gx gp_63 (w := 0x8224) rfl (by decide) rfl) (n := 130) (N := 4) rfl (hC.2.2.2.1.1.2.2.2 x1.toInt.toNat (by omega)).2 (j := x2.toInt.toNat) (by omega) (by omega) ?_
  have z0n := he.ne hC.2.2.2.1.1 (show gpl (9 + x1.toInt.toNat) x2.toInt.toNat from (by unfold gpl; omega))
  have z0_0 := (rd_ne hs (k := (g + (9 + x1.toInt.toNat))) (j := x2.toInt.toNat) (.int x3) (k2 := ke) (j2 := 0) (Or.inl z0n)).trans y0
  have z0_1 := (rd_ne hs (k := (g + (9 + x1.toInt.toNat))) (j := x2.toInt.toNat) (.int x3) (k2 := ke) (j2 := 1) (Or.inl z0n)).trans y1
  have z0_2 := (rd_ne hs (k := (g + (9 + x1.toInt.toNat))) (j := x2.toInt.toNat) (.int x3) (k2 := ke) (j2 := 2) (Or.inl z0n)).trans y2
  have z0_3 := (rd_ne hs (k := (g + (9 + x1.toInt.toNat))) (j := x2.toInt.toNat) (.int x3) (k2 := ke) (j2 := 3) (Or.inl z0n)).trans y3
  have z0_4 := (rd_ne hs (k := (g + (9 + x1.toInt.toNat))) (j := x2.toInt.toNat) (.int x3) (k2 := ke) (j2 := 4) (Or.inl z0n)).trans y4
  have z0s : shp (wr hs (g + (9 + x1.toInt.toNat)) x2.toInt.toNat (.int x3)) ke = some (8, 5) := (shp_wr _ _ _ _ _).trans he.1
  have hC1 : CLN (wr hs (g + (9 + x1.toInt.toNat)) x2.toInt.toNat (.int x3)) tx L ec ep g (upF F (9 + x1.toInt.toNat) x2.toInt.toNat x3) fv (upI gv (22 + 4 * x1.toInt.toNat + x2.toInt.toNat) (Int32.toInt x3)) o nl ng nr n := hC.pw (by unfold gpl; omega) (REL.dem hC.2.2.2.2.1 (x := x1.toInt.toNat) (y := x2.toInt.toNat) (by omega) (by omega) (rfl : Int32.toInt x3 = _)) hC.2.2.2.2.2.1
  have hA1 := hA.gwr (v := .int x3) hC.2.2.2.1.1 (show gpl (9 + x1.toInt.toNat) x2.toInt.toNat from (by unfold gpl; omega))
  have hK1 := hK0.gwr (a := (9 + x1.toInt.toNat)) (j := x2.toInt.toNat) (v := .int x3) (by omega)
  have ln1 : (wr hs (g + (9 + x1.toInt.toNat)) x2.toInt.toNat (.int x3)).length = hs.length := wr_len _ _ _ _
  have hT1 := hT.gwr (a := (9 + x1.toInt.toNat)) (j := x2.toInt.toNat) (v := .int x3) hC.g0
  generalize (wr hs (g + (9 + x1.toInt.toNat)) x2.toInt.toNat (.int x3)) = h1 at *
  refine g_goto act (gx gp_63 (w := 0x9007) rfl (by decide) rfl) (n := 144) rfl ?_
  have hC9 := hC1
  rw [e1, e2, e3] at hC9
  rw [← upC3 hk0] at hC9
  have o9 : o = upC c gv 38 := by rw [upC3 hk0, upI_ne9 (by omega)]; exact ho.symm
  rw [o9] at hC9
  have ll9 : h1.length = hs.length := by omega
  exact g_retV hEnd (gx gp_63 (w := 0x18) rfl (by decide) rfl) ⟨rfl, rfl, ⟨_, hC9⟩, hT1, hA1, ll9, hK1⟩ (by show kc ≤ kc + 0; omega) (by show ks ≤ ks + 0; omega)

theorem cx_tkb4 (hC : CLN hs tx L ec ep g F fv gv o nl ng nr n) (ho : gv 38 = o) (hT : TRS hs fv o nl) (hA : LSA hs ka nc ch) (he : CHC hs ke c) (hk0 : c 0 = 4) (hS : SPR fv (upC c gv 38) nl ng nr n) : BodyN SSX TBL g0 CLS bl xs l D_63 0 0 0 0 [.ref 0, .ref ke] hs (fun kd r h2 => kd = 0 ∧ r = none ∧ (∃ F2 : Nat → Nat → Int32, CLN h2 tx L ec ep g F2 fv (upC c gv) (upC c gv 38) nl ng nr n) ∧ TRS h2 fv o nl ∧ LSA h2 ka nc ch ∧ h2.length = hs.length ∧ KPS g hs h2) := by
  intro wp p e R sW m args below meth cW Q kc0 ks0 kc ks act hf hl hc hsl hEnd
  have hf : 0 ≤ R.frames := hf
  have hl : 0 ≤ R.locals := hl
  have hK0 : KPS g hs hs := KPS.rf hs
  obtain ⟨x0, y0, e0⟩ := he.2 0 (by decide)
  obtain ⟨x1, y1, e1⟩ := he.2 1 (by decide)
  obtain ⟨x2, y2, e2⟩ := he.2 2 (by decide)
  obtain ⟨x3, y3, e3⟩ := he.2 3 (by decide)
  obtain ⟨x4, y4, e4⟩ := he.2 4 (by decide)
  show WpN (gp g0 wp) CLS p l e R sW m args below meth cW Q D_63.2.2.1 kc0 ks0 0 [some (.ref 0), some (.ref ke)] (hs, kc, ks) []
  refine g_loadA act (gx gp_63 (w := 0x1000103) rfl (by decide) rfl) (a := 1) (n := 1) rfl rfl rfl ?_
  refine r_getf act (gx gp_63 (w := 0x8000404) rfl (by decide) rfl) (n := 4) (ci := 8) (j := 0) (N := 5) rfl rfl rfl he.1 (by decide) (v := .int x0) y0 ?_
  have sb : swb (fb 0x4000085000036) = 0x6d005a00470024000480000000 := by decide +kernel
  have s1 : swl 0x6d005a00470024000480000000 = 2147483648 := by decide +kernel
  have s2 : swn 0x6d005a00470024000480000000 = 4 := by decide +kernel
  refine g_switchX act (gx gp_63 (w := 0x4000085000036) rfl (by decide) rfl) (t := 133) rfl sb (fun _ => ?_) (fun j t9 hj htj hx => by rw [s1] at hx; rw [s2] at hj; exfalso; omega)
  refine g_loadA act (gx gp_63 (w := 0x8603) rfl (by decide) rfl) (a := 0) (n := 134) rfl rfl rfl ?_
  refine r_getf act (gx gp_63 (w := 0x3000180008904) rfl (by decide) rfl) (n := 137) (ci := 0) (j := 6) (N := 7) rfl rfl rfl hC.1.1 (by decide) (v := .ref g) hC.2.1 ?_
  refine g_loadA act (gx gp_63 (w := 0x1008a03) rfl (by decide) rfl) (a := 1) (n := 138) rfl rfl rfl ?_
  refine r_getf act (gx gp_63 (w := 0xc8008d04) rfl (by decide) rfl) (n := 141) (ci := 8) (j := 3) (N := 5) rfl rfl rfl he.1 (by decide) (v := .int x3) y3 ?_
  refine r_putf act (gx gp_63 (w := 0x144009013) rfl (by decide) rfl) (n := 144) (ci := 4) (j := 5) (N := 18) rfl rfl rfl hC.2.2.2.1.1.2.1 (by decide) (Or.inl ⟨rfl, _, rfl⟩) ?_
  show WpN (gp g0 wp) CLS p l e R sW m args below meth cW Q D_63.2.2.1 kc0 ks0 144 [some (.ref 0), some (.ref ke)] ((wr hs (g + 0) 5 (.int x3)), kc, ks) []
  have z0n := he.ne hC.2.2.2.1.1 (show gpl 0 5 from (by unfold gpl; omega))
  have z0_0 := (rd_ne hs (k := (g + 0)) (j := 5) (.int x3) (k2 := ke) (j2 := 0) (Or.inl z0n)).trans y0
  have z0_1 := (rd_ne hs (k := (g + 0)) (j := 5) (.int x3) (k2 := ke) (j2 := 1) (Or.inl z0n)).trans y1
  have z0_2 := (rd_ne hs (k := (g + 0)) (j := 5) (.int x3) (k2 := ke) (j2 := 2) (Or.inl z0n)).trans y2
  have z0_3 := (rd_ne hs (k := (g + 0)) (j := 5) (.int x3) (k2 := ke) (j2 := 3) (Or.inl z0n)).trans y3
  have z0_4 := (rd_ne hs (k := (g + 0)) (j := 5) (.int x3) (k2 := ke) (j2 := 4) (Or.inl z0n)).trans y4
  have z0s : shp (wr hs (g + 0) 5 (.int x3)) ke = some (8, 5) := (shp_wr _ _ _ _ _).trans he.1
  have hC1 : CLN (wr hs (g + 0) 5 (.int x3)) tx L ec ep g (upF F 0 5 x3) fv gv (Int32.toInt x3) nl ng nr n := hC.pw (by unfold gpl; omega) (REL.out hC.2.2.2.2.1 (rfl : Int32.toInt x3 = _)) (show SPR fv x3.toInt nl ng nr n by rw [e3]; rw [upC4 hk0] at hS; exact hS)
  have hA1 := hA.gwr (v := .int x3) hC.2.2.2.1.1 (show gpl 0 5 from (by unfold gpl; omega))
  have hK1 := hK0.gwr (a := 0) (j := 5) (v := .int x3) (by omega)
  have ln1 : (wr hs (g + 0) 5 (.int x3)).length = hs.length := wr_len _ _ _ _
  have hT1 := hT.gwr (a := 0) (j := 5) (v := .int x3) hC.g0
  generalize (wr hs (g + 0) 5 (.int x3)) = h1 at *
  have hC9 := hC1
  have hC9 := hC9.cong (gv2 := upI gv 38 x3.toInt) (fun j hj => upI_ne9 (by omega))
  rw [show x3.toInt = c 3 from e3] at hC9
  rw [show upI gv 38 (c 3) = upC c gv from (upC4 hk0).symm] at hC9
  have o9 : c 3 = upC c gv 38 := by rw [upC4 hk0]; unfold upI; rw [if_pos rfl]
  rw [o9] at hC9
  have ll9 : h1.length = hs.length := by omega
  exact g_retV hEnd (gx gp_63 (w := 0x18) rfl (by decide) rfl) ⟨rfl, rfl, ⟨_, hC9⟩, hT1, hA1, ll9, hK1⟩ (by show kc ≤ kc + 0; omega) (by show ks ≤ ks + 0; omega)

theorem cx_tkb (hC : CLN hs tx L ec ep g F fv gv o nl ng nr n) (ho : gv 38 = o) (hT : TRS hs fv o nl) (hA : LSA hs ka nc ch) (he : CHC hs ke c) (hc : CGd c) (hS : SPR fv (upC c gv 38) nl ng nr n) : BodyN SSX TBL g0 CLS bl xs l D_63 0 0 0 0 [.ref 0, .ref ke] hs (fun kd r h2 => kd = 0 ∧ r = none ∧ (∃ F2 : Nat → Nat → Int32, CLN h2 tx L ec ep g F2 fv (upC c gv) (upC c gv 38) nl ng nr n) ∧ TRS h2 fv o nl ∧ LSA h2 ka nc ch ∧ h2.length = hs.length ∧ KPS g hs h2) := by
  rcases hc with ⟨a, b, d⟩ | ⟨a, b, d⟩ | ⟨a, b, d⟩ | ⟨a, b, d, e, f⟩ | a
  · exact cx_tkb0 hC ho hT hA he a b d
  · exact cx_tkb1 hC ho hT hA he a b d
  · exact cx_tkb2 hC ho hT hA he a b d
  · exact cx_tkb3 hC ho hT hA he a b d e f
  · exact cx_tkb4 hC ho hT hA he a hS
end TKB

section CON2
variable {g0 : GG} {bl : Nat} {xs : Nat → Int32} {l : Launch} {hs : List CE} {tx : Nat → Int} {L ec ep : Int} {g : Nat} {F : Nat → Nat → Int32} {fv gv : Nat → Int} {o : Int} {nl ng nr n nc : Nat} {ch : Nat → Nat → Int} {z : Int} {z9 i : Int32}

theorem cx_conn2 (s54 : shp hs 54 = some (5, 11)) (r4 : rd hs 54 4 = .ref 56) (hF : FLS hs 56) (hG : GIM hs g F) (hR : REL F fv gv o) (hS : SPR fv o nl ng nr n) (hz : z9.toInt = z) : BodyN SSX TBL g0 CLS bl xs l D_122 3 74 0 0 [.ref 54, .ref g, .int z9] hs (fun kd r h2 => kd = 0 ∧ ∃ x : Int32, r = some (.int x) ∧ ((x.toInt = 1 ∧ CutOK fv nl z n) ∨ (x.toInt = 0 ∧ ¬ CutOK fv nl z n)) ∧ FLS h2 56 ∧ FrS (WFr 56) hs h2) := by
  intro wp p e R sW m args below meth cW Q kc0 ks0 kc ks act hf hl hc hsl hEnd
  have hf : 3 ≤ R.frames := hf
  have hl : 74 ≤ R.locals := hl
  have hg0 := hG.1.1
  obtain ⟨w0, w1, w2, w3, w4, w5, w6, w7, w8, w9, wa, wb, wc, wd, we⟩ := id hS
  show WpN (gp g0 wp) CLS p l e R sW m args below meth cW Q D_122.2.2.1 kc0 ks0 0 [some (.ref 54), some (.ref g), some (.int z9)] (hs, kc, ks) []
  refine g_loadA act (gx gp_122 (w := 0x103) rfl (by decide) rfl) (a := 0) (n := 1) rfl rfl rfl ?_
  refine r_getf act (gx gp_122 (w := 0x3000105000404) rfl (by decide) rfl) (n := 4) (ci := 5) (j := 4) (N := 11) rfl rfl rfl s54 (by decide) (v := .ref 56) r4 ?_
  refine g_loadA act (gx gp_122 (w := 0x1000503) rfl (by decide) rfl) (a := 1) (n := 5) rfl rfl rfl ?_
  refine g_loadI act (gx gp_122 (w := 0x2000602) rfl (by decide) rfl) (a := 2) (n := 6) rfl rfl rfl ?_
  refine n_call tb_pres act hEnd (gx (P := G_call) gp_122 (w := 0x200000000000081c3300004b00090f) rfl (by decide) rfl) (d' := D_75) rfl (f' := 2) (lam' := 48) (mc := 0) (ms := 0) (as := [.ref 56, .ref g, .int z9]) (rest := []) (cx_cmp (b := 56) (nl := nl) (fv := fv) (gv := gv) (o := o) (z := z) hF hG hR (by omega) hz w5 w6 (by omega) (by omega) wd) (show (3 : Nat) = fb 0x200000000000081c3300004b00090f % 16 by decide) (by show (3 : Nat) ≤ 7; decide) (fun _ => ⟨_, _, rfl, _, shp_at hF.2.1, Or.inr (show fb 0x200000000000081c3300004b00090f >>> 68 = 2 by decide)⟩) (by omega) (by show 8 + (7 + 11) + 48 ≤ R.locals; omega) (by show (0 : Nat) ≤ 8; decide) (by show kc + 0 ≤ _; omega) (by show ks + 0 ≤ _; omega) (fun r9 h3 hpo hr9 => ?_) (fun x9 hs9 hx9 hpo => ?_)
  · obtain rfl : r9 = none := hr9.elim (fun q => q.2) (fun q => absurd rfl q.1)
    obtain ⟨-, -, hF3, ⟨t9, hT3, ht9⟩, fr3⟩ := hpo
    have hci := conn_iff (z := z) w1 w2 w0 w6 wd
    rw [← ht9] at hci
    have s3 := (fr3.2.1 54).trans s54
    have r3 := (fr3.2.2 54 4 (fun q => by unfold WFr at q; omega)).trans r4
    show WpN (gp g0 wp) CLS p l e R sW m args below meth cW Q D_122.2.2.1 kc0 ks0 9 [some (.ref 54), some (.ref g), some (.int z9)] (h3, kc, ks) []
    refine g_loadA act (gx gp_122 (w := 0xa03) rfl (by decide) rfl) (a := 0) (n := 10) rfl rfl rfl ?_
    refine r_getf act (gx gp_122 (w := 0x3000105000d04) rfl (by decide) rfl) (n := 13) (ci := 5) (j := 4) (N := 11) rfl rfl rfl s3 (by decide) (v := .ref 56) r3 ?_
    refine r_getf act (gx gp_122 (w := 0x2000001001004) rfl (by decide) rfl) (n := 16) (ci := 1) (j := 0) (N := 4) rfl rfl rfl hF3.2.1 (by decide) (v := .long t9) hT3 ?_
    refine g_constL act (gx gp_122 (w := 0x40000000000000002000000001101) rfl (by decide) rfl) (n := 17) (x := 0) (by decide) rfl ?_
    refine g_lcmp act (gx gp_122 (w := 0x120c) rfl (by decide) rfl) (n := 18) rfl ?_
    refine g_ifLe act (gx gp_122 (w := 0x1900153d) rfl (by decide) rfl) (tgt := 25) (n := 21) rfl rfl (fun h7 => ?_) (fun h7 => ?_)
    · simp only [cmpLe, show (0 : Int64).toInt = 0 from by decide] at h7
      refine g_constI act (gx gp_122 (w := 0x40000000400000001000000001a01) rfl (by decide) rfl) (n := 26) (x := (0 : Int32)) (by decide) rfl ?_
      exact g_retZ hEnd (gx gp_122 (w := 0x23) rfl (by decide) rfl) (Or.inl rfl) ⟨rfl, _, rfl, Or.inr ⟨by decide, fun q => by have := hci.mpr q; omega⟩, hF3, fr3⟩ (by show kc ≤ kc + 0; omega) (by show ks ≤ ks + 0; omega)
    · simp only [cmpLe, show (0 : Int64).toInt = 0 from by decide] at h7
      refine g_constI act (gx gp_122 (w := 0x40000000c00000009000000001601) rfl (by decide) rfl) (n := 22) (x := (1 : Int32)) (by decide) rfl ?_
      refine g_goto act (gx gp_122 (w := 0x1a07) rfl (by decide) rfl) (n := 26) rfl ?_
      exact g_retZ hEnd (gx gp_122 (w := 0x23) rfl (by decide) rfl) (Or.inr rfl) ⟨rfl, _, rfl, Or.inl ⟨by decide, hci.mp (by omega)⟩, hF3, fr3⟩ (by show kc ≤ kc + 0; omega) (by show ks ≤ ks + 0; omega)
  · exact absurd hpo.1 (by omega)

theorem cc_spare (hC : CLN hs tx L ec ep g F fv gv o nl ng nr n) : BodyN SSX TBL g0 CLS bl xs l D_15 8 120 1 11 [.ref 0, .int i] hs (fun kd r h2 => r = none ∧ FLS h2 56 ∧ FrS (WFr 56) hs h2 ∧ ((kd = 0 ∧ CutOK fv nl i.toInt n) ∨ (kd = 3 ∧ ¬ CutOK fv nl i.toInt n))) := by
  intro wp p e R sW m args below meth cW Q kc0 ks0 kc ks act hf hl hc hsl hEnd
  have hf : 8 ≤ R.frames := hf
  have hl : 120 ≤ R.locals := hl
  show WpN (gp g0 wp) CLS p l e R sW m args below meth cW Q D_15.2.2.1 kc0 ks0 0 [some (.ref 0), some (.int i)] (hs, kc, ks) []
  refine g_loadA act (gx gp_15 (w := 0x103) rfl (by decide) rfl) (a := 0) (n := 1) rfl rfl rfl ?_
  refine r_getf act (gx gp_15 (w := 0x3000000000404) rfl (by decide) rfl) (n := 4) (ci := 0) (j := 0) (N := 7) rfl rfl rfl hC.1.1 (by decide) (v := .ref 54) hC.1.2.1 ?_
  refine g_loadA act (gx gp_15 (w := 0x503) rfl (by decide) rfl) (a := 0) (n := 5) rfl rfl rfl ?_
  refine r_getf act (gx gp_15 (w := 0x3000180000804) rfl (by decide) rfl) (n := 8) (ci := 0) (j := 6) (N := 7) rfl rfl rfl hC.1.1 (by decide) (v := .ref g) hC.2.1 ?_
  refine g_loadI act (gx gp_15 (w := 0x1000902) rfl (by decide) rfl) (a := 1) (n := 9) rfl rfl rfl ?_
  refine n_call tb_pres act hEnd (gx (P := G_call) gp_15 (w := 0x6000000000000c0c3300007a000c0f) rfl (by decide) rfl) (d' := D_122) rfl (f' := 3) (lam' := 74) (mc := 0) (ms := 0) (as := [.ref 54, .ref g, .int i]) (rest := []) (cx_conn2 hC.2.2.1.1 hC.2.2.1.2.2.2.1 hC.2.2.2.2.2.2.2.2 hC.2.2.2.1 hC.2.2.2.2.1 hC.2.2.2.2.2.1 rfl) (show (3 : Nat) = fb 0x6000000000000c0c3300007a000c0f % 16 by decide) (by show (3 : Nat) ≤ 3; decide) (fun _ => ⟨_, _, rfl, _, shp_at hC.2.2.1.1, Or.inr (show fb 0x6000000000000c0c3300007a000c0f >>> 68 = 6 by decide)⟩) (by omega) (by show 8 + (3 + 11) + 74 ≤ R.locals; omega) (by show (0 : Nat) ≤ 8; decide) (by show kc + 0 ≤ _; omega) (by show ks + 0 ≤ _; omega) (fun r9 h3 hpo hr9 => ?_) (fun x9 hs9 hx9 hpo => ?_)
  · obtain ⟨-, x9, rfl, hq, hF3, fr3⟩ := hpo
    show WpN (gp g0 wp) CLS p l e R sW m args below meth cW Q D_15.2.2.1 kc0 ks0 12 [some (.ref 0), some (.int i)] (h3, kc, ks) [.int x9]
    refine g_ifNe act (gx gp_15 (w := 0x1a000f1d) rfl (by decide) rfl) (tgt := 26) (n := 15) rfl rfl (fun h4 => ?_) (fun h4 => ?_)
    · simp only [i_eq, i0] at h4
      exact g_retV hEnd (gx gp_15 (w := 0x18) rfl (by decide) rfl) ⟨rfl, hF3, fr3, Or.inl ⟨rfl, (hq.resolve_right (by omega)).2⟩⟩ (by show kc ≤ kc + 1; omega) (by show ks ≤ ks + 11; omega)
    · simp only [i_eq, i0] at h4
      exact g_throw hEnd (gx gp_15 (w := 0x2000038) rfl (by decide) rfl) (x := 2) rfl ⟨rfl, hF3, fr3, Or.inr ⟨rfl, (hq.resolve_left (by omega)).2⟩⟩ (by show kc + 1 ≤ kc + 1; omega) (by show ks + 6 ≤ ks + 11; omega) (by decide) (by decide)
  · exact absurd hpo.1 (by omega)

end CON2

section SETO
variable {g0 : GG} {bl : Nat} {xs : Nat → Int32} {l : Launch} {hs : List CE} {tx : Nat → Int} {L ec ep : Int} {g : Nat} {F : Nat → Nat → Int32} {fv gv : Nat → Int} {o : Int} {nl ng nr n nc : Nat} {ch : Nat → Nat → Int} {i : Int32}

theorem cx_setOutage (hTY9 : TYg g0) (h148 : 148 ≤ hs.length) (hlen : hs.length + 3 ≤ 6999999999999) (hC : CLN hs tx L ec ep g F fv gv o nl ng nr n) (hT : TRS hs fv o nl) (hL : LSC hs nc ch) : BodyN SSX TBL g0 CLS bl xs l D_60 10 182 5 55 [.ref 0, .int i] hs (fun kd r h2 => (kd = 0 ∧ (i.toInt = -1 ∨ ((0 ≤ i.toInt ∧ i.toInt < (nl : Int)) ∧ CutOK fv nl i.toInt n)) ∧ (∃ x : Int32, r = some (.int x) ∧ x.toInt = o) ∧ COk hs h2 tx L ec ep g fv gv i.toInt nl ng nr n (if nc = 10 then 10 else nc + 1) (RMB nc ch (F5 4 (-1) (-1) o (-1)))) ∨ (kd = 2 ∧ r = none ∧ i.toInt ≠ -1 ∧ ¬ (0 ≤ i.toInt ∧ i.toInt < (nl : Int)) ∧ hs = h2) ∨ (kd = 3 ∧ r = none ∧ (0 ≤ i.toInt ∧ i.toInt < (nl : Int)) ∧ ¬ CutOK fv nl i.toInt n ∧ CLN h2 tx L ec ep g F fv gv o nl ng nr n ∧ TRS h2 fv o nl ∧ LSC h2 nc ch ∧ KPS g hs h2 ∧ h2.length = hs.length ∧ h2[36]? = hs[36]?)) := by
  intro wp p e R sW m args below meth cW Q kc0 ks0 kc ks act hf hl hc hsl hEnd
  have hf : 10 ≤ R.frames := hf
  have hl : 182 ≤ R.locals := hl
  have hK0 : KPS g hs hs := KPS.rf hs
  obtain ⟨w0, w1, w2, w3, w4, w5, w6, w7, w8, w9, wa, wb, wc, wd, we⟩ := id hC.2.2.2.2.2.1
  have a0 := hC.2.2.2.2.1.1
  have a1 := hC.2.2.2.2.1.2.1
  have a2 := hC.2.2.2.2.1.2.2.1
  have a3 := hC.2.2.2.2.1.2.2.2.1
  have a5 := hC.2.2.2.2.1.2.2.2.2.2.1
  have t15 : ∀ (h6 : List CE) (kc6 ks6 : Nat), CLN h6 tx L ec ep g F fv gv o nl ng nr n → TRS h6 fv o nl → LSC h6 nc ch → KPS g hs h6 → rd h6 35 0 = rd hs 35 0 → h6.length = hs.length → (i.toInt = -1 ∨ ((0 ≤ i.toInt ∧ i.toInt < (nl : Int)) ∧ CutOK fv nl i.toInt n)) → kc6 ≤ kc + 2 → ks6 ≤ ks + 22 → WpN (gp g0 wp) CLS p l e R sW m args below meth cW Q D_60.2.2.1 kc0 ks0 15 [some (.ref 0), some (.int i), none] (h6, kc6, ks6) [] := by
    intro h6 kc6 ks6 hC6 hT6 hL6 hK6 e356 l6 hok hkc6 hks6
    have h148 : 148 ≤ h6.length := by omega
    refine g_loadA act (gx gp_60 (w := 0x1003) rfl (by decide) rfl) (a := 0) (n := 16) rfl rfl rfl ?_
    refine r_getf act (gx gp_60 (w := 0x3000180001304) rfl (by decide) rfl) (n := 19) (ci := 0) (j := 6) (N := 7) rfl rfl rfl hC6.1.1 (by decide) (v := .ref g) hC6.2.1 ?_
    refine r_getf act (gx gp_60 (w := 0x144001604) rfl (by decide) rfl) (n := 22) (ci := 4) (j := 5) (N := 18) rfl rfl rfl hC6.2.2.2.1.1.2.1 (by decide) (v := .int (F 0 5)) (hC6.2.2.2.1.2 0 5 (Or.inl ⟨rfl, by decide⟩)) ?_
    refine g_storeI act (gx gp_60 (w := 0x2001710) rfl (by decide) rfl) (a := 2) (n := 23) rfl rfl (L2 := [some (.ref 0), some (.int i), some (.int (F 0 5))]) rfl ?_
    refine g_loadA act (gx gp_60 (w := 0x1803) rfl (by decide) rfl) (a := 0) (n := 24) rfl rfl rfl ?_
    have ap1 : ∀ k, k < h6.length → (h6 ++ [((8, 5, fun j => dv (ftX 8 j)) : CE)])[k]? = h6[k]? := fun k q => List.getElem?_append_left q
    have sn1 : shp (h6 ++ [((8, 5, fun j => dv (ftX 8 j)) : CE)]) h6.length = some (8, 5) := shp_newc h6 _
    have ln1 : (h6 ++ [((8, 5, fun j => dv (ftX 8 j)) : CE)]).length = h6.length + 1 := by rw [List.length_append]; rfl
    refine r_new act (gx gp_60 (w := 0x5000008001b28) rfl (by decide) rfl) (n := 27) (ci := 8) (N := 5) (by decide) (by decide) (by omega) (by show kc6 + 1 ≤ _; omega) (by show ks6 + 5 ≤ _; omega) rfl ?_
    generalize (h6 ++ [((8, 5, fun j => dv (ftX 8 j)) : CE)]) = h1 at *
    have hC1 := hC6.app ap1
    refine g_dup act (gx gp_60 (w := 0x1c22) rfl (by decide) rfl) (n := 28) rfl rfl ?_
    refine g_constI act (gx gp_60 (w := 0x40000002400000021000000001d01) rfl (by decide) rfl) (n := 29) (x := (4 : Int32)) (by decide) rfl ?_
    refine g_constI act (gx gp_60 (w := 0x3fffffffbfffffff9000000001e01) rfl (by decide) rfl) (n := 30) (x := (-1 : Int32)) (by decide) rfl ?_
    refine g_constI act (gx gp_60 (w := 0x3fffffffbfffffff9000000001f01) rfl (by decide) rfl) (n := 31) (x := (-1 : Int32)) (by decide) rfl ?_
    refine g_loadI act (gx gp_60 (w := 0x2002002) rfl (by decide) rfl) (a := 2) (n := 32) rfl rfl rfl ?_
    refine g_constI act (gx gp_60 (w := 0x3fffffffbfffffff9000000002101) rfl (by decide) rfl) (n := 33) (x := (-1 : Int32)) (by decide) rfl ?_
    refine n_call tb_pres act hEnd (gx (P := G_call) gp_60 (w := 0x8186600004500240f) rfl (by decide) rfl) (d' := D_69) rfl (f' := 1) (lam' := 12) (mc := 0) (ms := 0) (as := [.ref h6.length, .int (4 : Int32), .int (-1 : Int32), .int (-1 : Int32), .int (F 0 5), .int (-1 : Int32)]) (rest := [.ref h6.length, .ref 0]) (cx_chg sn1) (show (6 : Nat) = fb 0x8186600004500240f % 16 by decide) (by show (6 : Nat) ≤ 6; decide) (fun _ => ⟨_, _, rfl, _, shp_at sn1, Or.inl (show fb 0x8186600004500240f >>> 68 = 0 by decide)⟩) (by omega) (by show 8 + (6 + 11) + 12 ≤ R.locals; omega) (by show (2 : Nat) ≤ 8; decide) (by show kc6 + 1 + 0 ≤ _; omega) (by show ks6 + 5 + 0 ≤ _; omega) (fun r9 h2 hpo hr9 => ?_) (fun x9 hs9 hx9 hpo => ?_)
    · obtain rfl : r9 = none := hr9.elim (fun q => q.2) (fun q => absurd rfl q.1)
      obtain ⟨-, -, he2, f2⟩ := hpo
      have f2 : FrS (WK1 h6.length) h1 h2 := f2
      have ap2 : ∀ k, k < h6.length → h2[k]? = h6[k]? := fun k q => (frs_cell f2 (by omega) (fun j z => by unfold WK1 at z; omega)).trans (ap1 k q)
      have ln2 : h2.length = h6.length + 1 := f2.1.trans ln1
      have hC2 := hC6.app ap2
      have hL2 := hL6.app ap2
      have l148 : 148 ≤ h2.length := by omega
      have l7 : h2.length + 1 ≤ 6999999999999 := by omega
      rw [show (4 : Int32).toInt = 4 from by decide, show (-1 : Int32).toInt = -1 from by decide, a5] at he2
      show WpN (gp g0 wp) CLS p l e R sW m args below meth cW Q D_60.2.2.1 kc0 ks0 36 [some (.ref 0), some (.int i), some (.int (F 0 5))] (h2, kc6 + 1, ks6 + 5) [.ref h6.length, .ref 0]
      refine n_call tb_pres act hEnd (gx (P := G_call) gp_60 (w := 0x10000000000008082200003300270f) rfl (by decide) rfl) (d' := D_51) rfl (f' := 5) (lam' := 113) (mc := 1) (ms := 11) (as := [.ref 0, .ref h6.length]) (rest := []) (cx_remb hTY9 l148 l7 hC2.1 hL2 he2) (show (2 : Nat) = fb 0x10000000000008082200003300270f % 16 by decide) (by show (2 : Nat) ≤ 2; decide) (fun _ => ⟨_, _, rfl, _, shp_at hC2.1.1, Or.inr (show fb 0x10000000000008082200003300270f >>> 68 = 1 by decide)⟩) (by omega) (by show 8 + (2 + 11) + 113 ≤ R.locals; omega) (by show (0 : Nat) ≤ 8; decide) (by show kc6 + 1 + 1 ≤ _; omega) (by show ks6 + 5 + 11 ≤ _; omega) (fun r9 h3 hpo hr9 => ?_) (fun x9 hs9 hx9 hpo => ?_)
      · obtain rfl : r9 = none := hr9.elim (fun q => q.2) (fun q => absurd rfl q.1)
        obtain ⟨-, -, ⟨ka, hA3⟩, lo3, hi3, k3, P3, hN3⟩ := hpo
        have hi3 : h3.length ≤ h2.length + 1 := hi3
        have lo3 : h2.length ≤ h3.length := lo3
        have k3 : KPR h2 h3 := k3
        have hC3 := hC2.rmb hL2 (by omega) k3 P3
        have eq3 := hC2.rmb_eq hL2 (by omega) k3
        have hT3 : TRS h3 fv o nl := (hT6.cells (rd_of (ap2 1 (hC6.lt (by omega))) 0) (rd_of (ap2 18 (hC6.lt (by omega))) 0)).cells (rd_of (eq3 1 (by omega)) 0) (rd_of (eq3 18 (by omega)) 0)
        have hK3 : KPS g hs h3 := fun k q1 q2 q3 q4 q5 q7 q6 => (k3 k (by omega) q2 q3 (fun a z => q6 a ((((rd_of (ap2 35 (shp_lt hL6.s35)) 0).trans e356)).symm.trans z))).trans ((ap2 k (by omega)).trans (hK6 k q1 q2 q3 q4 q5 q7 q6))
        show WpN (gp g0 wp) CLS p l e R sW m args below meth cW Q D_60.2.2.1 kc0 ks0 39 [some (.ref 0), some (.int i), some (.int (F 0 5))] (h3, kc6 + 1 + 1, ks6 + 5 + 11) []
        refine g_loadA act (gx gp_60 (w := 0x2803) rfl (by decide) rfl) (a := 0) (n := 40) rfl rfl rfl ?_
        refine r_getf act (gx gp_60 (w := 0x3000180002b04) rfl (by decide) rfl) (n := 43) (ci := 0) (j := 6) (N := 7) rfl rfl rfl hC3.1.1 (by decide) (v := .ref g) hC3.2.1 ?_
        refine g_loadI act (gx gp_60 (w := 0x1002c02) rfl (by decide) rfl) (a := 1) (n := 44) rfl rfl rfl ?_
        refine r_putf act (gx gp_60 (w := 0x144002f13) rfl (by decide) rfl) (n := 47) (ci := 4) (j := 5) (N := 18) rfl rfl rfl hC3.2.2.2.1.1.2.1 (by decide) (Or.inl ⟨rfl, _, rfl⟩) ?_
        show WpN (gp g0 wp) CLS p l e R sW m args below meth cW Q D_60.2.2.1 kc0 ks0 47 [some (.ref 0), some (.int i), some (.int (F 0 5))] ((wr h3 (g + 0) 5 (.int i)), kc6 + 1 + 1, ks6 + 5 + 11) []
        have hC4 : CLN (wr h3 (g + 0) 5 (.int i)) tx L ec ep g (upF F 0 5 i) fv gv (Int32.toInt i) nl ng nr n := hC3.pw (by unfold gpl; omega) (REL.out hC3.2.2.2.2.1 (rfl : Int32.toInt i = _)) (show SPR fv i.toInt nl ng nr n from ⟨w0, w1, w2, w3, w4, w5, w6, w7, w8, w9, wa, by omega, by omega, wd, we⟩)
        have hA4 := hA3.gwr (v := .int i) hC3.2.2.2.1.1 (show gpl 0 5 from (by unfold gpl; omega))
        have hK4 := hK3.gwr (a := 0) (j := 5) (v := .int i) (by omega)
        have ln4 : (wr h3 (g + 0) 5 (.int i)).length = h3.length := wr_len _ _ _ _
        have hN4 := hN3.gwr (a := 0) (j := 5) (v := .int i) hC3.g0
        have hT4 := hT3.gwr (a := 0) (j := 5) (v := .int i) hC3.g0
        generalize (wr h3 (g + 0) 5 (.int i)) = h4 at *
        refine g_loadA act (gx gp_60 (w := 0x3003) rfl (by decide) rfl) (a := 0) (n := 48) rfl rfl rfl ?_
        refine n_call tb_pres act hEnd (gx (P := G_call) gp_60 (w := 0x10000000000008041100001000330f) rfl (by decide) rfl) (d' := D_16) rfl (f' := 3) (lam' := 74) (mc := 0) (ms := 0) (as := [.ref 0]) (rest := []) (cx_factors hC4.1.1 hC4.1.2.2.2.1 hC4.1.2.2.2.2.1 hC4.2.1 hC4.2.2.2.2.2.2.1 hC4.2.2.2.2.2.2.2.1 hC4.2.2.2.1 hC4.2.2.2.2.1 w5 w6 (by omega) (by omega) wd) (show (1 : Nat) = fb 0x10000000000008041100001000330f % 16 by decide) (by show (1 : Nat) ≤ 1; decide) (fun _ => ⟨_, _, rfl, _, shp_at hC4.1.1, Or.inr (show fb 0x10000000000008041100001000330f >>> 68 = 1 by decide)⟩) (by omega) (by show 8 + (1 + 11) + 74 ≤ R.locals; omega) (by show (0 : Nat) ≤ 8; decide) (by show kc6 + 1 + 1 + 0 ≤ _; omega) (by show ks6 + 5 + 11 + 0 ≤ _; omega) (fun r9 h9 hpo hr9 => ?_) (fun x9 hs9 hx9 hpo => ?_)
        · obtain rfl : r9 = none := hr9.elim (fun q => q.2) (fun q => absurd rfl q.1)
          obtain ⟨-, -, hF1, hF18, t1, t18, -, f9⟩ := hpo
          have hC9 := hC4.fac f9 hF1 hF18
          have hA9 := hA4.fac f9 hC4.2.2.2.2.2.2.1 hC4.2.2.2.2.2.2.2.1
          have hK9 := hK4.fac (by omega) f9
          have ln9 : h9.length = h4.length := f9.1
          have hT9 : TRS h9 fv (Int32.toInt i) nl := ⟨t1, t18⟩
          have hN9 := hN4.fac f9
          show WpN (gp g0 wp) CLS p l e R sW m args below meth cW Q D_60.2.2.1 kc0 ks0 51 [some (.ref 0), some (.int i), some (.int (F 0 5))] (h9, kc6 + 1 + 1, ks6 + 5 + 11) []
          refine g_loadI act (gx gp_60 (w := 0x2003402) rfl (by decide) rfl) (a := 2) (n := 52) rfl rfl rfl ?_
          have lf1 : hs.length ≤ h9.length := by omega
          have lf2 : h9.length ≤ hs.length + 2 := by omega
          exact g_retI hEnd (gx gp_60 (w := 0x2f) rfl (by decide) rfl) (Or.inl ⟨rfl, hok, ⟨_, rfl, a5⟩, ⟨_, hC9⟩, hT9, ⟨ka, hA9⟩, lf1, lf2, hK9, hN9⟩) (by show kc6 + 1 + 1 ≤ kc + 5; omega) (by show ks6 + 5 + 11 ≤ ks + 55; omega)
        · exact absurd hpo.1 (by omega)
      · exact absurd hpo.1 (by omega)
    · exact absurd hpo.1 (by omega)
  show WpN (gp g0 wp) CLS p l e R sW m args below meth cW Q D_60.2.2.1 kc0 ks0 0 [some (.ref 0), some (.int i), none] (hs, kc, ks) []
  refine g_loadI act (gx gp_60 (w := 0x1000102) rfl (by decide) rfl) (a := 1) (n := 1) rfl rfl rfl ?_
  refine g_constI act (gx gp_60 (w := 0x3fffffffbfffffff9000000000201) rfl (by decide) rfl) (n := 2) (x := (-1 : Int32)) (by decide) rfl ?_
  refine g_icmpEq act (gx gp_60 (w := 0xf00052e) rfl (by decide) rfl) (tgt := 15) (n := 5) rfl rfl (fun h3 => ?_) (fun h3 => ?_)
  · simp only [i_eq, show (-1 : Int32).toInt = -1 from by decide] at h3
    exact t15 hs kc ks hC hT hL hK0 rfl rfl (Or.inl (by omega)) (by omega) (by omega)
  · simp only [i_eq, show (-1 : Int32).toInt = -1 from by decide] at h3
    refine g_loadA act (gx gp_60 (w := 0x603) rfl (by decide) rfl) (a := 0) (n := 6) rfl rfl rfl ?_
    refine g_loadI act (gx gp_60 (w := 0x1000702) rfl (by decide) rfl) (a := 1) (n := 7) rfl rfl rfl ?_
    refine n_call tb_pres act hEnd (gx (P := G_call) gp_60 (w := 0x10000000000008082200000a000a0f) rfl (by decide) rfl) (d' := D_10) rfl (as := [.ref 0, .int i]) (rest := []) (cc_chk2 hC.1.1 hC.2.1 hC.2.2.2.1.1.2.1 (hC.2.2.2.1.2 0 2 (Or.inl ⟨rfl, by decide⟩))) (show (2 : Nat) = fb 0x10000000000008082200000a000a0f % 16 by decide) (by show (2 : Nat) ≤ 2; decide) (fun _ => ⟨_, _, rfl, _, shp_at hC.1.1, Or.inr (show fb 0x10000000000008082200000a000a0f >>> 68 = 1 by decide)⟩) (by omega) (by show 8 + (2 + 11) + 141 ≤ R.locals; omega) (by show (0 : Nat) ≤ 8; decide) (by show kc + 1 ≤ _; omega) (by show ks + 11 ≤ _; omega) (fun r9 hs9 hpo hr9 => ?_) (fun x9 hs9 hx9 hpo => ?_)
    · obtain rfl : r9 = none := hr9.elim (fun q => q.2) (fun q => absurd rfl q.1)
      obtain ⟨rfl, hq1⟩ := hpo
      obtain ⟨-, q1a, q1b⟩ := hq1.resolve_right (fun z => absurd z.1 (by decide))
      show WpN (gp g0 wp) CLS p l e R sW m args below meth cW Q D_60.2.2.1 kc0 ks0 10 [some (.ref 0), some (.int i), none] (hs, kc + 1, ks + 11) []
      refine g_loadA act (gx gp_60 (w := 0xb03) rfl (by decide) rfl) (a := 0) (n := 11) rfl rfl rfl ?_
      refine g_loadI act (gx gp_60 (w := 0x1000c02) rfl (by decide) rfl) (a := 1) (n := 12) rfl rfl rfl ?_
      refine n_call tb_pres act hEnd (gx (P := G_call) gp_60 (w := 0x10000000000008082200000f000f0f) rfl (by decide) rfl) (d' := D_15) rfl (f' := 8) (lam' := 120) (mc := 1) (ms := 11) (as := [.ref 0, .int i]) (rest := []) (cc_spare hC) (show (2 : Nat) = fb 0x10000000000008082200000f000f0f % 16 by decide) (by show (2 : Nat) ≤ 2; decide) (fun _ => ⟨_, _, rfl, _, shp_at hC.1.1, Or.inr (show fb 0x10000000000008082200000f000f0f >>> 68 = 1 by decide)⟩) (by omega) (by show 8 + (2 + 11) + 120 ≤ R.locals; omega) (by show (0 : Nat) ≤ 8; decide) (by show kc + 1 + 1 ≤ _; omega) (by show ks + 11 + 11 ≤ _; omega) (fun r9 h6 hpo hr9 => ?_) (fun x9 hs9 hx9 hpo => ?_)
      · obtain rfl : r9 = none := hr9.elim (fun q => q.2) (fun q => absurd rfl q.1)
        obtain ⟨-, hF6, f6, hq2⟩ := hpo
        obtain ⟨-, hcut⟩ := hq2.resolve_right (fun z => absurd z.1 (by decide))
        show WpN (gp g0 wp) CLS p l e R sW m args below meth cW Q D_60.2.2.1 kc0 ks0 15 [some (.ref 0), some (.int i), none] (h6, kc + 1 + 1, ks + 11 + 11) []
        exact t15 h6 _ _ (hC.con f6 hF6) (hT.cells (f6.2.2 1 0 (fun z => by unfold WFr at z; omega)) (f6.2.2 18 0 (fun z => by unfold WFr at z; omega))) (hL.con f6 hC.2.2.2.2.2.2.2.2) (KPS.con f6) (f6.2.2 35 0 (fun z => by unfold WFr at z; omega)) f6.1 (Or.inr ⟨⟨by omega, by omega⟩, hcut⟩) (by omega) (by omega)
      · obtain ⟨-, hF6, f6, hq2⟩ := hpo
        obtain ⟨hx1, hcut⟩ := hq2.resolve_left (fun z => by have := z.1; omega)
        obtain rfl : x9 = 2 := by omega
        refine Or.inr ⟨rfl, Or.inr (Or.inr ⟨rfl, rfl, ⟨by omega, by omega⟩, hcut, hC.con f6 hF6, hT.cells (f6.2.2 1 0 (fun z => by unfold WFr at z; omega)) (f6.2.2 18 0 (fun z => by unfold WFr at z; omega)), hL.con f6 hC.2.2.2.2.2.2.2.2, KPS.con f6, f6.1, frs_cell f6 (hC.lt (by omega)) (fun j z => by unfold WFr at z; omega)⟩), by show kc + 2 ≤ kc + 5; omega, by show ks + 22 ≤ ks + 55; omega⟩
    · obtain ⟨rfl, hq1⟩ := hpo
      obtain ⟨hx1, hq1n⟩ := hq1.resolve_left (fun z => by omega)
      obtain rfl : x9 = 1 := by omega
      refine Or.inr ⟨rfl, Or.inr (Or.inl ⟨rfl, rfl, by omega, by omega, rfl⟩), by show kc + 1 ≤ kc + 5; omega, by show ks + 11 ≤ ks + 55; omega⟩

end SETO

section UNDX
variable {g0 : GG} {bl : Nat} {xs : Nat → Int32} {l : Launch} {hs : List CE} {tx : Nat → Int} {L ec ep : Int} {g : Nat} {F : Nat → Nat → Int32} {fv gv : Nat → Int} {o : Int} {nl ng nr n nc : Nat} {ch : Nat → Nat → Int}
theorem cx_undo (hTY9 : TYg g0) (h148 : 148 ≤ hs.length) (hlen : hs.length + 3 ≤ 6999999999999) (hC : CLN hs tx L ec ep g F fv gv o nl ng nr n) (hT : TRS hs fv o nl) (hL : LSC hs nc ch) (ho : gv 38 = o) (hgd : 1 ≤ nc → CGd (ch (nc - 1)) ∧ SPR fv (upC (ch (nc - 1)) gv 38) nl ng nr n) : BodyN SSX TBL g0 CLS bl xs l D_68 8 120 1 11 [.ref 0] hs (fun kd r h2 => (kd = 1 ∧ r = none ∧ nc = 0 ∧ hs = h2) ∨ (kd = 0 ∧ 1 ≤ nc ∧ (∃ x : Int32, r = some (.int x) ∧ x.toInt = (nc : Int) - 1) ∧ COk hs h2 tx L ec ep g fv (upC (ch (nc - 1)) gv) (upC (ch (nc - 1)) gv 38) nl ng nr n (nc - 1) ch)) := by
  intro wp p e R sW m args below meth cW Q kc0 ks0 kc ks act hf hl hc hsl hEnd
  have hf : 8 ≤ R.frames := hf
  have hl : 120 ≤ R.locals := hl
  obtain ⟨n9, h35, e1, hn9⟩ : ∃ x : Int32, shp hs 35 = some (10, 3) ∧ rd hs 35 1 = .int x ∧ x.toInt = (nc : Int) := by
    obtain ⟨-, ⟨q1, -, q2, -, q3⟩ | ⟨ka, q⟩⟩ := hL
    · exact ⟨0, q1, q2, by rw [q3]; rfl⟩
    · obtain ⟨x, q2, q3⟩ := q.2.2.1
      exact ⟨x, q.1, q2, q3⟩
  show WpN (gp g0 wp) CLS p l e R sW m args below meth cW Q D_68.2.2.1 kc0 ks0 0 [some (.ref 0)] (hs, kc, ks) []
  refine g_loadA act (gx gp_68 (w := 0x103) rfl (by decide) rfl) (a := 0) (n := 1) rfl rfl rfl ?_
  refine r_getf act (gx gp_68 (w := 0x3000100000404) rfl (by decide) rfl) (n := 4) (ci := 0) (j := 4) (N := 7) rfl rfl rfl hC.1.1 (by decide) (v := .ref 35) hC.1.2.2.2.2.2.1 ?_
  refine n_call tb_pres act hEnd (gx (P := G_call) gp_68 (w := 0xb000000000000c041100012b00070f) rfl (by decide) rfl) (d' := D_299) rfl (f' := 0) (lam' := 0) (mc := 0) (ms := 0) (as := [.ref 35]) (rest := []) (b_ise h35 e1) (show (1 : Nat) = fb 0xb000000000000c041100012b00070f % 16 by decide) (by show (1 : Nat) ≤ 1; decide) (fun _ => ⟨_, _, rfl, _, shp_at h35, Or.inr (show fb 0xb000000000000c041100012b00070f >>> 68 = 11 by decide)⟩) (by omega) (by show 8 + (1 + 11) + 0 ≤ R.locals; omega) (by show (0 : Nat) ≤ 8; decide) (by show kc + 0 ≤ _; omega) (by show ks + 0 ≤ _; omega) (fun r9 hs9 hpo hr9 => ?_) (fun x9 hs9 hx9 hpo => ?_)
  · obtain ⟨-, rfl, ev, rfl, hev⟩ := hpo
    show WpN (gp g0 wp) CLS p l e R sW m args below meth cW Q D_68.2.2.1 kc0 ks0 7 [some (.ref 0)] (hs, kc, ks) [.int ev]
    refine g_ifEq act (gx gp_68 (w := 0x14000a0e) rfl (by decide) rfl) (tgt := 20) (n := 10) rfl rfl (fun h2 => ?_) (fun h2 => ?_)
    · simp only [i_eq, i0] at h2
      have hnc : 1 ≤ nc := by omega
      have hgd := hgd hnc
      obtain ⟨ka, hA0⟩ : ∃ ka : Nat, LSA hs ka nc ch := by
        obtain ⟨-, ⟨-, -, -, -, z⟩ | q⟩ := hL
        · omega
        · exact q
      have hm10 : nc - 1 + 1 ≤ 10 := by have := hL.1; omega
      have hA : LSA hs ka (nc - 1 + 1) ch := by rw [show nc - 1 + 1 = nc by omega]; exact hA0
      have hn1 : (n9 - (1 : Int32)).toInt = ((nc - 1 : Nat) : Int) := (iv_sub hn9 (show (1 : Int32).toInt = 1 from by decide) (by omega) (by have := hL.1; omega)).trans (by omega)
      refine g_loadA act (gx gp_68 (w := 0x1503) rfl (by decide) rfl) (a := 0) (n := 21) rfl rfl rfl ?_
      refine g_loadA act (gx gp_68 (w := 0x1603) rfl (by decide) rfl) (a := 0) (n := 22) rfl rfl rfl ?_
      refine r_getf act (gx gp_68 (w := 0x3000100001904) rfl (by decide) rfl) (n := 25) (ci := 0) (j := 4) (N := 7) rfl rfl rfl hC.1.1 (by decide) (v := .ref 35) hC.1.2.2.2.2.2.1 ?_
      refine g_loadA act (gx gp_68 (w := 0x1a03) rfl (by decide) rfl) (a := 0) (n := 26) rfl rfl rfl ?_
      refine r_getf act (gx gp_68 (w := 0x3000100001d04) rfl (by decide) rfl) (n := 29) (ci := 0) (j := 4) (N := 7) rfl rfl rfl hC.1.1 (by decide) (v := .ref 35) hC.1.2.2.2.2.2.1 ?_
      refine n_call tb_pres act hEnd (gx (P := G_call) gp_68 (w := 0xb000000000000c041100012d00200f) rfl (by decide) rfl) (d' := D_301) rfl (f' := 0) (lam' := 0) (mc := 0) (ms := 0) (as := [.ref 35]) (rest := [.ref 35, .ref 0]) (b_siz (n9 := n9) h35 e1) (show (1 : Nat) = fb 0xb000000000000c041100012d00200f % 16 by decide) (by show (1 : Nat) ≤ 1; decide) (fun _ => ⟨_, _, rfl, _, shp_at h35, Or.inr (show fb 0xb000000000000c041100012d00200f >>> 68 = 11 by decide)⟩) (by omega) (by show 8 + (1 + 11) + 0 ≤ R.locals; omega) (by show (2 : Nat) ≤ 8; decide) (by show kc + 0 ≤ _; omega) (by show ks + 0 ≤ _; omega) (fun r9 h9 hpo hr9 => ?_) (fun x9 hs9 hx9 hpo => ?_)
      · obtain ⟨-, rfl, rfl⟩ := hpo
        show WpN (gp g0 wp) CLS p l e R sW m args below meth cW Q D_68.2.2.1 kc0 ks0 32 [some (.ref 0)] (hs, kc, ks) [.int n9, .ref 35, .ref 0]
        refine g_constI act (gx gp_68 (w := 0x40000000c00000009000000002101) rfl (by decide) rfl) (n := 33) (x := (1 : Int32)) (by decide) rfl ?_
        refine g_isub act (gx gp_68 (w := 0x2226) rfl (by decide) rfl) (n := 34) rfl ?_
        refine n_call tb_pres act hEnd (gx (P := G_call) gp_68 (w := 0xb000000000000c102200012c00250f) rfl (by decide) rfl) (d' := D_300) rfl (f' := 3) (lam' := 90) (mc := 0) (ms := 0) (as := [.ref 35, .int (n9 - (1 : Int32))]) (rest := [.ref 0]) (cx_rml hA hm10 hn1) (show (2 : Nat) = fb 0xb000000000000c102200012c00250f % 16 by decide) (by show (2 : Nat) ≤ 4; decide) (fun _ => ⟨_, _, rfl, _, shp_at h35, Or.inr (show fb 0xb000000000000c102200012c00250f >>> 68 = 11 by decide)⟩) (by omega) (by show 8 + (4 + 11) + 90 ≤ R.locals; omega) (by show (1 : Nat) ≤ 8; decide) (by show kc + 0 ≤ _; omega) (by show ks + 0 ≤ _; omega) (fun r9 h1 hpo hr9 => ?_) (fun x9 hs9 hx9 hpo => ?_)
        · obtain ⟨-, ⟨kc9, rfl, he⟩, hA1, f1⟩ := hpo
          have f1 : FrS (WLs ka) hs h1 := f1
          have gg0 := hC.g0
          have eq1 : ∀ k, k = 0 ∨ k = 36 ∨ (1 ≤ k ∧ k ≤ 34) ∨ (54 ≤ k ∧ k ≤ 72) ∨ (g ≤ k ∧ k ≤ g + 16) → h1[k]? = hs[k]? := fun k hk => frs_cell f1 (hC.lt hk) (fun j z => by
            rcases z with z | z
            · omega
            · obtain ⟨c2, N2, e2, q2⟩ | hk2 : (∃ c N : Nat, shp hs k = some (c, N) ∧ (c = 4 ∨ c = 32 ∨ c = 37)) ∨ k < 148 := by
                by_cases q9 : g ≤ k ∧ k ≤ g + 16
                · exact Or.inl (hC.2.2.2.1.1.kd2 q9.1 q9.2)
                · exact Or.inr (by omega)
              · rw [z, hA.2.2.2.2.2.1] at e2
                cases e2
                omega
              · have := hA.2.2.2.2.1; omega)
          have hC1 := hC.cells (eq1 0 (by omega)) ((f1.2.1 36).trans hC.1.2.2.2.2.2.2.2) (fun k hk => eq1 k (by omega))
          have hT1 := hT.cells (rd_of (eq1 1 (by omega)) 0) (rd_of (eq1 18 (by omega)) 0)
          have hK1 : KPS g hs h1 := KPS.ls f1 hA.2.2.2.1
          have r1 : rd h1 35 0 = rd hs 35 0 := hA1.2.2.2.1.trans hA.2.2.2.1.symm
          show WpN (gp g0 wp) CLS p l e R sW m args below meth cW Q D_68.2.2.1 kc0 ks0 37 [some (.ref 0)] (h1, kc, ks) [.ref kc9, .ref 0]
          refine n_cast act (ix := 165) (ci := 8) (N := 5) (rc := C_8) rfl (by decide) he.1 tw_854 (by decide +kernel) (n := 40) rfl ?_
          refine n_call tb_pres act hEnd (gx (P := G_call) gp_68 (w := 0x10000000000008082200003f002b0f) rfl (by decide) rfl) (d' := D_63) rfl (f' := 0) (lam' := 0) (mc := 0) (ms := 0) (as := [.ref 0, .ref kc9]) (rest := []) (cx_tkb hC1 ho hT1 hA1 he hgd.1 hgd.2) (show (2 : Nat) = fb 0x10000000000008082200003f002b0f % 16 by decide) (by show (2 : Nat) ≤ 2; decide) (fun _ => ⟨_, _, rfl, _, shp_at hC1.1.1, Or.inr (show fb 0x10000000000008082200003f002b0f >>> 68 = 1 by decide)⟩) (by omega) (by show 8 + (2 + 11) + 0 ≤ R.locals; omega) (by show (0 : Nat) ≤ 8; decide) (by show kc + 0 ≤ _; omega) (by show ks + 0 ≤ _; omega) (fun r9 h2 hpo hr9 => ?_) (fun x9 hs9 hx9 hpo => ?_)
          · obtain rfl : r9 = none := hr9.elim (fun q => q.2) (fun q => absurd rfl q.1)
            obtain ⟨-, -, ⟨F2, hC2⟩, -, hA2, l2, k2⟩ := hpo
            have k2 : KPS g h1 h2 := k2
            have l2 : h2.length = h1.length := l2
            have hK2 : KPS g hs h2 := hK1.tr (by rw [f1.1]; exact Nat.le_refl _) r1 k2
            obtain ⟨v0, v1, v2, v3, v4, v5, v6, v7, v8, v9, va, vb, vc, vd, ve⟩ := id hC2.2.2.2.2.2.1
            show WpN (gp g0 wp) CLS p l e R sW m args below meth cW Q D_68.2.2.1 kc0 ks0 43 [some (.ref 0)] (h2, kc, ks) []
            refine g_loadA act (gx gp_68 (w := 0x2c03) rfl (by decide) rfl) (a := 0) (n := 44) rfl rfl rfl ?_
            refine n_call tb_pres act hEnd (gx (P := G_call) gp_68 (w := 0x100000000000080411000010002f0f) rfl (by decide) rfl) (d' := D_16) rfl (f' := 3) (lam' := 74) (mc := 0) (ms := 0) (as := [.ref 0]) (rest := []) (cx_factors hC2.1.1 hC2.1.2.2.2.1 hC2.1.2.2.2.2.1 hC2.2.1 hC2.2.2.2.2.2.2.1 hC2.2.2.2.2.2.2.2.1 hC2.2.2.2.1 hC2.2.2.2.2.1 v5 v6 (by omega) (by omega) vd) (show (1 : Nat) = fb 0x100000000000080411000010002f0f % 16 by decide) (by show (1 : Nat) ≤ 1; decide) (fun _ => ⟨_, _, rfl, _, shp_at hC2.1.1, Or.inr (show fb 0x100000000000080411000010002f0f >>> 68 = 1 by decide)⟩) (by omega) (by show 8 + (1 + 11) + 74 ≤ R.locals; omega) (by show (0 : Nat) ≤ 8; decide) (by show kc + 0 ≤ _; omega) (by show ks + 0 ≤ _; omega) (fun r9 h3 hpo hr9 => ?_) (fun x9 hs9 hx9 hpo => ?_)
            · obtain rfl : r9 = none := hr9.elim (fun q => q.2) (fun q => absurd rfl q.1)
              obtain ⟨-, -, hF1, hF18, t1, t18, -, f3⟩ := hpo
              have f3 : FrS W118 h2 h3 := f3
              have hC3 := hC2.fac f3 hF1 hF18
              have hA3 := hA2.fac f3 hC2.2.2.2.2.2.2.1 hC2.2.2.2.2.2.2.2.1
              have hK3 := hK2.fac (by have := f1.1; omega) f3
              have hT3 : TRS h3 fv (upC (ch (nc - 1)) gv 38) nl := ⟨t1, t18⟩
              show WpN (gp g0 wp) CLS p l e R sW m args below meth cW Q D_68.2.2.1 kc0 ks0 47 [some (.ref 0)] (h3, kc, ks) []
              refine g_loadA act (gx gp_68 (w := 0x3003) rfl (by decide) rfl) (a := 0) (n := 48) rfl rfl rfl ?_
              refine n_call tb_pres act hEnd (gx (P := G_call) gp_68 (w := 0x10000000000008081100001e00330f) rfl (by decide) rfl) (d' := D_30) rfl (f' := 0) (lam' := 0) (mc := 0) (ms := 0) (as := [.ref 0]) (rest := []) (cx_forget hC3.1.1 hC3.1.2.2.2.2.2.2.2 hC3.1.2.2.2.2.2.2.1) (show (1 : Nat) = fb 0x10000000000008081100001e00330f % 16 by decide) (by show (1 : Nat) ≤ 2; decide) (fun _ => ⟨_, _, rfl, _, shp_at hC3.1.1, Or.inr (show fb 0x10000000000008081100001e00330f >>> 68 = 1 by decide)⟩) (by omega) (by show 8 + (2 + 11) + 0 ≤ R.locals; omega) (by show (0 : Nat) ≤ 8; decide) (by show kc + 0 ≤ _; omega) (by show ks + 0 ≤ _; omega) (fun r9 h4 hpo hr9 => ?_) (fun x9 hs9 hx9 hpo => ?_)
              · obtain rfl : r9 = none := hr9.elim (fun q => q.2) (fun q => absurd rfl q.1)
                obtain ⟨-, -, f4, n4n⟩ := hpo
                have f4 : FrS W36 h3 h4 := f4
                have hC4 := hC3.frg f4
                have hA4 := hA3.fr f4 (fun k j z => z) ⟨4, hC3.1.2.2.2.2.2.2.2⟩
                have ll : h4.length = hs.length := f4.1.trans (f3.1.trans (l2.trans f1.1))
                have hK4 := hK3.frg (by have := f4.1; omega) f4
                have hT4 := hT3.cells (f4.2.2 1 0 (fun z => by unfold W36 at z; omega)) (f4.2.2 18 0 (fun z => by unfold W36 at z; omega))
                obtain ⟨n4, e4, hn4⟩ := id hA4.2.2.1
                show WpN (gp g0 wp) CLS p l e R sW m args below meth cW Q D_68.2.2.1 kc0 ks0 51 [some (.ref 0)] (h4, kc, ks) []
                refine g_loadA act (gx gp_68 (w := 0x3403) rfl (by decide) rfl) (a := 0) (n := 52) rfl rfl rfl ?_
                refine r_getf act (gx gp_68 (w := 0x3000100003704) rfl (by decide) rfl) (n := 55) (ci := 0) (j := 4) (N := 7) rfl rfl rfl hC4.1.1 (by decide) (v := .ref 35) hC4.1.2.2.2.2.2.1 ?_
                refine n_call tb_pres act hEnd (gx (P := G_call) gp_68 (w := 0xb000000000000c041100012d003a0f) rfl (by decide) rfl) (d' := D_301) rfl (f' := 0) (lam' := 0) (mc := 0) (ms := 0) (as := [.ref 35]) (rest := []) (b_siz (n9 := n4) hA4.1 e4) (show (1 : Nat) = fb 0xb000000000000c041100012d003a0f % 16 by decide) (by show (1 : Nat) ≤ 1; decide) (fun _ => ⟨_, _, rfl, _, shp_at hA4.1, Or.inr (show fb 0xb000000000000c041100012d003a0f >>> 68 = 11 by decide)⟩) (by omega) (by show 8 + (1 + 11) + 0 ≤ R.locals; omega) (by show (0 : Nat) ≤ 8; decide) (by show kc + 0 ≤ _; omega) (by show ks + 0 ≤ _; omega) (fun r9 h9 hpo hr9 => ?_) (fun x9 hs9 hx9 hpo => ?_)
                · obtain ⟨-, rfl, rfl⟩ := hpo
                  show WpN (gp g0 wp) CLS p l e R sW m args below meth cW Q D_68.2.2.1 kc0 ks0 58 [some (.ref 0)] (h4, kc, ks) [.int n4]
                  have lf1 : hs.length ≤ h4.length := by omega
                  have lf2 : h4.length ≤ hs.length + 2 := by omega
                  exact g_retI hEnd (gx gp_68 (w := 0x2f) rfl (by decide) rfl) (Or.inr ⟨rfl, hnc, ⟨_, rfl, by omega⟩, ⟨_, hC4⟩, hT4, ⟨ka, hA4⟩, lf1, lf2, hK4, n4n⟩) (by show kc ≤ kc + 1; omega) (by show ks ≤ ks + 11; omega)
                · exact absurd hpo.1 (by omega)
              · exact absurd hpo.1 (by omega)
            · exact absurd hpo.1 (by omega)
          · exact absurd hpo.1 (by omega)
        · exact absurd hpo.1 (by omega)
      · exact absurd hpo.1 (by omega)
    · simp only [i_eq, i0] at h2
      exact g_throw hEnd (gx gp_68 (w := 0x38) rfl (by decide) rfl) (x := 0) rfl (Or.inl ⟨rfl, rfl, by omega, rfl⟩) (by show kc + 1 ≤ kc + 1; omega) (by show ks + 6 ≤ ks + 11; omega) (by decide) (by decide)
  · exact absurd hpo.1 (by omega)

end UNDX
