/-! load of the class, exactly. -/
def WLs (a k _j : Nat) : Prop := k = 35 ∨ k = a
def W36 (k _j : Nat) : Prop := k = 36
/-- nothing is known of any interval -/
def N36 (hs : List CE) : Prop := ∀ j, j < 4 → rd hs 36 j = .null

section CRDL9
variable {g0 : GG} {bl : Nat} {xs : Nat → Int32} {l : Launch} {hs : List CE} {tx : Nat → Int} {L : Nat} {n9 m9 : Int32} {n : Nat}

theorem cx_clrA {ka : Nat} (sh : shp hs 35 = some (10, 3)) (e0 : rd hs 35 0 = .ref ka) (e1 : rd hs 35 1 = .int n9) (e2 : rd hs 35 2 = .int m9) (hka0 : shp hs ka = some (39, 10)) (h148 : 148 ≤ ka) (hn : n9.toInt = (n : Int)) (hn10 : n ≤ 10) : BodyN SSX TBL g0 CLS bl xs l D_295 0 0 0 0 [.ref 35] hs (fun kd r h2 => kd = 0 ∧ r = none ∧ rd h2 35 0 = .ref ka ∧ rd h2 35 1 = .int 0 ∧ (∃ m : Int32, rd h2 35 2 = .int m) ∧ FrS (WLs ka) hs h2) := by
  intro wp p e R sW m args below meth cW Q kc0 ks0 kc ks act hf hl hc hsl hEnd
  have hf : 0 ≤ R.frames := hf
  have hl : 0 ≤ R.locals := hl
  have hk1 : kc ≤ kc + 0 := by omega
  have hk2 : ks ≤ ks + 0 := by omega
  have loop : ∀ (hj : List CE) (i9 : Int32) (i : Nat) (mj : Int32), shp hj 35 = some (10, 3) → shp hj ka = some (39, 10) → rd hj 35 0 = .ref ka → rd hj 35 1 = .int 0 → rd hj 35 2 = .int mj → FrS (WLs ka) hs hj → i9.toInt = (i : Int) → i ≤ n → WpN (gp g0 wp) CLS p l e R sW m args below meth cW Q D_295.2.2.1 kc0 ks0 27 [some (.ref 35), some (.ref ka), some (.int n9), some (.int i9)] (hj, kc, ks) [] := by
    intro hj i9 i mj sj hka j0 j1 j2 fj hi hin
    generalize hm : n - i = m9
    induction m9 using Nat.strongRecOn generalizing hj i9 i mj with
    | _ m9 ih =>
    subst hm
    refine g_loadI act (gx gp_295 (w := 0x3001c02) rfl (by decide) rfl) (a := 3) (n := 28) rfl rfl rfl ?_
    refine g_loadI act (gx gp_295 (w := 0x2001d02) rfl (by decide) rfl) (a := 2) (n := 29) rfl rfl rfl ?_
    refine g_icmpGe act (gx gp_295 (w := 0x2a002008) rfl (by decide) rfl) (tgt := 42) (n := 32) rfl rfl (fun h3 => ?_) (fun h3 => ?_)
    · simp only [i_le] at h3
      exact g_retV hEnd (gx gp_295 (w := 0x18) rfl (by decide) rfl) ⟨rfl, rfl, j0, j1, ⟨_, j2⟩, fj⟩ hk1 hk2
    · simp only [i_le] at h3
      refine g_loadA act (gx gp_295 (w := 0x1002103) rfl (by decide) rfl) (a := 1) (n := 33) rfl rfl rfl ?_
      refine g_loadI act (gx gp_295 (w := 0x3002202) rfl (by decide) rfl) (a := 3) (n := 34) rfl rfl rfl ?_
      refine g_null act (gx gp_295 (w := 0x4000000002301) rfl (by decide) rfl) (n := 35) (by decide) rfl ?_
      refine r_aastN act (gx gp_295 (w := 0x2435) rfl (by decide) rfl) (n := 36) (N := 10) (c9 := 39) rfl hka (by decide) (j := i) hi (by omega) ?_
      have sk : shp (wr hj ka i .null) 35 = some (10, 3) := (shp_wr _ _ _ _ _).trans sj
      have ska : shp (wr hj ka i .null) ka = some (39, 10) := (shp_wr _ _ _ _ _).trans hka
      have k0 := (rd_ne hj (k := ka) (j := i) .null (k2 := 35) (j2 := 0) (Or.inl (by omega))).trans j0
      have k1 := (rd_ne hj (k := ka) (j := i) .null (k2 := 35) (j2 := 1) (Or.inl (by omega))).trans j1
      have k2 := (rd_ne hj (k := ka) (j := i) .null (k2 := 35) (j2 := 2) (Or.inl (by omega))).trans j2
      have fk := fj.wr (k := ka) (j := i) .null (Or.inr rfl)
      generalize (wr hj ka i .null) = hk at *
      refine g_iinc act (gx gp_295 (w := 0x80000001000003002709) rfl (by decide) rfl) (a := 3) (i := (1 : Int32)) (n := 39) rfl (by decide) rfl rfl (L2 := [some (.ref 35), some (.ref ka), some (.int n9), some (.int (i9 + (1 : Int32)))]) rfl ?_
      have vi := iv_addN hi (show (1 : Int32).toInt = ((1 : Nat) : Int) from by decide) (by omega)
      refine g_goto act (gx gp_295 (w := 0x1b07) rfl (by decide) rfl) (n := 27) rfl ?_
      exact ih _ (by omega) hk (i9 + (1 : Int32)) (i + 1) _ sk ska k0 k1 k2 fk vi (by omega) rfl
  show WpN (gp g0 wp) CLS p l e R sW m args below meth cW Q D_295.2.2.1 kc0 ks0 0 [some (.ref 35), none, none, none] (hs, kc, ks) []
  refine g_loadA act (gx gp_295 (w := 0x103) rfl (by decide) rfl) (a := 0) (n := 1) rfl rfl rfl ?_
  refine g_dup act (gx gp_295 (w := 0x222) rfl (by decide) rfl) (n := 2) rfl rfl ?_
  refine r_getf act (gx gp_295 (w := 0x8a000504) rfl (by decide) rfl) (n := 5) (ci := 10) (j := 2) (N := 3) rfl rfl rfl sh (by decide) (v := .int m9) e2 ?_
  refine g_constI act (gx gp_295 (w := 0x40000000c00000009000000000601) rfl (by decide) rfl) (n := 6) (x := (1 : Int32)) (by decide) rfl ?_
  refine g_iadd act (gx gp_295 (w := 0x70a) rfl (by decide) rfl) (n := 7) rfl ?_
  refine r_putf act (gx gp_295 (w := 0x8a000a13) rfl (by decide) rfl) (n := 10) (ci := 10) (j := 2) (N := 3) rfl rfl rfl sh (by decide) (Or.inl ⟨rfl, _, rfl⟩) ?_
  have sh2 : shp (wr hs 35 2 (.int (m9 + (1 : Int32)))) 35 = some (10, 3) := (shp_wr _ _ _ _ _).trans sh
  have e0h2 := (rd_ne hs (k := 35) (j := 2) (.int (m9 + (1 : Int32))) (k2 := 35) (j2 := 0) (Or.inr (by decide))).trans e0
  have e1h2 := (rd_ne hs (k := 35) (j := 2) (.int (m9 + (1 : Int32))) (k2 := 35) (j2 := 1) (Or.inr (by decide))).trans e1
  have e2h2 := rd_same (j := 2) (v := .int (m9 + (1 : Int32))) sh
  have fh2 := (FrS.rf (WLs ka) hs).wr (k := 35) (j := 2) (.int (m9 + (1 : Int32))) (Or.inl rfl)
  generalize (wr hs 35 2 (.int (m9 + (1 : Int32)))) = h2 at *
  refine g_loadA act (gx gp_295 (w := 0xb03) rfl (by decide) rfl) (a := 0) (n := 11) rfl rfl rfl ?_
  refine r_getf act (gx gp_295 (w := 0x300000a000e04) rfl (by decide) rfl) (n := 14) (ci := 10) (j := 0) (N := 3) rfl rfl rfl sh2 (by decide) (v := .ref ka) e0h2 ?_
  refine g_storeA act (gx gp_295 (w := 0x1000f2d) rfl (by decide) rfl) (a := 1) (n := 15) rfl rfl (L2 := [some (.ref 35), some (.ref ka), none, none]) rfl ?_
  refine g_loadA act (gx gp_295 (w := 0x1003) rfl (by decide) rfl) (a := 0) (n := 16) rfl rfl rfl ?_
  refine r_getf act (gx gp_295 (w := 0x4a001304) rfl (by decide) rfl) (n := 19) (ci := 10) (j := 1) (N := 3) rfl rfl rfl sh2 (by decide) (v := .int n9) e1h2 ?_
  refine g_storeI act (gx gp_295 (w := 0x2001410) rfl (by decide) rfl) (a := 2) (n := 20) rfl rfl (L2 := [some (.ref 35), some (.ref ka), some (.int n9), none]) rfl ?_
  refine g_loadA act (gx gp_295 (w := 0x1503) rfl (by decide) rfl) (a := 0) (n := 21) rfl rfl rfl ?_
  refine g_constI act (gx gp_295 (w := 0x40000000400000001000000001601) rfl (by decide) rfl) (n := 22) (x := (0 : Int32)) (by decide) rfl ?_
  refine g_dupx1 act (gx gp_295 (w := 0x174f) rfl (by decide) rfl) (n := 23) rfl rfl rfl ?_
  refine r_putf act (gx gp_295 (w := 0x4a001a13) rfl (by decide) rfl) (n := 26) (ci := 10) (j := 1) (N := 3) rfl rfl rfl sh2 (by decide) (Or.inl ⟨rfl, _, rfl⟩) ?_
  have sh3 : shp (wr h2 35 1 (.int (0 : Int32))) 35 = some (10, 3) := (shp_wr _ _ _ _ _).trans sh2
  have e0h3 := (rd_ne h2 (k := 35) (j := 1) (.int (0 : Int32)) (k2 := 35) (j2 := 0) (Or.inr (by decide))).trans e0h2
  have e1h3 := rd_same (j := 1) (v := .int (0 : Int32)) sh2
  have e2h3 := (rd_ne h2 (k := 35) (j := 1) (.int (0 : Int32)) (k2 := 35) (j2 := 2) (Or.inr (by decide))).trans e2h2
  have fh3 := fh2.wr (k := 35) (j := 1) (.int (0 : Int32)) (Or.inl rfl)
  generalize (wr h2 35 1 (.int (0 : Int32))) = h3 at *
  refine g_storeI act (gx gp_295 (w := 0x3001b10) rfl (by decide) rfl) (a := 3) (n := 27) rfl rfl (L2 := [some (.ref 35), some (.ref ka), some (.int n9), some (.int (0 : Int32))]) rfl ?_
  exact loop _ _ 0 _ sh3 ((fh3.2.1 ka).trans hka0) e0h3 e1h3 e2h3 fh3 (by decide) (by omega)

theorem cx_clrB (sh : shp hs 35 = some (10, 3)) (e0 : rd hs 35 0 = .ref 7000000000002) (e1 : rd hs 35 1 = .int n9) (e2 : rd hs 35 2 = .int m9) (hn : n9.toInt = 0) : BodyN SSX TBL g0 CLS bl xs l D_295 0 0 0 0 [.ref 35] hs (fun kd r h2 => kd = 0 ∧ r = none ∧ rd h2 35 0 = .ref 7000000000002 ∧ rd h2 35 1 = .int 0 ∧ (∃ m : Int32, rd h2 35 2 = .int m) ∧ FrS (WLs 35) hs h2) := by
  intro wp p e R sW m args below meth cW Q kc0 ks0 kc ks act hf hl hc hsl hEnd
  have hf : 0 ≤ R.frames := hf
  have hl : 0 ≤ R.locals := hl
  have hk1 : kc ≤ kc + 0 := by omega
  have hk2 : ks ≤ ks + 0 := by omega
  show WpN (gp g0 wp) CLS p l e R sW m args below meth cW Q D_295.2.2.1 kc0 ks0 0 [some (.ref 35), none, none, none] (hs, kc, ks) []
  refine g_loadA act (gx gp_295 (w := 0x103) rfl (by decide) rfl) (a := 0) (n := 1) rfl rfl rfl ?_
  refine g_dup act (gx gp_295 (w := 0x222) rfl (by decide) rfl) (n := 2) rfl rfl ?_
  refine r_getf act (gx gp_295 (w := 0x8a000504) rfl (by decide) rfl) (n := 5) (ci := 10) (j := 2) (N := 3) rfl rfl rfl sh (by decide) (v := .int m9) e2 ?_
  refine g_constI act (gx gp_295 (w := 0x40000000c00000009000000000601) rfl (by decide) rfl) (n := 6) (x := (1 : Int32)) (by decide) rfl ?_
  refine g_iadd act (gx gp_295 (w := 0x70a) rfl (by decide) rfl) (n := 7) rfl ?_
  refine r_putf act (gx gp_295 (w := 0x8a000a13) rfl (by decide) rfl) (n := 10) (ci := 10) (j := 2) (N := 3) rfl rfl rfl sh (by decide) (Or.inl ⟨rfl, _, rfl⟩) ?_
  have sh2 : shp (wr hs 35 2 (.int (m9 + (1 : Int32)))) 35 = some (10, 3) := (shp_wr _ _ _ _ _).trans sh
  have e0h2 := (rd_ne hs (k := 35) (j := 2) (.int (m9 + (1 : Int32))) (k2 := 35) (j2 := 0) (Or.inr (by decide))).trans e0
  have e1h2 := (rd_ne hs (k := 35) (j := 2) (.int (m9 + (1 : Int32))) (k2 := 35) (j2 := 1) (Or.inr (by decide))).trans e1
  have e2h2 := rd_same (j := 2) (v := .int (m9 + (1 : Int32))) sh
  have fh2 := (FrS.rf (WLs 35) hs).wr (k := 35) (j := 2) (.int (m9 + (1 : Int32))) (Or.inl rfl)
  generalize (wr hs 35 2 (.int (m9 + (1 : Int32)))) = h2 at *
  refine g_loadA act (gx gp_295 (w := 0xb03) rfl (by decide) rfl) (a := 0) (n := 11) rfl rfl rfl ?_
  refine r_getf act (gx gp_295 (w := 0x300000a000e04) rfl (by decide) rfl) (n := 14) (ci := 10) (j := 0) (N := 3) rfl rfl rfl sh2 (by decide) (v := .ref 7000000000002) e0h2 ?_
  refine g_storeA act (gx gp_295 (w := 0x1000f2d) rfl (by decide) rfl) (a := 1) (n := 15) rfl rfl (L2 := [some (.ref 35), some (.ref 7000000000002), none, none]) rfl ?_
  refine g_loadA act (gx gp_295 (w := 0x1003) rfl (by decide) rfl) (a := 0) (n := 16) rfl rfl rfl ?_
  refine r_getf act (gx gp_295 (w := 0x4a001304) rfl (by decide) rfl) (n := 19) (ci := 10) (j := 1) (N := 3) rfl rfl rfl sh2 (by decide) (v := .int n9) e1h2 ?_
  refine g_storeI act (gx gp_295 (w := 0x2001410) rfl (by decide) rfl) (a := 2) (n := 20) rfl rfl (L2 := [some (.ref 35), some (.ref 7000000000002), some (.int n9), none]) rfl ?_
  refine g_loadA act (gx gp_295 (w := 0x1503) rfl (by decide) rfl) (a := 0) (n := 21) rfl rfl rfl ?_
  refine g_constI act (gx gp_295 (w := 0x40000000400000001000000001601) rfl (by decide) rfl) (n := 22) (x := (0 : Int32)) (by decide) rfl ?_
  refine g_dupx1 act (gx gp_295 (w := 0x174f) rfl (by decide) rfl) (n := 23) rfl rfl rfl ?_
  refine r_putf act (gx gp_295 (w := 0x4a001a13) rfl (by decide) rfl) (n := 26) (ci := 10) (j := 1) (N := 3) rfl rfl rfl sh2 (by decide) (Or.inl ⟨rfl, _, rfl⟩) ?_
  have sh3 : shp (wr h2 35 1 (.int (0 : Int32))) 35 = some (10, 3) := (shp_wr _ _ _ _ _).trans sh2
  have e0h3 := (rd_ne h2 (k := 35) (j := 1) (.int (0 : Int32)) (k2 := 35) (j2 := 0) (Or.inr (by decide))).trans e0h2
  have e1h3 := rd_same (j := 1) (v := .int (0 : Int32)) sh2
  have e2h3 := (rd_ne h2 (k := 35) (j := 1) (.int (0 : Int32)) (k2 := 35) (j2 := 2) (Or.inr (by decide))).trans e2h2
  have fh3 := fh2.wr (k := 35) (j := 1) (.int (0 : Int32)) (Or.inl rfl)
  generalize (wr h2 35 1 (.int (0 : Int32))) = h3 at *
  refine g_storeI act (gx gp_295 (w := 0x3001b10) rfl (by decide) rfl) (a := 3) (n := 27) rfl rfl (L2 := [some (.ref 35), some (.ref 7000000000002), some (.int n9), some (.int (0 : Int32))]) rfl ?_
  refine g_loadI act (gx gp_295 (w := 0x3001c02) rfl (by decide) rfl) (a := 3) (n := 28) rfl rfl rfl ?_
  refine g_loadI act (gx gp_295 (w := 0x2001d02) rfl (by decide) rfl) (a := 2) (n := 29) rfl rfl rfl ?_
  refine g_icmpGe act (gx gp_295 (w := 0x2a002008) rfl (by decide) rfl) (tgt := 42) (n := 32) rfl rfl (fun h15 => ?_) (fun h15 => ?_)
  · simp only [i_le, show (0 : Int32).toInt = 0 from by decide] at h15
    exact g_retV hEnd (gx gp_295 (w := 0x18) rfl (by decide) rfl) ⟨rfl, rfl, e0h3, e1h3, ⟨_, e2h3⟩, fh3⟩ hk1 hk2
  · simp only [i_le, show (0 : Int32).toInt = 0 from by decide] at h15
    exfalso; have z0 : (0 : Int32).toInt = 0 := by decide
    omega

theorem cx_forget (s0 : shp hs 0 = some (0, 7)) (s36 : shp hs 36 = some (40, 4)) (e5 : rd hs 0 5 = .ref 36) : BodyN SSX TBL g0 CLS bl xs l D_30 0 0 0 0 [.ref 0] hs (fun kd r h2 => kd = 0 ∧ r = none ∧ FrS W36 hs h2 ∧ N36 h2) := by
  intro wp p e R sW m args below meth cW Q kc0 ks0 kc ks act hf hl hc hsl hEnd
  have hf : 0 ≤ R.frames := hf
  have hl : 0 ≤ R.locals := hl
  have hk1 : kc ≤ kc + 0 := by omega
  have hk2 : ks ≤ ks + 0 := by omega
  have loop : ∀ (hj : List CE) (i9 : Int32) (i : Nat), shp hj 0 = some (0, 7) → shp hj 36 = some (40, 4) → rd hj 0 5 = .ref 36 → FrS W36 hs hj → (∀ j, j < i → rd hj 36 j = .null) → i9.toInt = (i : Int) → i ≤ 4 → WpN (gp g0 wp) CLS p l e R sW m args below meth cW Q D_30.2.2.1 kc0 ks0 2 [some (.ref 0), some (.int i9)] (hj, kc, ks) [] := by
    intro hj i9 i sj0 s36 j5 fj nj hi hi4
    generalize hm : 4 - i = m9
    induction m9 using Nat.strongRecOn generalizing hj i9 i with
    | _ m9 ih =>
    subst hm
    refine g_loadI act (gx gp_30 (w := 0x1000302) rfl (by decide) rfl) (a := 1) (n := 3) rfl rfl rfl ?_
    refine g_constI act (gx gp_30 (w := 0x40000002400000021000000000401) rfl (by decide) rfl) (n := 4) (x := (4 : Int32)) (by decide) rfl ?_
    refine g_icmpGe act (gx gp_30 (w := 0x14000708) rfl (by decide) rfl) (tgt := 20) (n := 7) rfl rfl (fun h3 => ?_) (fun h3 => ?_)
    · simp only [i_le, show (4 : Int32).toInt = 4 from by decide] at h3
      exact g_retV hEnd (gx gp_30 (w := 0x18) rfl (by decide) rfl) ⟨rfl, rfl, fj, fun j hj9 => nj j (by omega)⟩ hk1 hk2
    · simp only [i_le, show (4 : Int32).toInt = 4 from by decide] at h3
      refine g_loadA act (gx gp_30 (w := 0x803) rfl (by decide) rfl) (a := 0) (n := 8) rfl rfl rfl ?_
      refine r_getf act (gx gp_30 (w := 0x3000140000b04) rfl (by decide) rfl) (n := 11) (ci := 0) (j := 5) (N := 7) rfl rfl rfl sj0 (by decide) (v := .ref 36) j5 ?_
      refine g_loadI act (gx gp_30 (w := 0x1000c02) rfl (by decide) rfl) (a := 1) (n := 12) rfl rfl rfl ?_
      refine g_null act (gx gp_30 (w := 0x4000000000d01) rfl (by decide) rfl) (n := 13) (by decide) rfl ?_
      refine r_aastN act (gx gp_30 (w := 0xe35) rfl (by decide) rfl) (n := 14) (N := 4) (c9 := 40) rfl s36 (by decide) (j := i) hi (by omega) ?_
      have sk0 : shp (wr hj 36 i .null) 0 = some (0, 7) := (shp_wr _ _ _ _ _).trans sj0
      have sk36 : shp (wr hj 36 i .null) 36 = some (40, 4) := (shp_wr _ _ _ _ _).trans s36
      have k5 := (rd_ne hj (k := 36) (j := i) .null (k2 := 0) (j2 := 5) (Or.inl (by decide))).trans j5
      have fk := fj.wr (k := 36) (j := i) .null rfl
      have nk : ∀ j, j < i + 1 → rd (wr hj 36 i .null) 36 j = .null := fun j hj9 => by
        by_cases q9 : j = i
        · rw [q9]; exact rd_same s36
        · exact (rd_ne _ _ (Or.inr q9)).trans (nj j (by omega))
      generalize (wr hj 36 i .null) = hk at *
      refine g_iinc act (gx gp_30 (w := 0x80000001000001001109) rfl (by decide) rfl) (a := 1) (i := (1 : Int32)) (n := 17) rfl (by decide) rfl rfl (L2 := [some (.ref 0), some (.int (i9 + (1 : Int32)))]) rfl ?_
      have vi := iv_addN hi (show (1 : Int32).toInt = ((1 : Nat) : Int) from by decide) (by omega)
      refine g_goto act (gx gp_30 (w := 0x207) rfl (by decide) rfl) (n := 2) rfl ?_
      exact ih _ (by omega) hk (i9 + (1 : Int32)) (i + 1) sk0 sk36 k5 fk nk vi (by omega) rfl
  show WpN (gp g0 wp) CLS p l e R sW m args below meth cW Q D_30.2.2.1 kc0 ks0 0 [some (.ref 0), none] (hs, kc, ks) []
  refine g_constI act (gx gp_30 (w := 0x40000000400000001000000000101) rfl (by decide) rfl) (n := 1) (x := (0 : Int32)) (by decide) rfl ?_
  refine g_storeI act (gx gp_30 (w := 0x1000210) rfl (by decide) rfl) (a := 1) (n := 2) rfl rfl (L2 := [some (.ref 0), some (.int (0 : Int32))]) rfl ?_
  exact loop hs _ 0 s0 s36 e5 (FrS.rf _ _) (fun j hj => absurd hj (Nat.not_lt_zero _)) (by decide) (by decide)

end CRDL9
