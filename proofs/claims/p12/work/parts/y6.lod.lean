/-! load of the class, exactly. -/
def W06 (k j : Nat) : Prop := k = 0 ∧ j = 6
/-- what load keeps of the class while it goes on -/
def LBN (hs : List CE) (g : Nat) (F : Nat → Nat → Int32) (tx : Nat → Int) : Prop := GP9 hs ∧ GIM hs g F ∧ RD0 hs tx 0 0 (-1) ∧ FLS hs 56
theorem LBN.fr {W : Nat → Nat → Prop} {hs h2 : List CE} {g : Nat} {F : Nat → Nat → Int32} {tx : Nat → Int} (h : LBN hs g F tx) (hg : 148 ≤ g) (f : FrS W hs h2) (hw : ∀ k j, W k j → (k = 0 ∧ j = 6) ∨ (1 ≤ k ∧ k ≤ 36) ∨ (148 ≤ k ∧ ¬ (g ≤ k ∧ k ≤ g + 16))) : LBN h2 g F tx :=
  ⟨h.1.fr f (fun j hj z => by have := hw _ _ z; omega), h.2.1.frF f (fun k j z => by have := hw _ _ z; omega), h.2.2.1.fr f (fun k j z => by have := hw _ _ z; omega), h.2.2.2.fr f (fun k j z => by have := hw _ _ z; omega)⟩
theorem LSF.tr {hs h2 : List CE} {nc : Nat} (h : LSF hs nc) (e35 : h2[35]? = hs[35]?) (e : ∀ k, 148 ≤ k → k < hs.length → h2[k]? = hs[k]?) : LSF h2 nc := by
  obtain ⟨sh, ⟨m9, e2⟩, ⟨n9, e1, hn⟩, h10, q⟩ := h
  refine ⟨(shp_eqc e35).trans sh, ⟨m9, (rd_of e35 2).trans e2⟩, ⟨n9, (rd_of e35 1).trans e1, hn⟩, h10, ?_⟩
  rcases q with ⟨q1, q2⟩ | ⟨ka, q1, q2, q3⟩
  · exact Or.inl ⟨(rd_of e35 0).trans q1, q2⟩
  · exact Or.inr ⟨ka, (rd_of e35 0).trans q1, q2, (shp_eqc (e ka q2 (shp_lt q3))).trans q3⟩
theorem LSF.fr {W : Nat → Nat → Prop} {hs h2 : List CE} {nc : Nat} (h : LSF hs nc) (f : FrS W hs h2) (hw : ∀ j, ¬ W 35 j) : LSF h2 nc := by
  obtain ⟨sh, ⟨m9, e2⟩, ⟨n9, e1, hn⟩, h10, q⟩ := h
  refine ⟨(f.2.1 35).trans sh, ⟨m9, (f.2.2 35 2 (hw 2)).trans e2⟩, ⟨n9, (f.2.2 35 1 (hw 1)).trans e1, hn⟩, h10, ?_⟩
  rcases q with ⟨q1, q2⟩ | ⟨ka, q1, q2, q3⟩
  · exact Or.inl ⟨(f.2.2 35 0 (hw 0)).trans q1, q2⟩
  · exact Or.inr ⟨ka, (f.2.2 35 0 (hw 0)).trans q1, q2, (f.2.1 ka).trans q3⟩
/-- the list's array is an old cell -/
theorem LSF.lt {hs : List CE} {nc a : Nat} (h : LSF hs nc) (e : rd hs 35 0 = .ref a) (hb : a < 7000000000002) : a < hs.length := by
  obtain ⟨-, -, -, -, q⟩ := h
  rcases q with ⟨q1, -⟩ | ⟨ka, q1, q2, q3⟩
  · rw [e] at q1
    cases q1
    omega
  · rw [e] at q1
    cases q1
    exact shp_lt q3
/-- old cells that load leaves -/
def KPL (hs h2 : List CE) : Prop := ∀ k, k < hs.length → 37 ≤ k → k ≠ 54 → ¬ (56 ≤ k ∧ k ≤ 72) → (∀ a : Nat, rd hs 35 0 = .ref a → k ≠ a) → h2[k]? = hs[k]?
section CRDN9
variable {g0 : GG} {bl : Nat} {xs : Nat → Int32} {l : Launch} {hs : List CE} {tx : Nat → Int} {L ec ep : Int} {nc : Nat}
theorem cx_clrL (h : LSF hs nc) : BodyN SSX TBL g0 CLS bl xs l D_295 0 0 0 0 [.ref 35] hs (fun kd r h2 => kd = 0 ∧ r = none ∧ LSF h2 0 ∧ rd h2 35 0 = rd hs 35 0 ∧ ∃ a : Nat, (a = 35 ∨ (148 ≤ a ∧ rd hs 35 0 = .ref a ∧ a < hs.length)) ∧ FrS (WLs a) hs h2) := by
  obtain ⟨sh, ⟨m9, e2⟩, ⟨n9, e1, hn⟩, h10, ⟨e0, z⟩ | ⟨ka, e0, h148, hka⟩⟩ := h
  · refine (cx_clrB sh e0 e1 e2 (by omega)).imp ?_
    rintro kd r h2 ⟨y1, y2, y3, y4, ⟨m, y5⟩, y6⟩
    exact ⟨y1, y2, ⟨(y6.2.1 35).trans sh, ⟨m, y5⟩, ⟨0, y4, rfl⟩, by omega, Or.inl ⟨y3, rfl⟩⟩, y3.trans e0.symm, 35, Or.inl rfl, y6⟩
  · refine (cx_clrA sh e0 e1 e2 hka h148 hn h10).imp ?_
    rintro kd r h2 ⟨y1, y2, y3, y4, ⟨m, y5⟩, y6⟩
    exact ⟨y1, y2, ⟨(y6.2.1 35).trans sh, ⟨m, y5⟩, ⟨0, y4, rfl⟩, by omega, Or.inr ⟨ka, y3, h148, (y6.2.1 ka).trans hka⟩⟩, y3.trans e0.symm, ka, Or.inr ⟨h148, e0, shp_lt hka⟩, y6⟩

theorem cx_load (hTY9 : TYg g0) (h148 : 148 ≤ hs.length) (hlen : hs.length + 40 ≤ 6999999999999) (hD : RD0 hs tx L ec ep) (hP : GP9 hs) (hF1 : FLS hs 1) (hF18 : FLS hs 18) (hF56 : FLS hs 56) (hL : LSF hs nc) : BodyN SSX TBL g0 CLS bl xs l D_39 13 232 730 8050 [.ref 0] hs (fun kd r h2 => (kd = 0 ∧ (∃ (s2 o2 : Int) (F2 : Nat → Nat → Int32) (fv2 gv2 : Nat → Int) (nl ng nr n : Nat), (∃ x : Int32, r = some (.int x) ∧ x.toInt = fv2 2) ∧ sText tx L = (0, s2, (fv2, upI gv2 38 o2), nl, ng, nr) ∧ LDP hs h2 tx F2 fv2 gv2 o2 nl ng nr n) ∧ h2.length = hs.length + 17 ∧ KPL hs h2 ∧ N36 h2) ∨ (kd = 3 ∧ r = none ∧ (sText tx L).1 ≠ 0 ∧ RD0 h2 tx 0 (sText tx L).1 (sText tx L).2.1 ∧ h2.length = hs.length + 17 ∧ FLS h2 56 ∧ ∀ k, k < hs.length → k ≠ 54 → ¬ (56 ≤ k ∧ k ≤ 72) → h2[k]? = hs[k]?)) := by
  intro wp p e R sW m args below meth cW Q kc0 ks0 kc ks act hf hl hc hsl hEnd
  have hf : 13 ≤ R.frames := hf
  have hl : 232 ≤ R.locals := hl
  have s54 := hD.1
  show WpN (gp g0 wp) CLS p l e R sW m args below meth cW Q D_39.2.2.1 kc0 ks0 0 [some (.ref 0)] (hs, kc, ks) []
  refine g_loadA act (gx gp_39 (w := 0x103) rfl (by decide) rfl) (a := 0) (n := 1) rfl rfl rfl ?_
  refine g_loadA act (gx gp_39 (w := 0x203) rfl (by decide) rfl) (a := 0) (n := 2) rfl rfl rfl ?_
  refine r_getf act (gx gp_39 (w := 0x3000000000504) rfl (by decide) rfl) (n := 5) (ci := 0) (j := 0) (N := 7) rfl rfl rfl hP.1 (by decide) (v := .ref 54) hP.2.1 ?_
  refine n_call tb_pres act hEnd (gx (P := G_call) gp_39 (w := 0x6000000000000c041100008600080f) rfl (by decide) rfl) (d' := D_134) rfl (f' := 12) (lam' := 212) (mc := 730) (ms := 8050) (as := [.ref 54]) (rest := [.ref 0]) (cx_readText hTY9 h148 hlen hD hF56) (show (1 : Nat) = fb 0x6000000000000c041100008600080f % 16 by decide) (by show (1 : Nat) ≤ 1; decide) (fun _ => ⟨_, _, rfl, _, shp_at s54, Or.inr (show fb 0x6000000000000c041100008600080f >>> 68 = 6 by decide)⟩) (by omega) (by show 8 + (1 + 11) + 212 ≤ R.locals; omega) (by show (1 : Nat) ≤ 8; decide) (by show kc + 730 ≤ _; omega) (by show ks + 8050 ≤ _; omega) (fun r9 h1 hpo hr9 => ?_) (fun x9 hs9 hx9 hpo => ?_)
  · obtain ⟨-, rfl, ⟨s2, o2, F2, fv2, gv2, nl, ng, nr, n, hS, hG1, hR2, w0, w1, w2, w3, w4, w5, w6, w7, w8, w9, wa, wb, wc, wd, we⟩, hD1, hl1, hF6, hk1⟩ := hpo.resolve_right (fun z => absurd z.1 (by decide))
    have hk1 : ∀ k, k < hs.length → k ≠ 54 → ¬ (56 ≤ k ∧ k ≤ 72) → h1[k]? = hs[k]? := hk1
    have hl1 : h1.length = hs.length + 17 := hl1
    have k0 := hk1 0 (by omega) (by decide) (by decide)
    have k36 := hk1 36 (by omega) (by decide) (by decide)
    have k35 := hk1 35 (by omega) (by decide) (by decide)
    have b1 : LBN h1 hs.length F2 tx := ⟨hP.cell k0 k36, hG1, hD1, hF6⟩
    have c1 : LSF h1 nc := hL.tr k35 (fun k q1 q2 => hk1 k q2 (by omega) (by omega))
    have d1 := hF1.cellb (fun k q1 q2 => hk1 k (by omega) (by omega) (by omega))
    have d18 := hF18.cellb (fun k q1 q2 => hk1 k (by omega) (by omega) (by omega))
    have r1 := rd_of k35 0
    show WpN (gp g0 wp) CLS p l e R sW m args below meth cW Q D_39.2.2.1 kc0 ks0 8 [some (.ref 0)] (h1, kc + 730, ks + 8050) [.ref hs.length, .ref 0]
    refine r_putf act (gx gp_39 (w := 0x3000180000b13) rfl (by decide) rfl) (n := 11) (ci := 0) (j := 6) (N := 7) rfl rfl rfl b1.1.1 (by decide) (Or.inr (Or.inr (Or.inr ⟨rfl, Or.inr ⟨_, rfl⟩⟩))) ?_
    have f0 : FrS W06 h1 (wr h1 0 6 (.ref hs.length)) := (FrS.rf W06 h1).wr (k := 0) (j := 6) (.ref hs.length) ⟨rfl, rfl⟩
    have x6 : rd (wr h1 0 6 (.ref hs.length)) 0 6 = .ref hs.length := rd_same b1.1.1
    generalize (wr h1 0 6 (.ref hs.length)) = h2 at *
    have b2 := b1.fr h148 f0 (fun k9 j9 h9 => Or.inl h9)
    have c2 := c1.fr f0 (fun j9 h9 => absurd h9.1 (by decide))
    have d2 := d1.fr f0 (fun k9 j9 h9 => by have := h9.1; omega)
    have d28 := d18.fr f0 (fun k9 j9 h9 => by have := h9.1; omega)
    have r2 := (f0.2.2 35 0 (fun z => absurd z.1 (by decide))).trans r1
    refine g_loadA act (gx gp_39 (w := 0xc03) rfl (by decide) rfl) (a := 0) (n := 12) rfl rfl rfl ?_
    refine r_getf act (gx gp_39 (w := 0x3000100000f04) rfl (by decide) rfl) (n := 15) (ci := 0) (j := 4) (N := 7) rfl rfl rfl b2.1.1 (by decide) (v := .ref 35) b2.1.2.2.2.2.2.1 ?_
    refine n_call tb_pres act hEnd (gx (P := G_call) gp_39 (w := 0xb0000000000008101100012700120f) rfl (by decide) rfl) (d' := D_295) rfl (f' := 0) (lam' := 0) (mc := 0) (ms := 0) (as := [.ref 35]) (rest := []) (cx_clrL c2) (show (1 : Nat) = fb 0xb0000000000008101100012700120f % 16 by decide) (by show (1 : Nat) ≤ 4; decide) (fun _ => ⟨_, _, rfl, _, shp_at c2.1, Or.inr (show fb 0xb0000000000008101100012700120f >>> 68 = 11 by decide)⟩) (by omega) (by show 8 + (4 + 11) + 0 ≤ R.locals; omega) (by show (0 : Nat) ≤ 8; decide) (by show kc + 730 + 0 ≤ _; omega) (by show ks + 8050 + 0 ≤ _; omega) (fun r9 h3 hpo hr9 => ?_) (fun x9 hs9 hx9 hpo => ?_)
    · obtain rfl : r9 = none := hr9.elim (fun q => q.2) (fun q => absurd rfl q.1)
      obtain ⟨-, -, c3, r3, a, ha, f3⟩ := hpo
      have f3 : FrS (WLs a) h2 h3 := f3
      have ha : a = 35 ∨ (148 ≤ a ∧ rd h2 35 0 = .ref a ∧ a < h2.length) := ha
      have ha9 : a = 35 ∨ (148 ≤ a ∧ a < hs.length ∧ rd hs 35 0 = .ref a) := ha.elim Or.inl (fun z => Or.inr ⟨z.1, hL.lt (r2.symm.trans z.2.1) (by have := f0.1; omega), r2.symm.trans z.2.1⟩)
      have b3 := b2.fr h148 f3 (fun k9 j9 h9 => by unfold WLs at h9; omega)
      have d3 := d2.fr f3 (fun k9 j9 h9 => by unfold WLs at h9; omega)
      have d38 := d28.fr f3 (fun k9 j9 h9 => by unfold WLs at h9; omega)
      have y6 := (f3.2.2 0 6 (fun z => by unfold WLs at z; omega)).trans x6
      have r3b := r3.trans r2
      show WpN (gp g0 wp) CLS p l e R sW m args below meth cW Q D_39.2.2.1 kc0 ks0 18 [some (.ref 0)] (h3, kc + 730, ks + 8050) []
      refine g_loadA act (gx gp_39 (w := 0x1303) rfl (by decide) rfl) (a := 0) (n := 19) rfl rfl rfl ?_
      refine n_call tb_pres act hEnd (gx (P := G_call) gp_39 (w := 0x10000000000008041100001000160f) rfl (by decide) rfl) (d' := D_16) rfl (f' := 3) (lam' := 74) (mc := 0) (ms := 0) (as := [.ref 0]) (rest := []) (cx_factors b3.1.1 b3.1.2.2.2.1 b3.1.2.2.2.2.1 y6 d3 d38 b3.2.1 hR2 w5 w6 (by omega) (by omega) wd) (show (1 : Nat) = fb 0x10000000000008041100001000160f % 16 by decide) (by show (1 : Nat) ≤ 1; decide) (fun _ => ⟨_, _, rfl, _, shp_at b3.1.1, Or.inr (show fb 0x10000000000008041100001000160f >>> 68 = 1 by decide)⟩) (by omega) (by show 8 + (1 + 11) + 74 ≤ R.locals; omega) (by show (0 : Nat) ≤ 8; decide) (by show kc + 730 + 0 ≤ _; omega) (by show ks + 8050 + 0 ≤ _; omega) (fun r9 h4 hpo hr9 => ?_) (fun x9 hs9 hx9 hpo => ?_)
      · obtain rfl : r9 = none := hr9.elim (fun q => q.2) (fun q => absurd rfl q.1)
        obtain ⟨-, -, d4, d48, t4, t48, -, f4⟩ := hpo
        have b4 := b3.fr h148 f4 (fun k9 j9 h9 => by unfold W118 WFr at h9; omega)
        have c4 := c3.fr f4 (fun j9 h9 => by unfold W118 WFr at h9; omega)
        have z6 := (f4.2.2 0 6 (fun z => by unfold W118 WFr at z; omega)).trans y6
        have r4 := (f4.2.2 35 0 (fun z => by unfold W118 WFr at z; omega)).trans r3b
        show WpN (gp g0 wp) CLS p l e R sW m args below meth cW Q D_39.2.2.1 kc0 ks0 22 [some (.ref 0)] (h4, kc + 730, ks + 8050) []
        refine g_loadA act (gx gp_39 (w := 0x1703) rfl (by decide) rfl) (a := 0) (n := 23) rfl rfl rfl ?_
        refine n_call tb_pres act hEnd (gx (P := G_call) gp_39 (w := 0x10000000000008081100001e001a0f) rfl (by decide) rfl) (d' := D_30) rfl (f' := 0) (lam' := 0) (mc := 0) (ms := 0) (as := [.ref 0]) (rest := []) (cx_forget b4.1.1 b4.1.2.2.2.2.2.2.2 b4.1.2.2.2.2.2.2.1) (show (1 : Nat) = fb 0x10000000000008081100001e001a0f % 16 by decide) (by show (1 : Nat) ≤ 2; decide) (fun _ => ⟨_, _, rfl, _, shp_at b4.1.1, Or.inr (show fb 0x10000000000008081100001e001a0f >>> 68 = 1 by decide)⟩) (by omega) (by show 8 + (2 + 11) + 0 ≤ R.locals; omega) (by show (0 : Nat) ≤ 8; decide) (by show kc + 730 + 0 ≤ _; omega) (by show ks + 8050 + 0 ≤ _; omega) (fun r9 h5 hpo hr9 => ?_) (fun x9 hs9 hx9 hpo => ?_)
        · obtain rfl : r9 = none := hr9.elim (fun q => q.2) (fun q => absurd rfl q.1)
          obtain ⟨-, -, f5, n5⟩ := hpo
          have b5 := b4.fr h148 f5 (fun k9 j9 h9 => by unfold W36 at h9; omega)
          have c5 := c4.fr f5 (fun j9 h9 => by unfold W36 at h9; omega)
          have v6 := (f5.2.2 0 6 (fun z => by unfold W36 at z; omega)).trans z6
          have r5 := (f5.2.2 35 0 (fun z => by unfold W36 at z; omega)).trans r4
          have d5 := d4.fr f5 (fun k9 j9 h9 => by unfold W36 at h9; omega)
          have d58 := d48.fr f5 (fun k9 j9 h9 => by unfold W36 at h9; omega)
          have t5 : TR9 h5 1 (det3 (mT fv2 (fv2 0) (-1) nl)) := by
            obtain ⟨y1, y2, y3⟩ := t4
            exact ⟨y1, (f5.2.2 1 0 (fun z => by unfold W36 at z; omega)).trans y2, y3⟩
          have t58 : TR9 h5 18 (det3 (mT fv2 (fv2 0) o2 nl)) := by
            obtain ⟨y1, y2, y3⟩ := t48
            exact ⟨y1, (f5.2.2 18 0 (fun z => by unfold W36 at z; omega)).trans y2, y3⟩
          have hln : h5.length = hs.length + 17 := f5.1.trans (f4.1.trans (f3.1.trans (f0.1.trans hl1)))
          have hkp : KPL hs h5 := fun k q1 q2 q3 q4 q5 => by
            have e1 := hk1 k q1 q3 q4
            have hc : ∃ q, shp h1 k = some q := by
              unfold shp
              rw [e1, List.getElem?_eq_getElem q1]
              exact ⟨_, rfl⟩
            obtain ⟨q, hq⟩ := hc
            have hka : k ≠ a := fun z => by
              rcases ha9 with w | w
              · omega
              · exact q5 a w.2.2 z
            exact (cell_eq hq ((f5.2.1 k).trans ((f4.2.1 k).trans ((f3.2.1 k).trans (f0.2.1 k)))) (fun j => (f5.2.2 k j (fun z => by unfold W36 at z; omega)).trans ((f4.2.2 k j (fun z => by unfold W118 WFr at z; omega)).trans ((f3.2.2 k j (fun z => by unfold WLs at z; omega)).trans (f0.2.2 k j (fun z => by have := z.1; omega)))))).trans e1
          show WpN (gp g0 wp) CLS p l e R sW m args below meth cW Q D_39.2.2.1 kc0 ks0 26 [some (.ref 0)] (h5, kc + 730, ks + 8050) []
          refine g_loadA act (gx gp_39 (w := 0x1b03) rfl (by decide) rfl) (a := 0) (n := 27) rfl rfl rfl ?_
          refine r_getf act (gx gp_39 (w := 0x3000180001e04) rfl (by decide) rfl) (n := 30) (ci := 0) (j := 6) (N := 7) rfl rfl rfl b5.1.1 (by decide) (v := .ref hs.length) v6 ?_
          refine r_getf act (gx gp_39 (w := 0x84002104) rfl (by decide) rfl) (n := 33) (ci := 4) (j := 2) (N := 18) rfl rfl rfl b5.2.1.1.2.1 (by decide) (v := .int (F2 0 2)) (b5.2.1.2 0 2 (Or.inl ⟨rfl, by decide⟩)) ?_
          exact g_retI hEnd (gx gp_39 (w := 0x2f) rfl (by decide) rfl) (Or.inl ⟨rfl, ⟨s2, o2, F2, fv2, gv2, nl, ng, nr, n, ⟨_, rfl, hR2.2.2.1⟩, hS, b5.2.1, hR2, ⟨w0, w1, w2, w3, w4, w5, w6, w7, w8, w9, wa, wb, wc, wd, we⟩, b5.2.2.1, d5, d58, b5.2.2.2, t5, t58, b5.1, v6, c5, r5⟩, hln, hkp, n5⟩) (by show kc + 730 ≤ kc + 730; omega) (by show ks + 8050 ≤ ks + 8050; omega)
        · exact absurd hpo.1 (by omega)
      · exact absurd hpo.1 (by omega)
    · exact absurd hpo.1 (by omega)
  · obtain ⟨hk9, -, hn9, hD9, hl9, hF9, hk8⟩ := hpo.resolve_left (fun z => absurd z.1 (by omega))
    refine Or.inr ⟨rfl, Or.inr ⟨by omega, rfl, hn9, hD9, hl9, hF9, hk8⟩, by show kc + 730 ≤ kc + 730; omega, by show ks + 8050 ≤ ks + 8050; omega⟩

end CRDN9
