/-! computeFactors and load of the class, exactly. -/
def W118 (k j : Nat) : Prop := WFr 1 k j ∨ WFr 18 k j
/-- the trees of a factors' object -/
def TR9 (hs : List CE) (b : Nat) (d : Int) : Prop := ∃ t : Int64, rd hs b 0 = .long t ∧ t.toInt = d
theorem FLS.cellb {hs h2 : List CE} {b : Nat} (h : FLS hs b) (e : ∀ k, b ≤ k → k ≤ b + 16 → h2[k]? = hs[k]?) : FLS h2 b := by
  obtain ⟨h0, h1, ⟨a1, a2, a3⟩, ⟨s1, s2, s3⟩, r1, r2, r3⟩ := h
  have r : ∀ k, b ≤ k → k ≤ b + 16 → ∀ j, rd h2 k j = rd hs k j := fun k q1 q2 j => rd_of (e k q1 q2) j
  have s : ∀ k, b ≤ k → k ≤ b + 16 → shp h2 k = shp hs k := fun k q1 q2 => shp_eqc (e k q1 q2)
  exact ⟨h0, (s _ (by omega) (by omega)).trans h1, ⟨(r _ (by omega) (by omega) _).trans a1, (r _ (by omega) (by omega) _).trans a2, (r _ (by omega) (by omega) _).trans a3⟩, ⟨(s _ (by omega) (by omega)).trans s1, (s _ (by omega) (by omega)).trans s2, (s _ (by omega) (by omega)).trans s3⟩, fun i hi => ⟨(r _ (by omega) (by omega) _).trans (r1 i hi).1, (s _ (by omega) (by omega)).trans (r1 i hi).2⟩, fun i hi => ⟨(r _ (by omega) (by omega) _).trans (r2 i hi).1, (s _ (by omega) (by omega)).trans (r2 i hi).2⟩, fun i hi => ⟨(r _ (by omega) (by omega) _).trans (r3 i hi).1, (s _ (by omega) (by omega)).trans (r3 i hi).2⟩⟩
theorem RD0.fr {W : Nat → Nat → Prop} {hs h2 : List CE} {tx : Nat → Int} {L ec ep : Int} (h : RD0 hs tx L ec ep) (f : FrS W hs h2) (hw : ∀ k j, W k j → k ≠ 54 ∧ k ≠ 55) : RD0 h2 tx L ec ep := by
  obtain ⟨s54, s55, r3, r4, hT, ⟨xL, e0, qL⟩, ⟨x1, e1, q1⟩, ⟨x2, e2, q2⟩, ⟨x7, e7⟩, ⟨x8, e8⟩, ⟨x10, e10⟩, hL0, hL7⟩ := h
  have w : ∀ j, rd h2 54 j = rd hs 54 j := fun j => f.2.2 54 j (fun z => (hw _ _ z).1 rfl)
  exact ⟨(f.2.1 54).trans s54, (f.2.1 55).trans s55, (w 3).trans r3, (w 4).trans r4, hT.fr f (fun j z => (hw _ _ z).2 rfl), ⟨xL, (w 0).trans e0, qL⟩, ⟨x1, (w 1).trans e1, q1⟩, ⟨x2, (w 2).trans e2, q2⟩, ⟨x7, (w 7).trans e7⟩, ⟨x8, (w 8).trans e8⟩, ⟨x10, (w 10).trans e10⟩, hL0, hL7⟩
/-- the class's own fields but the grid -/
def GP9 (hs : List CE) : Prop := shp hs 0 = some (0, 7) ∧ rd hs 0 0 = .ref 54 ∧ rd hs 0 1 = .ref 73 ∧ rd hs 0 2 = .ref 1 ∧ rd hs 0 3 = .ref 18 ∧ rd hs 0 4 = .ref 35 ∧ rd hs 0 5 = .ref 36 ∧ shp hs 36 = some (40, 4)
theorem GP9.fr {W : Nat → Nat → Prop} {hs h2 : List CE} (h : GP9 hs) (f : FrS W hs h2) (hw : ∀ j, j < 6 → ¬ W 0 j) : GP9 h2 :=
  ⟨(f.2.1 0).trans h.1, (f.2.2 0 0 (hw 0 (by decide))).trans h.2.1, (f.2.2 0 1 (hw 1 (by decide))).trans h.2.2.1, (f.2.2 0 2 (hw 2 (by decide))).trans h.2.2.2.1, (f.2.2 0 3 (hw 3 (by decide))).trans h.2.2.2.2.1, (f.2.2 0 4 (hw 4 (by decide))).trans h.2.2.2.2.2.1, (f.2.2 0 5 (hw 5 (by decide))).trans h.2.2.2.2.2.2.1, (f.2.1 36).trans h.2.2.2.2.2.2.2⟩
theorem GP9.cell {hs h2 : List CE} (h : GP9 hs) (e0 : h2[0]? = hs[0]?) (e36 : h2[36]? = hs[36]?) : GP9 h2 :=
  ⟨(shp_eqc e0).trans h.1, (rd_of e0 0).trans h.2.1, (rd_of e0 1).trans h.2.2.1, (rd_of e0 2).trans h.2.2.2.1, (rd_of e0 3).trans h.2.2.2.2.1, (rd_of e0 4).trans h.2.2.2.2.2.1, (rd_of e0 5).trans h.2.2.2.2.2.2.1, (shp_eqc e36).trans h.2.2.2.2.2.2.2⟩
/-- the list of changes: how many; ka: its array (a: none yet) -/
def LSF (hs : List CE) (nc : Nat) : Prop := shp hs 35 = some (10, 3) ∧ (∃ m : Int32, rd hs 35 2 = .int m) ∧ (∃ x : Int32, rd hs 35 1 = .int x ∧ x.toInt = (nc : Int)) ∧ nc ≤ 10 ∧ ((rd hs 35 0 = .ref 7000000000002 ∧ nc = 0) ∨ ∃ ka : Nat, rd hs 35 0 = .ref ka ∧ 148 ≤ ka ∧ shp hs ka = some (39, 10))
/-- a grid that may stand in the class -/
def SPR (fv : Nat → Int) (o : Int) (nl ng nr n : Nat) : Prop := fv 0 = (n : Int) + 1 ∧ 1 ≤ n ∧ n ≤ 3 ∧ 1 ≤ fv 1 ∧ fv 1 ≤ 4 ∧ fv 2 = (nl : Int) ∧ nl ≤ 6 ∧ fv 3 = (ng : Int) ∧ ng ≤ 5 ∧ fv 4 = (nr : Int) ∧ nr ≤ 6 ∧ -1 ≤ o ∧ o ≤ 5 ∧ LRG fv nl ∧ CutOK fv nl (-1) n
/-- what load may write once the text is read -/
def WLD (a k j : Nat) : Prop := (k = 0 ∧ j = 6) ∨ k = 35 ∨ k = a ∨ k = 36 ∨ (1 ≤ k ∧ k ≤ 34 ∧ (WFr 1 k j ∨ WFr 18 k j))
/-- what load leaves -/
def LDP (hs h2 : List CE) (tx : Nat → Int) (F2 : Nat → Nat → Int32) (fv2 gv2 : Nat → Int) (o2 : Int) (nl ng nr n : Nat) : Prop := GIM h2 hs.length F2 ∧ REL F2 fv2 gv2 o2 ∧ SPR fv2 o2 nl ng nr n ∧ RD0 h2 tx 0 0 (-1) ∧ FLS h2 1 ∧ FLS h2 18 ∧ FLS h2 56 ∧ TR9 h2 1 (det3 (mT fv2 (fv2 0) (-1) nl)) ∧ TR9 h2 18 (det3 (mT fv2 (fv2 0) o2 nl)) ∧ GP9 h2 ∧ rd h2 0 6 = .ref hs.length ∧ LSF h2 0 ∧ rd h2 35 0 = rd hs 35 0

section CRDM9
variable {g0 : GG} {bl : Nat} {xs : Nat → Int32} {l : Launch} {hs : List CE} {tx : Nat → Int} {g nl : Nat} {F : Nat → Nat → Int32} {fv gv : Nat → Int} {o : Int}

theorem cx_factors (s0 : shp hs 0 = some (0, 7)) (e2 : rd hs 0 2 = .ref 1) (e3 : rd hs 0 3 = .ref 18) (e6 : rd hs 0 6 = .ref g) (hF1 : FLS hs 1) (hF18 : FLS hs 18) (hG : GIM hs g F) (hR : REL F fv gv o) (hnl2 : fv 2 = (nl : Int)) (hl6 : nl ≤ 6) (hn2 : 2 ≤ fv 0) (hn4 : fv 0 ≤ 4) (hr : LRG fv nl) : BodyN SSX TBL g0 CLS bl xs l D_16 3 74 0 0 [.ref 0] hs (fun kd r h2 => kd = 0 ∧ r = none ∧ FLS h2 1 ∧ FLS h2 18 ∧ TR9 h2 1 (det3 (mT fv (fv 0) (-1) nl)) ∧ TR9 h2 18 (det3 (mT fv (fv 0) o nl)) ∧ GIM h2 g F ∧ FrS W118 hs h2) := by
  intro wp p e R sW m args below meth cW Q kc0 ks0 kc ks act hf hl hc hsl hEnd
  have hf : 3 ≤ R.frames := hf
  have hl : 74 ≤ R.locals := hl
  have hg0 := hG.1.1
  show WpN (gp g0 wp) CLS p l e R sW m args below meth cW Q D_16.2.2.1 kc0 ks0 0 [some (.ref 0)] (hs, kc, ks) []
  refine g_loadA act (gx gp_16 (w := 0x103) rfl (by decide) rfl) (a := 0) (n := 1) rfl rfl rfl ?_
  refine r_getf act (gx gp_16 (w := 0x3000080000404) rfl (by decide) rfl) (n := 4) (ci := 0) (j := 2) (N := 7) rfl rfl rfl s0 (by decide) (v := .ref 1) e2 ?_
  refine g_loadA act (gx gp_16 (w := 0x503) rfl (by decide) rfl) (a := 0) (n := 5) rfl rfl rfl ?_
  refine r_getf act (gx gp_16 (w := 0x3000180000804) rfl (by decide) rfl) (n := 8) (ci := 0) (j := 6) (N := 7) rfl rfl rfl s0 (by decide) (v := .ref g) e6 ?_
  refine g_constI act (gx gp_16 (w := 0x3fffffffbfffffff9000000000901) rfl (by decide) rfl) (n := 9) (x := (-1 : Int32)) (by decide) rfl ?_
  refine n_call tb_pres act hEnd (gx (P := G_call) gp_16 (w := 0x200000000000081c3300004b000c0f) rfl (by decide) rfl) (d' := D_75) rfl (f' := 2) (lam' := 48) (mc := 0) (ms := 0) (as := [.ref 1, .ref g, .int (-1 : Int32)]) (rest := []) (cx_cmp (b := 1) (o := o) hF1 hG hR (by omega) (show (-1 : Int32).toInt = -1 by decide) hnl2 hl6 hn2 hn4 hr) (show (3 : Nat) = fb 0x200000000000081c3300004b000c0f % 16 by decide) (by show (3 : Nat) ≤ 7; decide) (fun _ => ⟨_, _, rfl, _, shp_at hF1.2.1, Or.inr (show fb 0x200000000000081c3300004b000c0f >>> 68 = 2 by decide)⟩) (by omega) (by show 8 + (7 + 11) + 48 ≤ R.locals; omega) (by show (0 : Nat) ≤ 8; decide) (by show kc + 0 ≤ _; omega) (by show ks + 0 ≤ _; omega) (fun r9 h1 hpo hr9 => ?_) (fun x9 hs9 hx9 hpo => ?_)
  · obtain rfl : r9 = none := hr9.elim (fun q => q.2) (fun q => absurd rfl q.1)
    obtain ⟨-, -, hF1b, ht1, fr1⟩ := hpo
    have hG1 := hG.frF fr1 (fun k9 j9 h9 => by unfold WFr at h9; omega)
    have q1 := (fr1.2.1 0).trans s0
    have q2 := (fr1.2.2 0 2 (fun z => by unfold WFr at z; omega)).trans e2
    have q3 := (fr1.2.2 0 3 (fun z => by unfold WFr at z; omega)).trans e3
    have q6 := (fr1.2.2 0 6 (fun z => by unfold WFr at z; omega)).trans e6
    have hF18b := hF18.fr fr1 (fun k9 j9 h9 => by unfold WFr at h9 ⊢; omega)
    show WpN (gp g0 wp) CLS p l e R sW m args below meth cW Q D_16.2.2.1 kc0 ks0 12 [some (.ref 0)] (h1, kc, ks) []
    refine g_loadA act (gx gp_16 (w := 0xd03) rfl (by decide) rfl) (a := 0) (n := 13) rfl rfl rfl ?_
    refine r_getf act (gx gp_16 (w := 0x30000c0001004) rfl (by decide) rfl) (n := 16) (ci := 0) (j := 3) (N := 7) rfl rfl rfl q1 (by decide) (v := .ref 18) q3 ?_
    refine g_loadA act (gx gp_16 (w := 0x1103) rfl (by decide) rfl) (a := 0) (n := 17) rfl rfl rfl ?_
    refine r_getf act (gx gp_16 (w := 0x3000180001404) rfl (by decide) rfl) (n := 20) (ci := 0) (j := 6) (N := 7) rfl rfl rfl q1 (by decide) (v := .ref g) q6 ?_
    refine g_loadA act (gx gp_16 (w := 0x1503) rfl (by decide) rfl) (a := 0) (n := 21) rfl rfl rfl ?_
    refine r_getf act (gx gp_16 (w := 0x3000180001804) rfl (by decide) rfl) (n := 24) (ci := 0) (j := 6) (N := 7) rfl rfl rfl q1 (by decide) (v := .ref g) q6 ?_
    refine r_getf act (gx gp_16 (w := 0x144001b04) rfl (by decide) rfl) (n := 27) (ci := 4) (j := 5) (N := 18) rfl rfl rfl hG1.1.2.1 (by decide) (v := .int (F 0 5)) (hG1.2 0 5 (Or.inl ⟨rfl, by decide⟩)) ?_
    refine n_call tb_pres act hEnd (gx (P := G_call) gp_16 (w := 0x200000000000081c3300004b001e0f) rfl (by decide) rfl) (d' := D_75) rfl (f' := 2) (lam' := 48) (mc := 0) (ms := 0) (as := [.ref 18, .ref g, .int (F 0 5)]) (rest := []) (cx_cmp (b := 18) (o := o) hF18b hG1 hR (by omega) hR.2.2.2.2.2.1 hnl2 hl6 hn2 hn4 hr) (show (3 : Nat) = fb 0x200000000000081c3300004b001e0f % 16 by decide) (by show (3 : Nat) ≤ 7; decide) (fun _ => ⟨_, _, rfl, _, shp_at hF18b.2.1, Or.inr (show fb 0x200000000000081c3300004b001e0f >>> 68 = 2 by decide)⟩) (by omega) (by show 8 + (7 + 11) + 48 ≤ R.locals; omega) (by show (0 : Nat) ≤ 8; decide) (by show kc + 0 ≤ _; omega) (by show ks + 0 ≤ _; omega) (fun r9 h2 hpo hr9 => ?_) (fun x9 hs9 hx9 hpo => ?_)
    · obtain rfl : r9 = none := hr9.elim (fun q => q.2) (fun q => absurd rfl q.1)
      obtain ⟨-, -, hF2, ht2, fr2⟩ := hpo
      show WpN (gp g0 wp) CLS p l e R sW m args below meth cW Q D_16.2.2.1 kc0 ks0 30 [some (.ref 0)] (h2, kc, ks) []
      have hG2 := hG1.frF fr2 (fun k9 j9 h9 => by unfold WFr at h9; omega)
      obtain ⟨t1, t2, t3⟩ := ht1
      exact g_retV hEnd (gx gp_16 (w := 0x18) rfl (by decide) rfl) ⟨rfl, rfl, hF1b.fr fr2 (fun k9 j9 h9 => by unfold WFr at h9 ⊢; omega), hF2, ⟨t1, (fr2.2.2 1 0 (fun z => by unfold WFr at z; omega)).trans t2, t3⟩, ht2, hG2, (fr1.mono (fun _ _ z => Or.inl z)).tr (fr2.mono (fun _ _ z => Or.inr z))⟩ (by show kc ≤ kc + 0; omega) (by show ks ≤ ks + 0; omega)
    · exact absurd hpo.1 (by omega)
  · exact absurd hpo.1 (by omega)

end CRDM9
