/-! The law's invariant behind both calls: undo, append, truncate, load. -/
section LJU
variable {hs h1 h2 h3 : List CE} {R R2 : List Nat} {tx : Nat → Int} {L : Nat} {ec ep : Int} {fv w pv : Nat → Int} {nl n ng nr np : Nat} {ch : Nat → Nat → Int} {g : Nat} {F : Nat → Nat → Int32} {r : Option Value} {kd : Nat}
def UPO (hs : List CE) (tx : Nat → Int) (L : Nat) (ec ep : Int) (g : Nat) (fv w : Nat → Int) (nl ng nr n np : Nat) (ch : Nat → Nat → Int) : Nat → Option Value → List CE → Prop := fun kd r h2 => (kd = 1 ∧ r = none ∧ np = 0 ∧ hs = h2) ∨ (kd = 0 ∧ 1 ≤ np ∧ (∃ x : Int32, r = some (.int x) ∧ x.toInt = (np : Int) - 1) ∧ COk hs h2 tx (L : Int) ec ep g fv (upC (ch (np - 1)) w) (upC (ch (np - 1)) w 38) nl ng nr n (np - 1) ch)
theorem und_row (hS : SJ tx L fv w pv nl n ng nr np ch) (h1 : 1 ≤ np) : CGd (ch (np - 1)) ∧ (∀ q, q < 39 → upC (ch (np - 1)) w q = pv (39 * (np - 1) + q)) ∧ NWx fv (upC (ch (np - 1)) w) nl n ng nr := by
  have a := hS.2.2.2.2.2 (np - 1) (by omega)
  have e : ∀ q, q < 39 → upC (ch (np - 1)) w q = pv (39 * (np - 1) + q) := fun q hq => by
    rw [a.2 q hq, if_pos (by omega)]
  exact ⟨a.1, e, (hS.2.2.2.2.1 (np - 1) (by omega)).cong e⟩
theorem und_gd {o : Int} (hS : SJ tx L fv w pv nl n ng nr np ch) (hP : SPR fv o nl ng nr n) : 1 ≤ np → CGd (ch (np - 1)) ∧ SPR fv (upC (ch (np - 1)) w 38) nl ng nr n := fun h1 => by
  obtain ⟨a, -, b⟩ := und_row hS h1
  obtain ⟨w0, w1, w2, w3, w4, w5, w6, w7, w8, w9, wa, wb, wc, wd, we⟩ := hP
  have hG := b.1.2.2.2.2.2.2.2.2.2.1.2.2.2.2.2
  exact ⟨a, w0, w1, w2, w3, w4, w5, w6, w7, w8, w9, wa, by omega, by omega, wd, we⟩
theorem und_h0 (hT : HTy KCQ R hs) (hr : LRo R) (hJ : CHJ hs tx L ec ep fv w nl ng nr n np ch g) (hM : MXS hs fv w pv nl n ng nr np) (hlen : hs.length ≤ 6999999999999) : ∀ r h1, UPO hs tx L ec ep g fv w nl ng nr n np ch 0 r h1 → (∃ x : Int32, r = some (.int x)) ∧ shp h1 146 = some (33, 1) := fun r h1 h => by
  rcases h with ⟨z, -⟩ | ⟨-, -, ⟨x, e, -⟩, q⟩
  · exact absurd z (by decide)
  · exact ⟨⟨x, e⟩, cok_146 hT hr hJ hM hlen q⟩
theorem und_hx : ∀ kd r h1, kd ≠ 0 → UPO hs tx L ec ep g fv w nl ng nr n np ch kd r h1 → kd = 1 := fun kd r h1 h0 h => by
  rcases h with ⟨z, -⟩ | ⟨z, -⟩
  · exact z
  · exact absurd z h0
theorem und_c1 (hT : HTy KCQ R hs) (hI : InvCQ R hs) (hr : LRo R) (hJ : CHJ hs tx L ec ep fv w nl ng nr n np ch g) (hM : MXS hs fv w pv nl n ng nr np) (hX : MTX hs tx L ec ep) (hlen : hs.length + 3 ≤ 6999999999999) (hS : SJ tx L fv w pv nl n ng nr np ch) (hpo : PW1 1 (UPO hs tx L ec ep g fv w nl ng nr n np ch) kd r h2) (hA : AL9 h2) : ∃ (x6 : Int32) (R2 : List Nat), r = some (.int x6) ∧ h2.length ≤ hs.length + 2 ∧ MXS h2 fv w pv nl n ng nr np ∧ ((1 ≤ np ∧ x6 = 0 ∧ LH h2 R2 tx L ec ep fv w pv nl n ng nr np tx L ec ep fv (upC (ch (np - 1)) w) nl n ng nr (np - 1) ch g ∧ ∃ y : Int32, rd h2 146 0 = .long y.toInt64 ∧ y.toInt = (np : Int) - 1) ∨ (np = 0 ∧ x6 = 1 ∧ hs = h2 ∧ R2 = R)) := by
  obtain ⟨-, ⟨x, h1, rfl, q, rfl⟩ | ⟨rfl, q⟩⟩ := hpo
  · rcases q with ⟨z, -⟩ | ⟨-, h9, ⟨y, e, ey⟩, q⟩
    · exact absurd z (by decide)
    · have hxy : x = y := by
        have := Option.some.inj e
        cases this
        rfl
      subst hxy
      obtain ⟨R2, h⟩ := lj_cok (x := x.toInt64) hT hI hr hJ hM hX hlen hS.2.1 hS.2.2.1 q rfl (by have := hM.2.2.2.1; omega) (und_row hS h9).2.2 hA
      exact ⟨0, R2, rfl, by rw [wr_len]; exact q.2.2.2.2.1, h.2.2.2.2.1, Or.inl ⟨h9, rfl, h, x, rd_same (cok_146 hT hr hJ hM (by omega) q), ey⟩⟩
  · rcases q with ⟨-, -, a, rfl⟩ | ⟨z, -⟩
    · exact ⟨1, R, rfl, Nat.le_add_right _ _, hM, Or.inr ⟨a, rfl, rfl, rfl⟩⟩
    · exact absurd z (by decide)
theorem und_c2 {x6 : Int32} (hT : HTy KCQ R hs) (hI : InvCQ R hs) (hr : LRo R) (hJ : CHJ hs tx L ec ep fv w nl ng nr n np ch g) (hM : MXS hs fv w pv nl n ng nr np) (hX : MTX hs tx L ec ep) (hS : SJ tx L fv w pv nl n ng nr np ch) (hc : (1 ≤ np ∧ x6 = 0 ∧ LH h2 R2 tx L ec ep fv w pv nl n ng nr np tx L ec ep fv (upC (ch (np - 1)) w) nl n ng nr (np - 1) ch g ∧ ∃ y : Int32, rd h2 146 0 = .long y.toInt64 ∧ y.toInt = (np : Int) - 1) ∨ (np = 0 ∧ x6 = 1 ∧ hs = h2 ∧ R2 = R)) (hpo : (np = 0 ∧ SBad h2 h3 fv w pv nl n ng nr np 1 r) ∨ (1 ≤ np ∧ (∃ x : Int32, r = some (.int x) ∧ x.toInt = (np : Int) - 1) ∧ rd h3 124 0 = .int 0 ∧ FrS WST h2 h3 ∧ ∃ w2 : Nat → Int, (∀ q, q < 39 → w2 q = pv (39 * (np - 1) + q)) ∧ MXS h3 fv w2 pv nl n ng nr (np - 1))) : LJ h3 R2 tx L ec ep ∧ h3.length = h2.length ∧ rd h3 124 0 = .int x6 ∧ ∃ b7 : Int32, r = some (.int b7) ∧ (x6 = 0 → rd h3 146 0 = .long b7.toInt64) := by
  rcases hc with ⟨a, rfl, ⟨t1, t2, t3, t4, t5, t6⟩, y, ey, ey2⟩ | ⟨a, rfl, rfl, rfl⟩
  · rcases hpo with ⟨q, -⟩ | ⟨-, ⟨z, rfl, ez⟩, e0, f, w2, hw, hM3⟩
    · omega
    · obtain ⟨-, e, -⟩ := und_row hS a
      have e2 : ∀ q, q < 39 → w2 q = upC (ch (np - 1)) w q := fun q hq => (hw q hq).trans (e q hq).symm
      obtain ⟨⟨F2, hC2⟩, hT2, hL2⟩ := t4
      have hC3 := hC2.cong (gv2 := w2) (fun j hj => e2 j (by omega))
      rw [← e2 38 (by decide)] at hC3 hT2
      refine ⟨LJ.fr t1 t2 t3 t5.1.1 f WST_rng ⟨⟨F2, hC3⟩, hT2, hL2⟩ ⟨hS.1, hS.2.1, hS.2.2.1, hM3.2.2.2.2.1, fun i hi => hS.2.2.2.2.1 i (by omega), hS.2.2.2.2.2.undo hw⟩ hM3 (t6.same (fun k j hk => f.2.2 k j (by unfold WST; omega))), f.1, e0, z, rfl, fun _ => ?_⟩
      rw [f.2.2 146 0 (by unfold WST; omega), ey, i_sm (show y.toInt = z.toInt by omega)]
  · rcases hpo with ⟨-, rfl, e0, f, hM3⟩ | ⟨q, -⟩
    · exact ⟨lj_z0 hT hI hr hS hJ hM hX f hM3, f.1, e0, 0, rfl, fun z => absurd z (by decide)⟩
    · omega
/-! append, truncate -/
def TPO (k : Nat) (hs : List CE) (A : Prop) (v : Int) (tx2 : Nat → Int) (L2 : Nat) : Nat → Option Value → List CE → Prop := fun kd r h2 => (kd = 0 ∧ A ∧ (∃ x : Int32, r = some (.int x) ∧ x.toInt = v) ∧ GRT h2 tx2 L2 ∧ FrS WT5 hs h2) ∨ (kd = k ∧ r = none ∧ ¬ A ∧ hs = h2)
theorem txt_h0 {k : Nat} {A : Prop} {v : Int} {tx2 : Nat → Int} {L2 : Nat} (hk : k ≠ 0) (hT : HTy KCQ R hs) (hr : LRo R) : ∀ r h1, TPO k hs A v tx2 L2 0 r h1 → (∃ x : Int32, r = some (.int x)) ∧ shp h1 146 = some (33, 1) := fun r h1 h => by
  rcases h with ⟨-, -, ⟨x, e, -⟩, -, f⟩ | ⟨z, -⟩
  · exact ⟨⟨x, e⟩, (f.2.1 146).trans (ty_shpQ hT hr.2.2.2.2.2.2.2.1 (by decide) (by decide) (by decide))⟩
  · exact absurd z.symm hk
theorem txt_hx {k : Nat} {A : Prop} {v : Int} {tx2 : Nat → Int} {L2 : Nat} : ∀ kd r h1, kd ≠ 0 → TPO k hs A v tx2 L2 kd r h1 → kd = k := fun kd r h1 h0 h => by
  rcases h with ⟨z, -⟩ | ⟨z, -⟩
  · exact absurd z h0
  · exact z
theorem grt_of {F : Nat → Nat → Int32} {o : Int} (hC : CLN hs tx (L : Int) ec ep g F fv w o nl ng nr n) : GRT hs tx L := by
  obtain ⟨s54, s55, r3, r4, hT, e0, -⟩ := hC.2.2.1
  exact ⟨hC.1.1, hC.1.2.1, ⟨s54, s55, r3⟩, hT, e0⟩
theorem txt_c1 {k : Nat} {A : Prop} {v : Int} {tx2 : Nat → Int} {L2 : Nat} (hk : k ≠ 0) (hT : HTy KCQ R hs) (hI : InvCQ R hs) (hr : LRo R) (hJ : CHJ hs tx L ec ep fv w nl ng nr n np ch g) (hM : MXS hs fv w pv nl n ng nr np) (hX : MTX hs tx L ec ep) (hL2 : A → L2 ≤ 700) (hpo : PW1 k (TPO k hs A v tx2 L2) kd r h2) : ∃ x6 : Int32, r = some (.int x6) ∧ h2.length ≤ hs.length ∧ MXS h2 fv w pv nl n ng nr np ∧ MTX h2 tx L ec ep ∧ ((A ∧ x6 = 0 ∧ LH h2 R tx L ec ep fv w pv nl n ng nr np tx2 L2 ec ep fv w nl n ng nr np ch g ∧ ∃ y : Int32, rd h2 146 0 = .long y.toInt64 ∧ y.toInt = v) ∨ (¬ A ∧ x6 = 1 ∧ hs = h2)) := by
  obtain ⟨-, ⟨x, h1, rfl, q, rfl⟩ | ⟨rfl, q⟩⟩ := hpo
  · rcases q with ⟨-, a, ⟨y, e, ey⟩, hG, f⟩ | ⟨z, -⟩
    · have hxy : x = y := by
        have := Option.some.inj e
        cases this
        rfl
      subst hxy
      have h := lj_txt (x := x.toInt64) hT hI hr hJ hM hX f hG (hL2 a)
      exact ⟨0, rfl, by rw [wr_len, f.1]; exact Nat.le_refl _, h.2.2.2.2.1, h.2.2.2.2.2, Or.inl ⟨a, rfl, h, x, rd_same ((f.2.1 146).trans (ty_shpQ (a := 33) (b := 1) hT hr.2.2.2.2.2.2.2.1 (by decide) (by decide) (by decide))), ey⟩⟩
    · exact absurd z.symm hk
  · rcases q with ⟨z, -⟩ | ⟨-, -, a, rfl⟩
    · exact absurd z hk
    · exact ⟨1, rfl, Nat.le_refl _, hM, hX, Or.inr ⟨a, rfl, rfl⟩⟩
theorem MXS.t6 {c : Int32} (h : MXS hs fv w pv nl n ng nr np) (f : FrS WT6 hs h2) (hR : RW h2) (e0 : rd h2 124 0 = .int c) (c0 : 0 ≤ c.toInt) (c4 : c.toInt ≤ 4) : MXS h2 fv w pv nl n ng nr np := by
  obtain ⟨⟨-, b2, b3⟩, hPa, ⟨p9, e6, hp9⟩, h10, hN, hM⟩ := h
  exact ⟨⟨hR, b2.fr (fun j _ => f.2.2 125 j (by unfold WT6; omega)), b3.fr (fun j _ => f.2.2 127 j (by unfold WT6; omega))⟩, hPa.fr (fun j _ => f.2.2 129 j (by unfold WT6; omega)), ⟨p9, (f.2.2 124 6 (by unfold WT6; omega)).trans e6, hp9⟩, h10, hN, hM.frw (f.mono (fun k j q => by unfold WT6 at q; unfold WR0; omega)) ⟨c, e0, c0, c4⟩⟩
theorem MTX.t6 {tx2 : Nat → Int} {L2 : Nat} (h : MTX hs tx L ec ep) (f : FrS WT6 hs h2) (hR : MRT h2 tx2 L2) : MTX h2 tx2 L2 ec ep := by
  obtain ⟨a, ⟨x1, b1, b2⟩, ⟨x2, c1⟩, ⟨x3, d1, d2⟩, ⟨x4, e1, e2⟩, ⟨x5, f1⟩, ⟨x6, g1⟩, ⟨f9, i1⟩, ⟨g9, j1⟩⟩ := h
  exact ⟨hR.1, hR.2, ⟨x2, (f.2.2 124 11 (by unfold WT6; omega)).trans c1⟩, ⟨x3, (f.2.2 124 12 (by unfold WT6; omega)).trans d1, d2⟩, ⟨x4, (f.2.2 124 13 (by unfold WT6; omega)).trans e1, e2⟩, ⟨x5, (f.2.2 124 14 (by unfold WT6; omega)).trans f1⟩, ⟨x6, (f.2.2 124 15 (by unfold WT6; omega)).trans g1⟩, ⟨f9, i1.fr (fun j _ => f.2.2 126 j (by unfold WT6; omega))⟩, ⟨g9, j1.fr (fun j _ => f.2.2 128 j (by unfold WT6; omega))⟩⟩
theorem mrt_of (hX : MTX hs tx L ec ep) : MRT hs tx L := ⟨hX.1, hX.2.1⟩
theorem m0_of (hM : MXS hs fv w pv nl n ng nr np) : ∃ x : Int32, rd hs 124 0 = .int x := hM.2.2.2.2.2.1.elim fun x q => ⟨x, q.1⟩
theorem txt_c2 {A : Prop} {v : Int} {tx2 : Nat → Int} {L2 : Nat} {x6 : Int32} (hT : HTy KCQ R hs) (hI : InvCQ R hs) (hr : LRo R) (hJ : CHJ hs tx L ec ep fv w nl ng nr n np ch g) (hM : MXS hs fv w pv nl n ng nr np) (hX : MTX hs tx L ec ep) (hS : SJ tx L fv w pv nl n ng nr np ch) (hL2 : A → L2 ≤ 700) (h0 : ∀ j, 0 ≤ tx2 j) (hc : (A ∧ x6 = 0 ∧ LH h2 R tx L ec ep fv w pv nl n ng nr np tx2 L2 ec ep fv w nl n ng nr np ch g ∧ ∃ y : Int32, rd h2 146 0 = .long y.toInt64 ∧ y.toInt = v) ∨ (¬ A ∧ x6 = 1 ∧ hs = h2)) (hpo : ((A ∧ (∃ x : Int32, r = some (.int x) ∧ x.toInt = v) ∧ rd h3 124 0 = .int 0 ∧ MRT h3 tx2 L2) ∨ (¬ A ∧ r = some (.int 0) ∧ rd h3 124 0 = .int 1 ∧ MRT h3 tx L)) ∧ RW h3 ∧ FrS WT6 h2 h3) : (∃ (tx3 : Nat → Int) (L3 : Nat), LJ h3 R tx3 L3 ec ep) ∧ h3.length = h2.length ∧ rd h3 124 0 = .int x6 ∧ ∃ b7 : Int32, r = some (.int b7) ∧ (x6 = 0 → rd h3 146 0 = .long b7.toInt64) := by
  obtain ⟨hpo, hR, f⟩ := hpo
  rcases hc with ⟨a, rfl, ⟨t1, t2, t3, t4, t5, t6⟩, y, ey, ey2⟩ | ⟨a, rfl, rfl⟩
  · rcases hpo with ⟨-, ⟨z, rfl, ez⟩, e0, hm⟩ | ⟨q, -⟩
    · refine ⟨⟨tx2, L2, LJ.fr t1 t2 t3 t5.1.1 f WT6_rng t4 ⟨h0, hL2 a, hS.2.2⟩ (t5.t6 f hR e0 (by decide) (by decide)) (t6.t6 f hm)⟩, f.1, e0, z, rfl, fun _ => ?_⟩
      rw [f.2.2 146 0 (by unfold WT6; omega), ey, i_sm (show y.toInt = z.toInt by omega)]
    · exact absurd a q
  · rcases hpo with ⟨q, -⟩ | ⟨-, rfl, e0, hm⟩
    · exact absurd q a
    · exact ⟨⟨tx, L, LJ.fr hT hI hr hM.1.1 f WT6_rng hJ hS (hM.t6 f hR e0 (by decide) (by decide)) (hX.t6 f hm)⟩, f.1, e0, 0, rfl, fun z => absurd z (by decide)⟩
/-! load -/
def LPO (hs : List CE) (tx : Nat → Int) (L : Nat) : Nat → Option Value → List CE → Prop := fun kd r h2 => (kd = 0 ∧ (∃ (s2 o2 : Int) (F2 : Nat → Nat → Int32) (fv2 gv2 : Nat → Int) (nl ng nr n : Nat), (∃ x : Int32, r = some (.int x) ∧ x.toInt = fv2 2) ∧ sText tx (L : Int) = (0, s2, (fv2, upI gv2 38 o2), nl, ng, nr) ∧ LDP hs h2 tx F2 fv2 gv2 o2 nl ng nr n) ∧ h2.length = hs.length + 17 ∧ KPL hs h2 ∧ N36 h2) ∨ (kd = 3 ∧ r = none ∧ (sText tx (L : Int)).1 ≠ 0 ∧ RD0 h2 tx 0 (sText tx (L : Int)).1 (sText tx (L : Int)).2.1 ∧ h2.length = hs.length + 17 ∧ FLS h2 56 ∧ ∀ k, k < hs.length → k ≠ 54 → ¬ (56 ≤ k ∧ k ≤ 72) → h2[k]? = hs[k]?)
theorem ld_keep {hs h1 : List CE} {tx : Nat → Int} {L : Nat} {r : Option Value} {kd : Nat} (hT : HTy KCQ R hs) (hr : LRo R) (hL : LSC hs np ch) (h : LPO hs tx L kd r h1) : ∀ k : Nat, 124 ≤ k → k ≤ 147 → h1[k]? = hs[k]? := fun k k1 k2 => by
  have hkl : k < hs.length := by
    rw [← hT.1]
    have := (List.getElem?_eq_some_iff.mp hr.2.2.2.2.2.2.2.2).1
    omega
  rcases h with ⟨-, -, -, q, -⟩ | ⟨-, -, -, -, -, -, q⟩
  · exact q k hkl (by omega) (by omega) (by omega) (fun a z y => by have := (hL.arr z).1; omega)
  · exact q k hkl (by omega) (by omega)
theorem ld_h0 (hT : HTy KCQ R hs) (hr : LRo R) (hL : LSC hs np ch) : ∀ r h1, LPO hs tx L 0 r h1 → (∃ x : Int32, r = some (.int x)) ∧ shp h1 146 = some (33, 1) := fun r h1 h => by
  have e := ld_keep hT hr hL h 146 (by decide) (by decide)
  refine ⟨?_, (shp_eqc e).trans (ty_shpQ hT hr.2.2.2.2.2.2.2.1 (by decide) (by decide) (by decide))⟩
  rcases h with ⟨-, ⟨s2, o2, F2, fv2, gv2, nl, ng, nr, n, ⟨x, q, -⟩, -⟩, -⟩ | ⟨z, -⟩
  · exact ⟨x, q⟩
  · exact absurd z (by decide)
theorem ld_hx : ∀ kd r h1, kd ≠ 0 → LPO hs tx L kd r h1 → kd = 3 := fun kd r h1 h0 h => by
  rcases h with ⟨z, -⟩ | ⟨z, -⟩
  · exact absurd z h0
  · exact z
theorem ld_c1 (hT : HTy KCQ R hs) (hr : LRo R) (hJ : CHJ hs tx L ec ep fv w nl ng nr n np ch g) (hM : MXS hs fv w pv nl n ng nr np) (hX : MTX hs tx L ec ep) (hpo : PW1 3 (LPO hs tx L) kd r h2) : ∃ x6 : Int32, r = some (.int x6) ∧ h2.length = hs.length + 17 ∧ MXS h2 fv w pv nl n ng nr np ∧ MTX h2 tx L ec ep ∧ ((x6 = 0 ∧ ∃ (x : Int32) (h1 : List CE), LPO hs tx L 0 (some (.int x)) h1 ∧ h2 = wr h1 146 0 (.long x.toInt64)) ∨ (x6 = 1 ∧ LPO hs tx L 3 none h2)) := by
  obtain ⟨-, ⟨x, h1, rfl, q, rfl⟩ | ⟨rfl, q⟩⟩ := hpo
  · have e := ld_keep hT hr hJ.2.2 q
    have em : ∀ k : Nat, 124 ≤ k → k ≤ 145 → (wr h1 146 0 (.long x.toInt64))[k]? = hs[k]? := fun k a b => (wr146 (by omega)).trans (e k a (by omega))
    refine ⟨0, rfl, ?_, hM.same em, hX.same (fun k j hk => rd_of (em k (by omega) (by omega)) j), Or.inl ⟨rfl, x, h1, q, rfl⟩⟩
    rw [wr_len]
    rcases q with ⟨-, -, z, -⟩ | ⟨z, -⟩
    · exact z
    · exact absurd z (by decide)
  · have e := ld_keep hT hr hJ.2.2 q
    have em : ∀ k : Nat, 124 ≤ k → k ≤ 145 → h2[k]? = hs[k]? := fun k a b => e k a (by omega)
    refine ⟨1, rfl, ?_, hM.same em, hX.same (fun k j hk => rd_of (em k (by omega) (by omega)) j), Or.inr ⟨rfl, q⟩⟩
    rcases q with ⟨z, -⟩ | ⟨-, -, -, -, z, -⟩
    · exact absurd z (by decide)
    · exact z
/-- the reference's load, from what is kept -/
theorem bx_ld {g0 : GG} {bl : Nat} {xs : Nat → Int32} {l : Launch} (hM : MXS hs fv w pv nl n ng nr np) (hX : MTX hs tx L ec ep) (h0 : ∀ j, 0 ≤ tx j) (hL7 : L ≤ 700) : BodyN SSX TBL g0 CLS bl xs l D_239 6 132 0 0 [.ref 124] hs (fun kd r h2 => kd = 0 ∧ MLD hs h2 tx (L : Int) r ∧ IArr h2 130 700 tx ∧ (∃ x : Int32, rd h2 124 10 = .int x ∧ x.toInt = 0) ∧ RW h2 ∧ FrS WR0 hs h2 ∧ IArr h2 129 390 pv ∧ (∃ x : Int32, rd h2 124 11 = .int x) ∧ (∃ x : Int32, rd h2 124 14 = .int x) ∧ (∃ x : Int32, rd h2 124 15 = .int x) ∧ (∃ f : Nat → Int, IArr h2 126 46 f) ∧ ∃ f : Nat → Int, IArr h2 128 39 f) := by
  obtain ⟨⟨rw0, hTo, hW⟩, hPa, ⟨p9, e6, hp9⟩, h10, hN, ⟨⟨x0, e0, -⟩, -⟩⟩ := hM
  obtain ⟨a, ⟨x1, b1, b2⟩, ⟨x2, c1⟩, ⟨x3, d1, d2⟩, ⟨x4, e1, e2⟩, ⟨x5, f1⟩, ⟨x6, g1⟩, ⟨f, i1⟩, ⟨g9, j1⟩⟩ := hX
  exact bx_load h0 rw0 hTo hW a i1 j1 hPa e0 e6 b1 b2 (by omega) (by omega) c1 d1 e1 g1 rfl f1
theorem ld_c2 {x6 : Int32} (hT : HTy KCQ R hs) (hI : InvCQ R hs) (hr : LRo R) (hJ : CHJ hs tx L ec ep fv w nl ng nr n np ch g) (hM : MXS hs fv w pv nl n ng nr np) (hX : MTX hs tx L ec ep) (hlen : hs.length + 40 ≤ 6999999999999) (hS : SJ tx L fv w pv nl n ng nr np ch) (hM2 : MXS h2 fv w pv nl n ng nr np) (hA : AL9 h2) (hc : (x6 = 0 ∧ ∃ (x : Int32) (h1 : List CE), LPO hs tx L 0 (some (.int x)) h1 ∧ h2 = wr h1 146 0 (.long x.toInt64)) ∨ (x6 = 1 ∧ LPO hs tx L 3 none h2)) (hpo : MLD h2 h3 tx (L : Int) r ∧ IArr h3 130 700 tx ∧ (∃ x : Int32, rd h3 124 10 = .int x ∧ x.toInt = 0) ∧ RW h3 ∧ FrS WR0 h2 h3 ∧ IArr h3 129 390 pv ∧ (∃ x : Int32, rd h3 124 11 = .int x) ∧ (∃ x : Int32, rd h3 124 14 = .int x) ∧ (∃ x : Int32, rd h3 124 15 = .int x) ∧ (∃ f : Nat → Int, IArr h3 126 46 f) ∧ ∃ f : Nat → Int, IArr h3 128 39 f) : (∃ (R2 : List Nat) (tx3 : Nat → Int) (L3 : Nat) (ec3 ep3 : Int), LJ h3 R2 tx3 L3 ec3 ep3) ∧ h3.length = h2.length ∧ rd h3 124 0 = .int x6 ∧ ∃ b7 : Int32, r = some (.int b7) ∧ (x6 = 0 → rd h3 146 0 = .long b7.toInt64) := by
  obtain ⟨hml, i130, ⟨x10, e10, q10⟩, hRW, f, i129, y11, y14, y15, i126, i128⟩ := hpo
  have h148 : 148 ≤ hs.length := by
    rw [← hT.1]
    have := (List.getElem?_eq_some_iff.mp hr.2.2.2.2.2.2.2.2).1
    omega
  rcases hc with ⟨rfl, x, h1, q, rfl⟩ | ⟨rfl, q⟩
  · rcases q with ⟨-, ⟨s2, o2, F2, fv2, gv2, nl2, ng2, nr2, n2, ⟨x', ex, hx⟩, hSt, hD⟩, hl, hk, h36⟩ | ⟨z, -⟩
    · have hxx : x = x' := by
        have := Option.some.inj ex
        cases this
        rfl
      subst hxx
      rcases hml with ⟨-, ⟨s3, fv3, gv3, nl3, ng3, nr3, hSt3, ⟨b7, rfl, hb7⟩, i125, i127, n3, hN3⟩, e0, e6, ⟨x12, e12, q12⟩, x13, e13, q13⟩ | ⟨z, -⟩
      · rw [hSt] at hSt3
        obtain ⟨-, -, ⟨rfl, rfl⟩, rfl, rfl, rfl⟩ : (0 : Int) = 0 ∧ s2 = s3 ∧ (fv2 = fv3 ∧ upI gv2 38 o2 = gv3) ∧ nl2 = nl3 ∧ ng2 = ng3 ∧ nr2 = nr3 := by
          cases hSt3
          exact ⟨rfl, rfl, ⟨rfl, rfl⟩, rfl, rfl, rfl⟩
        obtain rfl : n3 = n2 := by
          have a := hN3.1.1
          have b := hD.2.2.1.1
          omega
        have hZ : ZR fv2 := by
          have := text_z tx (L : Int)
          rw [hSt] at this
          exact this
        obtain ⟨R2, t1, t2, t3, t4, t5, t6⟩ := lj_load (x := x.toInt64) hT hI hr hJ hM hX h148 hlen hD hl hk h36 hZ hN3 hA
        have hM3 : MXS h3 fv2 (upI gv2 38 o2) pv nl2 n3 ng2 nr2 0 := ⟨⟨hRW, i125, i127⟩, i129, ⟨0, e6, rfl⟩, by decide, hN3, hM2.2.2.2.2.2.frw f ⟨0, e0, by decide, by decide⟩⟩
        have hX3 : MTX h3 tx 0 0 (-1) := ⟨i130, ⟨x10, e10, q10⟩, y11, ⟨x12, e12, q12⟩, ⟨x13, e13, q13⟩, y14, y15, i126, i128⟩
        refine ⟨⟨R2, tx, 0, 0, -1, LJ.fr t1 t2 t3 hM2.1.1 f WR0_rng2 t4 ⟨hS.1, by decide, hZ, hN3, fun i hi => absurd hi (Nat.not_lt_zero _), CHP.zero⟩ hM3 hX3⟩, f.1, e0, b7, rfl, fun _ => ?_⟩
        have s146 : shp h1 146 = some (33, 1) := (ld_h0 hT hr hJ.2.2 _ h1 (Or.inl ⟨rfl, ⟨s2, o2, F2, fv2, gv2, nl2, ng2, nr2, n3, ⟨x, rfl, hx⟩, hSt, hD⟩, hl, hk, h36⟩)).2
        rw [f.2.2 146 0 (by unfold WR0; omega), rd_same s146, i_sm (show x.toInt = b7.toInt by omega)]
      · rw [hSt] at z
        exact absurd rfl z
    · exact absurd z (by decide)
  · rcases q with ⟨z, -⟩ | ⟨-, -, hne, hD, hl, hF, hk⟩
    · exact absurd z (by decide)
    · rcases hml with ⟨z, -⟩ | ⟨-, rfl, e0, ⟨x12, e12, q12⟩, ⟨x13, e13, q13⟩, k125, k127, k6⟩
      · exact absurd z hne
      · obtain ⟨R2, t1, t2, t3, t4, t5, t6⟩ := lj_bad hT hI hr hJ hM hX hlen hS.2.2.1 hD hl hF hk hA
        obtain ⟨⟨-, b2, b3⟩, -, ⟨p9, e6, hp9⟩, h10, hN, hMF⟩ := hM2
        have hM3 : MXS h3 fv w pv nl n ng nr np := ⟨⟨hRW, b2.fr (fun j _ => k125 j), b3.fr (fun j _ => k127 j)⟩, i129, ⟨p9, k6.trans e6, hp9⟩, h10, hN, hMF.frw f ⟨1, e0, by decide, by decide⟩⟩
        have hX3 : MTX h3 tx 0 (sText tx (L : Int)).1 (sText tx (L : Int)).2.1 := ⟨i130, ⟨x10, e10, q10⟩, y11, ⟨x12, e12, q12⟩, ⟨x13, e13, q13⟩, y14, y15, i126, i128⟩
        exact ⟨⟨R2, tx, 0, _, _, LJ.fr t1 t2 t3 t5.1.1 f WR0_rng2 t4 ⟨hS.1, by decide, hS.2.2⟩ hM3 hX3⟩, f.1, e0, 0, rfl, fun z => absurd z (by decide)⟩
end LJU
