/-! The law's invariant behind both calls. -/
section LJT
variable {hs h1 h2 h3 : List CE} {R R2 : List Nat} {tx : Nat → Int} {L : Nat} {ec ep : Int} {fv w pv : Nat → Int} {nl n ng nr np : Nat} {ch : Nat → Nat → Int} {g : Nat} {F : Nat → Nat → Int32} {r : Option Value} {kd : Nat}
theorem WM_rng2 : ∀ k j, WM k j → 124 ≤ k ∧ k ≤ 145 := fun k j h => by unfold WM at h; omega
theorem WZ0_rng : ∀ k j, WZ0 k j → 124 ≤ k ∧ k ≤ 145 := fun k j h => by unfold WZ0 at h; omega
theorem WST_rng : ∀ k j, WST k j → 124 ≤ k ∧ k ≤ 145 := fun k j h => by unfold WST at h; omega
theorem WR0_rng2 : ∀ k j, WR0 k j → 124 ≤ k ∧ k ≤ 145 := fun k j h => by unfold WR0 at h; omega
theorem WT6_rng : ∀ k j, WT6 k j → 124 ≤ k ∧ k ≤ 145 := fun k j h => by unfold WT6 at h; omega
/-- what the numeric questions need -/
theorem LJ.num (h : LJ hs R tx L ec ep) : ∃ (tl wl : Nat → Int) (nl n ng nr : Nat), NW tl wl nl n ng nr ∧ (∀ l, l < nl → 1 ≤ wl l) ∧ BM hs tl wl ∧ ModF hs := by
  obtain ⟨hT, hI, hr, fv, w, pv, nl, n, ng, nr, np, ch, g, hS, hJ, hM, hX⟩ := h
  exact ⟨fv, w, nl, n, ng, nr, hM.2.2.2.2.1.1, hM.2.2.2.2.1.2, hM.1, hM.2.2.2.2.2⟩
theorem LJ.wm (h : LJ hs R tx L ec ep) (f : FrS WM hs h2) (hM2 : ModF h2) : LJ h2 R tx L ec ep := by
  obtain ⟨hT, hI, hr, fv, w, pv, nl, n, ng, nr, np, ch, g, hS, hJ, hM, hX⟩ := h
  have q : ∀ k j, 125 ≤ k → k ≤ 130 → rd h2 k j = rd hs k j := fun k j q1 q2 => f.2.2 k j (by unfold WM; omega)
  have q4 : ∀ j, j = 6 ∨ (10 ≤ j ∧ j ≤ 15) → rd h2 124 j = rd hs 124 j := fun j q1 => f.2.2 124 j (by unfold WM; omega)
  obtain ⟨hB, hPa, ⟨p9, e6, hp9⟩, h10, hN, -⟩ := id hM
  exact LJ.fr hT hI hr hM.1.1 f WM_rng2 hJ hS ⟨hB.fr f WM_rw (fun j => by unfold WM; omega) (fun j => by unfold WM; omega), hPa.fr (fun j _ => q 129 j (by decide) (by decide)), ⟨p9, (q4 6 (by omega)).trans e6, hp9⟩, h10, hN, hM2⟩ (hX.same (fun k j hk => by
    rcases hk with ⟨rfl, a, b⟩ | rfl | rfl | rfl
    · exact q4 j (by omega)
    · exact q 126 j (by decide) (by decide)
    · exact q 128 j (by decide) (by decide)
    · exact q 130 j (by decide) (by decide)))
/-- a plain question of the reference -/
theorem lj_z0 (hT : HTy KCQ R hs) (hI : InvCQ R hs) (hr : LRo R) (hS : SJ tx L fv w pv nl n ng nr np ch) (hJ : CHJ hs tx L ec ep fv w nl ng nr n np ch g) (hM : MXS hs fv w pv nl n ng nr np) (hX : MTX hs tx L ec ep) (f : FrS WZ0 hs h2) (hM2 : MXS h2 fv w pv nl n ng nr np) : LJ h2 R tx L ec ep :=
  LJ.fr hT hI hr hM.1.1 f WZ0_rng hJ hS hM2 (hX.same (fun k j hk => f.2.2 k j (by unfold WZ0; omega)))
/-- a setter of the class -/
def SPO (A B : Prop) (was : Int) (hs : List CE) (tx : Nat → Int) (L : Nat) (ec ep : Int) (g : Nat) (fv W2 : Nat → Int) (o2 : Int) (nl ng nr n np : Nat) (ch : Nat → Nat → Int) (c : Nat → Int) : Nat → Option Value → List CE → Prop := fun kd r h2 => (kd = 0 ∧ (A ∧ B) ∧ (∃ x : Int32, r = some (.int x) ∧ x.toInt = was) ∧ COk hs h2 tx (L : Int) ec ep g fv W2 o2 nl ng nr n (if np = 10 then 10 else np + 1) (RMB np ch c)) ∨ (kd = 2 ∧ r = none ∧ ¬ A ∧ hs = h2) ∨ (kd = 3 ∧ r = none ∧ A ∧ ¬ B ∧ hs = h2)
/-- a wrapper of two throws -/
def PW2 (PO : Nat → Option Value → List CE → Prop) : Nat → Option Value → List CE → Prop := fun kd r h2 => kd = 0 ∧ ((∃ (x : Int32) (h1 : List CE), r = some (.int 0) ∧ PO 0 (some (.int x)) h1 ∧ h2 = wr h1 146 0 (.long x.toInt64)) ∨ (r = some (.int 1) ∧ PO 2 none h2) ∨ (r = some (.int 2) ∧ PO 3 none h2))
def PW1 (k : Nat) (PO : Nat → Option Value → List CE → Prop) : Nat → Option Value → List CE → Prop := fun kd r h2 => kd = 0 ∧ ((∃ (x : Int32) (h1 : List CE), r = some (.int 0) ∧ PO 0 (some (.int x)) h1 ∧ h2 = wr h1 146 0 (.long x.toInt64)) ∨ (r = some (.int 1) ∧ PO k none h2))
theorem cok_146 {W2 : Nat → Int} {o2 : Int} {np2 : Nat} {ch2 : Nat → Nat → Int} (hT : HTy KCQ R hs) (hr : LRo R) (hJ : CHJ hs tx L ec ep fv w nl ng nr n np ch g) (hM : MXS hs fv w pv nl n ng nr np) (hlen : hs.length ≤ 6999999999999) (h : COk hs h1 tx (L : Int) ec ep g fv W2 o2 nl ng nr n np2 ch2) : shp h1 146 = some (33, 1) := by
  obtain ⟨F, hC⟩ := id hJ.1
  obtain ⟨a1, a2, a3, a4, a5, a6, a7⟩ := em_of hr hT hC hJ.2.2 hM.1.1 hlen 146 (by decide) (by decide)
  rw [shp_eqc (h.2.2.2.2.2.1 146 a1 a2 a3 a4 a5 a6 a7)]
  exact ty_shpQ hT hr.2.2.2.2.2.2.2.1 (by decide) (by decide) (by decide)
section SETT
variable {A B : Prop} {was : Int} {W2 : Nat → Int} {o2 : Int} {c : Nat → Int}
theorem np10 {np : Nat} (h : np ≤ 10) : (if np = 10 then 10 else np + 1) ≤ 10 := by split <;> omega
theorem set_h0 (hT : HTy KCQ R hs) (hr : LRo R) (hJ : CHJ hs tx L ec ep fv w nl ng nr n np ch g) (hM : MXS hs fv w pv nl n ng nr np) (hlen : hs.length ≤ 6999999999999) : ∀ r h1, SPO A B was hs tx L ec ep g fv W2 o2 nl ng nr n np ch c 0 r h1 → (∃ x : Int32, r = some (.int x)) ∧ shp h1 146 = some (33, 1) := fun r h1 h => by
  rcases h with ⟨-, -, ⟨x, e, -⟩, q⟩ | ⟨z, -⟩ | ⟨z, -⟩
  · exact ⟨⟨x, e⟩, cok_146 hT hr hJ hM hlen q⟩
  · exact absurd z (by decide)
  · exact absurd z (by decide)
theorem set_hx : ∀ kd r h1, kd ≠ 0 → SPO A B was hs tx L ec ep g fv W2 o2 nl ng nr n np ch c kd r h1 → kd = 2 ∨ kd = 3 := fun kd r h1 h0 h => by
  rcases h with ⟨z, -⟩ | ⟨z, -⟩ | ⟨z, -⟩
  · exact absurd z h0
  · exact Or.inl z
  · exact Or.inr z
theorem LH.rf (hT : HTy KCQ R hs) (hI : InvCQ R hs) (hr : LRo R) (hJ : CHJ hs tx L ec ep fv w nl ng nr n np ch g) (hM : MXS hs fv w pv nl n ng nr np) (hX : MTX hs tx L ec ep) : LH hs R tx L ec ep fv w pv nl n ng nr np tx L ec ep fv w nl n ng nr np ch g := ⟨hT, hI, hr, hJ, hM, hX⟩
/-- after the class's setter -/
theorem set_c1 (hT : HTy KCQ R hs) (hI : InvCQ R hs) (hr : LRo R) (hJ : CHJ hs tx L ec ep fv w nl ng nr n np ch g) (hM : MXS hs fv w pv nl n ng nr np) (hX : MTX hs tx L ec ep) (hlen : hs.length + 3 ≤ 6999999999999) (hS : SJ tx L fv w pv nl n ng nr np ch) (hpo : PW2 (SPO A B was hs tx L ec ep g fv W2 o2 nl ng nr n np ch c) kd r h2) (ho : A → B → W2 38 = o2) (hN : A → B → NWx fv W2 nl n ng nr) (hA : AL9 h2) : ∃ (x6 : Int32) (R2 : List Nat), r = some (.int x6) ∧ h2.length ≤ hs.length + 2 ∧ MXS h2 fv w pv nl n ng nr np ∧ ((A ∧ B ∧ x6 = 0 ∧ LH h2 R2 tx L ec ep fv w pv nl n ng nr np tx L ec ep fv W2 nl n ng nr (if np = 10 then 10 else np + 1) (RMB np ch c) g ∧ ∃ y : Int32, rd h2 146 0 = .long y.toInt64 ∧ y.toInt = was) ∨ (¬ A ∧ x6 = 1 ∧ hs = h2 ∧ R2 = R) ∨ (A ∧ ¬ B ∧ x6 = 2 ∧ hs = h2 ∧ R2 = R)) := by
  obtain ⟨-, ⟨x, h1, rfl, q, rfl⟩ | ⟨rfl, q⟩ | ⟨rfl, q⟩⟩ := hpo
  · rcases q with ⟨-, ⟨a, b⟩, ⟨y, e, ey⟩, q⟩ | ⟨z, -⟩ | ⟨z, -⟩
    · have e : some (Value.int x) = some (Value.int y) := e
      have hxy : x = y := by
        have := Option.some.inj e
        cases this
        rfl
      subst hxy
      obtain ⟨R2, h⟩ := lj_cok (x := x.toInt64) hT hI hr hJ hM hX hlen hS.2.1 hS.2.2.1 q (ho a b) (np10 hM.2.2.2.1) (hN a b) hA
      exact ⟨0, R2, rfl, by rw [wr_len]; exact q.2.2.2.2.1, h.2.2.2.2.1, Or.inl ⟨a, b, rfl, h, x, rd_same (cok_146 hT hr hJ hM (by omega) q), ey⟩⟩
    · exact absurd z (by decide)
    · exact absurd z (by decide)
  · rcases q with ⟨z, -⟩ | ⟨-, -, a, rfl⟩ | ⟨z, -⟩
    · exact absurd z (by decide)
    · exact ⟨1, R, rfl, Nat.le_add_right _ _, hM, Or.inr (Or.inl ⟨a, rfl, rfl, rfl⟩)⟩
    · exact absurd z (by decide)
  · rcases q with ⟨z, -⟩ | ⟨z, -⟩ | ⟨-, -, a, b, rfl⟩
    · exact absurd z (by decide)
    · exact absurd z (by decide)
    · exact ⟨2, R, rfl, Nat.le_add_right _ _, hM, Or.inr (Or.inr ⟨a, b, rfl, rfl, rfl⟩)⟩
theorem i_sm {x y : Int32} (h : x.toInt = y.toInt) : x = y := Int32.toInt_inj.mp h
/-- after the reference's setter -/
theorem set_c2 {x6 : Int32} (hT : HTy KCQ R hs) (hI : InvCQ R hs) (hr : LRo R) (hJ : CHJ hs tx L ec ep fv w nl ng nr n np ch g) (hM : MXS hs fv w pv nl n ng nr np) (hX : MTX hs tx L ec ep) (hS : SJ tx L fv w pv nl n ng nr np ch) (hc : (A ∧ B ∧ x6 = 0 ∧ LH h2 R2 tx L ec ep fv w pv nl n ng nr np tx L ec ep fv W2 nl n ng nr (if np = 10 then 10 else np + 1) (RMB np ch c) g ∧ ∃ y : Int32, rd h2 146 0 = .long y.toInt64 ∧ y.toInt = was) ∨ (¬ A ∧ x6 = 1 ∧ hs = h2 ∧ R2 = R) ∨ (A ∧ ¬ B ∧ x6 = 2 ∧ hs = h2 ∧ R2 = R)) (hg : A → B → CGd c) (he : ∀ q, q < 39 → w q = upC c W2 q) (hpo : ((A ∧ B) ∧ SOk h2 h3 fv w W2 pv nl n ng nr np was r) ∨ (¬ A ∧ SBad h2 h3 fv w pv nl n ng nr np 1 r) ∨ ((A ∧ ¬ B) ∧ SBad h2 h3 fv w pv nl n ng nr np 2 r)) : LJ h3 R2 tx L ec ep ∧ h3.length = h2.length ∧ rd h3 124 0 = .int x6 ∧ ∃ b7 : Int32, r = some (.int b7) ∧ (x6 = 0 → rd h3 146 0 = .long b7.toInt64) := by
  rcases hc with ⟨a, b, rfl, ⟨t1, t2, t3, t4, t5, t6⟩, y, ey, ey2⟩ | ⟨a, rfl, rfl, rfl⟩ | ⟨a, b, rfl, rfl, rfl⟩
  · rcases hpo with ⟨-, ⟨z, rfl, ez⟩, e0, f, pv2, np2, hP, hM3⟩ | ⟨q, -⟩ | ⟨⟨-, q⟩, -⟩
    · obtain ⟨c1, c2⟩ := hS.2.2.2.2.2.add hP (hg a b) he
      subst c2
      refine ⟨LJ.fr t1 t2 t3 t5.1.1 f WST_rng t4 ⟨hS.1, hS.2.1, hS.2.2.1, hM3.2.2.2.2.1, hP.nw hS.2.2.2.1 hS.2.2.2.2.1, c1⟩ hM3 (t6.same (fun k j hk => f.2.2 k j (by unfold WST; omega))), f.1, e0, z, rfl, fun _ => ?_⟩
      rw [f.2.2 146 0 (by unfold WST; omega), ey, i_sm (show y.toInt = z.toInt by omega)]
    · exact absurd a q
    · exact absurd b q
  · rcases hpo with ⟨⟨q, -⟩, -⟩ | ⟨-, rfl, e0, f, hM3⟩ | ⟨⟨q, -⟩, -⟩
    · exact absurd q a
    · exact ⟨lj_z0 hT hI hr hS hJ hM hX f hM3, f.1, e0, 0, rfl, fun z => absurd z (by decide)⟩
    · exact absurd q a
  · rcases hpo with ⟨⟨-, q⟩, -⟩ | ⟨q, -⟩ | ⟨-, rfl, e0, f, hM3⟩
    · exact absurd q b
    · exact absurd a q
    · exact ⟨lj_z0 hT hI hr hS hJ hM hX f hM3, f.1, e0, 0, rfl, fun z => absurd z (by decide)⟩
end SETT
end LJT
