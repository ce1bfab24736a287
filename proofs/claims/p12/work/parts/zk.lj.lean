/-! Class and reference between two calls: the law's invariant. -/
/-- the class's half; g: its grid -/
def CHJ (hs : List CE) (tx : Nat → Int) (L : Nat) (ec ep : Int) (fv w : Nat → Int) (nl ng nr n np : Nat) (ch : Nat → Nat → Int) (g : Nat) : Prop := (∃ F : Nat → Nat → Int32, CLN hs tx (L : Int) ec ep g F fv w (w 38) nl ng nr n) ∧ TRS hs fv (w 38) nl ∧ LSC hs np ch
/-- what is told of the grid and its past -/
def SJ (tx : Nat → Int) (L : Nat) (fv w pv : Nat → Int) (nl n ng nr np : Nat) (ch : Nat → Nat → Int) : Prop := (∀ j, 0 ≤ tx j) ∧ L ≤ 700 ∧ ZR fv ∧ NWx fv w nl n ng nr ∧ PNW fv pv nl n ng nr np ∧ CHP ch pv w np
/-- roles that stay -/
def LRo (R : List Nat) : Prop := R[0]? = some 501 ∧ R[1]? = some 502 ∧ R[18]? = some 502 ∧ R[36]? = some 54 ∧ R[54]? = some 504 ∧ (∀ k : Nat, 56 ≤ k → k ≤ 72 → R[k]? = some 0) ∧ (∀ k : Nat, 124 ≤ k → k ≤ 145 → R[k]? = some 0) ∧ R[146]? = some 55 ∧ R[147]? = some 56
theorem LRo.mono {R R2 : List Nat} (h : LRo R) (hm : ∀ k r : Nat, R[k]? = some r → R2[k]? = some r) : LRo R2 :=
  ⟨hm _ _ h.1, hm _ _ h.2.1, hm _ _ h.2.2.1, hm _ _ h.2.2.2.1, hm _ _ h.2.2.2.2.1, fun k a b => hm _ _ (h.2.2.2.2.2.1 k a b), fun k a b => hm _ _ (h.2.2.2.2.2.2.1 k a b), hm _ _ h.2.2.2.2.2.2.2.1, hm _ _ h.2.2.2.2.2.2.2.2⟩
/-- class and reference between two calls -/
def LJ (hs : List CE) (R : List Nat) (tx : Nat → Int) (L : Nat) (ec ep : Int) : Prop := HTy KCQ R hs ∧ InvCQ R hs ∧ LRo R ∧ ∃ (fv w pv : Nat → Int) (nl n ng nr np : Nat) (ch : Nat → Nat → Int) (g : Nat), SJ tx L fv w pv nl n ng nr np ch ∧ CHJ hs tx L ec ep fv w nl ng nr n np ch g ∧ MXS hs fv w pv nl n ng nr np ∧ MTX hs tx L ec ep
theorem rwt_all : ∀ k : Fin 146, 125 ≤ k.val → ∃ q ∈ RWT, q.2.1 = k.val ∧ (q.2.2.1 = 32 ∨ q.2.2.1 = 33) := by decide
/-- the reference's cells are of no kind of the list's -/
theorem rw_kd {hs : List CE} (h : RW hs) {k c N : Nat} (h1 : 124 ≤ k) (h2 : k ≤ 145) (e : shp hs k = some (c, N)) : c = 9 ∨ c = 32 ∨ c = 33 := by
  by_cases q : k = 124
  · rw [q, h.1] at e
    cases e
    exact Or.inl rfl
  · obtain ⟨x, x1, x2, x3⟩ := rwt_all ⟨k, by omega⟩ (by show 125 ≤ k; omega)
    have x2 : x.2.1 = k := x2
    have := (h.2 x x1).2
    rw [x2, e] at this
    have e9 : c = x.2.2.1 := congrArg Prod.fst (Option.some.inj this)
    omega
theorem MXS.same {hs h2 : List CE} {tl wl pv : Nat → Int} {nl n ng nr np : Nat} (h : MXS hs tl wl pv nl n ng nr np) (e : ∀ k : Nat, 124 ≤ k → k ≤ 145 → h2[k]? = hs[k]?) : MXS h2 tl wl pv nl n ng nr np := by
  obtain ⟨⟨⟨r1, r2⟩, b2, b3⟩, hPa, ⟨p9, e6, hp9⟩, h10, hN, ⟨⟨x0, m1, m1b⟩, ⟨x1', m2⟩, ⟨x2', m3⟩, m4⟩⟩ := h
  have w : ∀ k j, 124 ≤ k → k ≤ 145 → rd h2 k j = rd hs k j := fun k j q1 q2 => rd_of (e k q1 q2) j
  have w4 : ∀ j, rd h2 124 j = rd hs 124 j := fun j => w 124 j (by decide) (by decide)
  exact ⟨⟨⟨(shp_eqc (e 124 (by decide) (by decide))).trans r1, fun q hq => ⟨(w4 _).trans (r2 q hq).1, (shp_eqc (e _ (rwt_rng q hq).1 (rwt_rng q hq).2)).trans (r2 q hq).2⟩⟩, b2.fr (fun j _ => w 125 j (by decide) (by decide)), b3.fr (fun j _ => w 127 j (by decide) (by decide))⟩, hPa.fr (fun j _ => w 129 j (by decide) (by decide)), ⟨p9, (w4 6).trans e6, hp9⟩, h10, hN, ⟨⟨x0, (w4 0).trans m1, m1b⟩, ⟨x1', (w4 24).trans m2⟩, ⟨x2', (w4 28).trans m3⟩, fun j hj => (m4 j hj).elim fun x q => ⟨x, (w4 j).trans q⟩⟩⟩
theorem MTX.same {hs h2 : List CE} {tx : Nat → Int} {L : Nat} {ec ep : Int} (h : MTX hs tx L ec ep) (e : ∀ k j, k = 124 ∧ 10 ≤ j ∧ j ≤ 15 ∨ k = 126 ∨ k = 128 ∨ k = 130 → rd h2 k j = rd hs k j) : MTX h2 tx L ec ep := by
  obtain ⟨a, ⟨x1, b1, b2⟩, ⟨x2, c1⟩, ⟨x3, d1, d2⟩, ⟨x4, e1, e2⟩, ⟨x5, f1⟩, ⟨x6, g1⟩, ⟨f, i1⟩, ⟨g, j1⟩⟩ := h
  exact ⟨a.fr (fun j _ => e 130 j (by omega)), ⟨x1, (e 124 10 (by omega)).trans b1, b2⟩, ⟨x2, (e 124 11 (by omega)).trans c1⟩, ⟨x3, (e 124 12 (by omega)).trans d1, d2⟩, ⟨x4, (e 124 13 (by omega)).trans e1, e2⟩, ⟨x5, (e 124 14 (by omega)).trans f1⟩, ⟨x6, (e 124 15 (by omega)).trans g1⟩, ⟨f, i1.fr (fun j _ => e 126 j (by omega))⟩, ⟨g, j1.fr (fun j _ => e 128 j (by omega))⟩⟩
section LJS
variable {hs h2 : List CE} {R R2 : List Nat} {tx : Nat → Int} {L : Nat} {ec ep : Int} {fv w pv : Nat → Int} {nl n ng nr np : Nat} {ch : Nat → Nat → Int} {g : Nat}
/-- the grid's role -/
theorem lj_g {F : Nat → Nat → Int32} {o : Int} (hT : HTy KCQ R hs) (hr : LRo R) (hC : CLN hs tx (L : Int) ec ep g F fv w o nl ng nr n) : R[g]? = some 505 := by
  obtain ⟨y, e, q⟩ := ty_refQ (r2 := 505) (j := 6) hT hr.1 (by decide) (by decide) (by decide) (by decide) (by decide)
  rw [hC.2.1] at e
  cases e
  exact q
theorem grl_fz : ∀ a : Fin 17, froz (GRL a.val) = true ∧ GRL a.val ≠ 0 := by decide
theorem frl_fz : ∀ a : Fin 17, froz (FRL a.val) = true ∧ FRL a.val ≠ 0 := by decide
/-- the class's own cells have frozen roles -/
theorem lj_fz {F : Nat → Nat → Int32} {o : Int} (hT : HTy KCQ R hs) (hr : LRo R) (hC : CLN hs tx (L : Int) ec ep g F fv w o nl ng nr n) : ∀ k, k = 0 ∨ (1 ≤ k ∧ k ≤ 34) ∨ (54 ≤ k ∧ k ≤ 72) ∨ (g ≤ k ∧ k ≤ g + 16) → ∃ r, R[k]? = some r ∧ froz r = true := fun k hk => by
  have hg := gls_roles hT hC.2.2.2.1.1 (lj_g hT hr hC)
  have f1 := fls_roles hT hC.2.2.2.2.2.2.1 hr.2.1
  have f18 := fls_roles hT hC.2.2.2.2.2.2.2.1 hr.2.2.1
  by_cases q0 : k = 0
  · exact ⟨501, by rw [q0]; exact hr.1, by decide⟩
  by_cases q1 : 1 ≤ k ∧ k ≤ 17
  · have := f1 (k - 1) (by omega)
    rw [show 1 + (k - 1) = k by omega] at this
    exact ⟨_, this, (frl_fz ⟨k - 1, by omega⟩).1⟩
  by_cases q2 : 18 ≤ k ∧ k ≤ 34
  · have := f18 (k - 18) (by omega)
    rw [show 18 + (k - 18) = k by omega] at this
    exact ⟨_, this, (frl_fz ⟨k - 18, by omega⟩).1⟩
  by_cases q3 : g ≤ k ∧ k ≤ g + 16
  · have := hg (k - g) (by omega)
    rw [show g + (k - g) = k by omega] at this
    exact ⟨_, this, (grl_fz ⟨k - g, by omega⟩).1⟩
  by_cases q4 : k = 54
  · exact ⟨504, by rw [q4]; exact hr.2.2.2.2.1, by decide⟩
  by_cases q5 : k = 55
  · exact ⟨0, by rw [q5]; exact hty_zero hT hC.2.2.1.2.1 (by omega), by decide⟩
  · exact ⟨0, hr.2.2.2.2.2.1 k (by omega) (by omega), by decide⟩
/-- the class's half behind equal cells -/
theorem CHJ.cells (h : CHJ hs tx L ec ep fv w nl ng nr n np ch g) (e0 : h2[0]? = hs[0]?) (e36 : shp h2 36 = some (40, 4)) (ef : ∀ k, (1 ≤ k ∧ k ≤ 34) ∨ (54 ≤ k ∧ k ≤ 72) ∨ (g ≤ k ∧ k ≤ g + 16) → h2[k]? = hs[k]?) (el : ∀ k c N : Nat, shp hs k = some (c, N) → c = 8 ∨ c = 10 ∨ c = 39 → h2[k]? = hs[k]?) : CHJ h2 tx L ec ep fv w nl ng nr n np ch g := by
  obtain ⟨⟨F, hC⟩, hT, hL⟩ := h
  exact ⟨⟨F, hC.cells e0 e36 ef⟩, hT.cells (rd_of (ef 1 (by omega)) 0) (rd_of (ef 18 (by omega)) 0), hL.cells el⟩
/-- a call of the class by its contract -/
theorem LJ.hx (h : LJ hs R tx L ec ep) (hX : HX KCQ InvCQ R hs R2 h2) : LJ h2 R2 tx L ec ep := by
  obtain ⟨hT, hI, hr, fv, w, pv, nl, n, ng, nr, np, ch, g, hS, hJ, hM, hX9⟩ := h
  obtain ⟨F, hC⟩ := id hJ.1
  have fz := lj_fz hT hr hC
  have r2 := hr.mono hX.2.1
  have ef : ∀ k, k = 0 ∨ (1 ≤ k ∧ k ≤ 34) ∨ (54 ≤ k ∧ k ≤ 72) ∨ (g ≤ k ∧ k ≤ g + 16) → h2[k]? = hs[k]? := fun k hk => by
    obtain ⟨r, a, b⟩ := fz k hk
    exact hX.2.2.1 k r a b
  have em : ∀ k : Nat, 124 ≤ k → k ≤ 145 → h2[k]? = hs[k]? := fun k a b => hX.2.2.1 k 0 (hr.2.2.2.2.2.2.1 k a b) rfl
  refine ⟨hX.1, hX.2.2.2, r2, fv, w, pv, nl, n, ng, nr, np, ch, g, hS, hJ.cells (ef 0 (by omega)) (ty_shpQ hX.1 r2.2.2.2.1 (by decide) (by decide) (by decide)) (fun k hk => ef k (by omega)) (fun k c N e hc => hX.2.2.1 k 0 (hty_zero hT e (by omega)) rfl), hM.same em, hX9.same (fun k j hk => rd_of (em k (by omega) (by omega)) j)⟩
/-- a call of the reference: it writes its own cells alone -/
theorem LJ.fr {W : Nat → Nat → Prop} {tx2 : Nat → Int} {L2 : Nat} {ec2 ep2 : Int} (hT : HTy KCQ R hs) (hI : InvCQ R hs) (hr : LRo R) (hRW : RW hs) (f : FrS W hs h2) (hW : ∀ k j, W k j → 124 ≤ k ∧ k ≤ 145) (hJ : CHJ hs tx2 L2 ec2 ep2 fv w nl ng nr n np ch g) (hS : SJ tx2 L2 fv w pv nl n ng nr np ch) (hM : MXS h2 fv w pv nl n ng nr np) (hX : MTX h2 tx2 L2 ec2 ep2) : LJ h2 R tx2 L2 ec2 ep2 := by
  obtain ⟨F, hC⟩ := id hJ.1
  have g0 := hC.g0
  have out : ∀ k, ¬ (124 ≤ k ∧ k ≤ 145) → k < hs.length → h2[k]? = hs[k]? := fun k hk hl => frs_cell f hl (fun j z => hk (hW k j z))
  have hce : ∀ k r : Nat, R[k]? = some r → r ≠ 0 → h2[k]? = hs[k]? := fun k r hk h0 => out k (fun z => by
    rw [hr.2.2.2.2.2.2.1 k z.1 z.2] at hk
    cases hk
    exact h0 rfl) (shp_lt (hT.2.1 k r hk h0).1)
  refine ⟨⟨hT.1.trans f.1.symm, fun k r hk h0 => ⟨(f.2.1 k).trans (hT.2.1 k r hk h0).1, fun j hj => by rw [rd_of (hce k r hk h0) j]; exact (hT.2.1 k r hk h0).2 j hj⟩, hT.2.2⟩, ?_, hr, fv, w, pv, nl, n, ng, nr, np, ch, g, hS, hJ.cells (out 0 (by omega) (hC.lt (by omega))) ((f.2.1 36).trans hC.1.2.2.2.2.2.2.2) (fun k hk => out k (by omega) (hC.lt (by omega))) (fun k c N e hc => out k (fun z => by have := rw_kd hRW z.1 z.2 e; omega) (shp_lt e)), hM, hX⟩
  intro kg hk
  obtain ⟨n9, kl, e1, e2, e3, e4, e5, e6⟩ := hI kg hk
  exact ⟨n9, kl, (rd_of (hce kg 505 hk (by decide)) 2).trans e1, (rd_of (hce kg 505 hk (by decide)) 8).trans e2, e3, e4, e5, fun j hj => by
    obtain ⟨z, z1, z2⟩ := e6 j hj
    exact ⟨z, (rd_of (hce kl 546 e3 (by decide)) j).trans z1, z2⟩⟩
theorem nw_pos (h : NWx fv w nl n ng nr) {F : Nat → Nat → Int32} (hC : CLN hs tx (L : Int) ec ep g F fv w (w 38) nl ng nr n) : 0 < det3 (mT fv (fv 0) (-1) nl) ∧ 0 < det3 (mT fv (fv 0) (w 38) nl) := by
  obtain ⟨w0, w1, w2, w3, w4, w5, w6, w7, w8, w9, wa, wb, wc, wd, we⟩ := hC.2.2.2.2.2.1
  have hG := h.1.2.2.2.2.2.2.2.2.2.1
  refine ⟨(conn_iff (z := -1) w1 w2 w0 w6 wd).mpr we, ?_⟩
  rcases hG.2.2.2.2.2 with q | ⟨-, -, q⟩
  · rw [q]; exact (conn_iff (z := -1) w1 w2 w0 w6 wd).mpr we
  · exact (conn_iff (z := w 38) w1 w2 w0 w6 wd).mpr q
theorem app_z {R : List Nat} {m k r : Nat} (h : (R ++ List.replicate m 0)[k]? = some r) (h0 : r ≠ 0) : R[k]? = some r := by
  by_cases q : k < R.length
  · rw [List.getElem?_append_left q] at h
    exact h
  · rw [List.getElem?_append_right (by omega)] at h
    have := List.mem_of_getElem? h
    have := List.eq_of_mem_replicate this
    exact absurd this h0
/-- a call of the class by hand: new cells have no role, old ones of the class are told anew -/
theorem LJ.step {tx2 : Nat → Int} {L2 : Nat} {ec2 ep2 : Int} {fv2 w2 : Nat → Int} {nl2 n2 ng2 nr2 np2 : Nat} {ch2 : Nat → Nat → Int} {F : Nat → Nat → Int32} (hT : HTy KCQ R hs) (hI : InvCQ R hs) (hr : LRo R) (hC : CLN hs tx (L : Int) ec ep g F fv w (w 38) nl ng nr n) (hl : hs.length ≤ h2.length) (hlen : h2.length ≤ 6999999999999) (hL : LSC hs np ch)
    (hk : ∀ k, k < hs.length → k ≠ 35 → k ≠ 36 → k ≠ 54 → k ≠ 55 → ¬ (1 ≤ k ∧ k ≤ 34) → ¬ (g ≤ k ∧ k ≤ g + 16) → ¬ (56 ≤ k ∧ k ≤ 72) → (∀ a : Nat, rd hs 35 0 = .ref a → k ≠ a) → h2[k]? = hs[k]?)
    (hA : AL9 h2) (h36 : h2[36]? = hs[36]? ∨ N36 h2) (hJ : CHJ h2 tx2 L2 ec2 ep2 fv2 w2 nl2 ng2 nr2 n2 np2 ch2 g) (hN : NWx fv2 w2 nl2 n2 ng2 nr2) (hZ : ZR fv2) (hL2 : L2 ≤ 700) : HTy KCQ (R ++ List.replicate (h2.length - hs.length) 0) h2 ∧ InvCQ (R ++ List.replicate (h2.length - hs.length) 0) h2 ∧ LRo (R ++ List.replicate (h2.length - hs.length) 0) := by
  have hm : ∀ k r : Nat, R[k]? = some r → (R ++ List.replicate (h2.length - hs.length) 0)[k]? = some r := fun k r h => by
    rw [List.getElem?_append_left (List.getElem?_eq_some_iff.mp h).1]
    exact h
  have r2 := hr.mono hm
  obtain ⟨⟨F2, hC2⟩, hT2, hL9⟩ := hJ
  have g0 := hC.g0
  have rg := gls_roles hT hC.2.2.2.1.1 (lj_g hT hr hC)
  have rf1 := fls_roles hT hC.2.2.2.2.2.2.1 hr.2.1
  have rf18 := fls_roles hT hC.2.2.2.2.2.2.2.1 hr.2.2.1
  have tg := tyc_grid hC2.2.2.2.1 hC2.2.2.2.2.1 hC2.2.2.2.2.2.1 hZ hN (fun a ha => hm _ _ (rg a ha))
  have pos := nw_pos hN hC2
  have t1 := tyc_fac hC2.2.2.2.2.2.2.1 hA hT2.1 pos.1 (fun a ha => hm _ _ (rf1 a ha))
  have t18 := tyc_fac hC2.2.2.2.2.2.2.2.1 hA hT2.2 pos.2 (fun a ha => hm _ _ (rf18 a ha))
  have same : ∀ k r : Nat, R[k]? = some r → r ≠ 0 → k ≠ 36 → k ≠ 54 → ¬ (1 ≤ k ∧ k ≤ 34) → ¬ (g ≤ k ∧ k ≤ g + 16) → h2[k]? = hs[k]? := fun k r hk9 h0 q1 q2 q3 q4 => by
    have hkl : k < hs.length := by rw [← hT.1]; exact (List.getElem?_eq_some_iff.mp hk9).1
    have no : ∀ c N, shp hs k = some (c, N) → c = 8 ∨ c = 10 ∨ c = 39 ∨ c = 34 → False := fun c N e hc => by
      rw [hty_zero hT e hc] at hk9
      cases hk9
      exact h0 rfl
    refine hk k hkl (fun z => no 10 3 (by rw [z]; exact hL.s35) (by omega)) q1 q2 (fun z => no 34 700 (by rw [z]; exact hC.2.2.1.2.1) (by omega)) q3 q4 (fun z => ?_) (fun a z y => ?_)
    · rw [hr.2.2.2.2.2.1 k z.1 z.2] at hk9
      cases hk9
      exact h0 rfl
    · obtain ⟨a1, a2⟩ := hL.arr z
      exact no 39 10 (by rw [y]; exact a2 (by omega)) (by omega)
  refine ⟨hty_mix hT (by rw [List.length_append, List.length_replicate, hT.1]; omega) hm (fun k r hk9 h0 => ?_) (fun q hq k hk9 => app_z hk9 (hT.2.2 q hq).1), ?_, r2⟩
  · have hk8 := app_z hk9 h0
    by_cases q1 : 1 ≤ k ∧ k ≤ 17
    · have a := t1 (k - 1) (by omega)
      have b := rf1 (k - 1) (by omega)
      rw [show 1 + (k - 1) = k by omega] at a b
      rw [hk8] at b
      cases b
      exact Or.inr a
    by_cases q2 : 18 ≤ k ∧ k ≤ 34
    · have a := t18 (k - 18) (by omega)
      have b := rf18 (k - 18) (by omega)
      rw [show 18 + (k - 18) = k by omega] at a b
      rw [hk8] at b
      cases b
      exact Or.inr a
    by_cases q3 : g ≤ k ∧ k ≤ g + 16
    · have a := tg (k - g) (by omega)
      have b := rg (k - g) (by omega)
      rw [show g + (k - g) = k by omega] at a b
      rw [hk8] at b
      cases b
      exact Or.inr a
    by_cases q4 : k = 54
    · subst q4
      have b := hr.2.2.2.2.1
      rw [hk8] at b
      cases b
      obtain ⟨s54, -, -, -, -, ⟨xL, e0, qL⟩, ⟨x1, e1, q1⟩, ⟨x2, e2, q2⟩, -, -, -, hL0, hL7⟩ := hC2.2.2.1
      refine Or.inr ⟨s54, fun j hj => ?_⟩
      have hj : j < 11 := hj
      match j, hj with
      | 0, _ => rw [e0]; exact vt_i9 (Or.inl rfl) (by show (0 : Int) ≤ _; omega) (by show _ ≤ (700 : Int); omega)
      | 1, _ => rw [e1]; exact vt_i9 (Or.inl rfl) (Int32.le_toInt _) (Int32.toInt_le _)
      | 2, _ => rw [e2]; exact vt_i9 (Or.inl rfl) (Int32.le_toInt _) (Int32.toInt_le _)
      | j + 3, _ => exact Or.inl rfl
    by_cases q5 : k = 36
    · rcases h36 with h36 | h36
      · exact Or.inl ⟨hk8, by rw [q5]; exact h36⟩
      · subst q5
        have b := hr.2.2.2.1
        rw [hk8] at b
        cases b
        refine Or.inr ⟨hC2.1.2.2.2.2.2.2.2, fun j hj => ?_⟩
        rw [h36 j hj]
        exact Or.inr (Or.inr (Or.inr (Or.inr (Or.inl ⟨rfl, Or.inl rfl⟩))))
    · exact Or.inl ⟨hk8, same k r hk8 h0 q5 q4 (by omega) q3⟩
  · intro kg hk9
    have hk8 := app_z hk9 (by decide)
    by_cases q : kg = g
    · subst q
      have e2 := hC2.2.2.2.1.2 0 2 (Or.inl ⟨rfl, by decide⟩)
      have f2 := hC2.2.2.2.2.1.2.2.1
      have s5 := hC2.2.2.2.2.2.1
      refine ⟨F2 0 2, kg + 3, e2, (hC2.2.2.2.1.1.2.2.1 (8, 3, 32, 6) (by decide)).1, hm _ _ (rg 3 (by decide)), by have := s5.2.2.2.2.2.1; have := s5.2.2.2.2.2.2.1; omega, rfl, fun j hj => ?_⟩
      have hj6 : j < nl2 := by have := s5.2.2.2.2.2.1; omega
      have hn6 := s5.2.2.2.2.2.2.1
      refine ⟨F2 3 j, hC2.2.2.2.1.2 3 j (by unfold gpl; omega), ?_⟩
      have := hC2.2.2.2.2.1.2.2.2.2.2.2.2.2.1 j (by omega)
      have h1 := hN.2 j hj6
      rw [Nat.zero_add] at this
      omega
    · obtain ⟨n9, kl, e1, e2, e3, e4, e5, e6⟩ := hI kg hk8
      have ngr : ∀ k r a : Nat, R[k]? = some r → a ≤ 16 → k = g + a → r = GRL a := fun k r a h1 h2 h3 => by
        have := rg a h2
        rw [← h3, h1] at this
        exact Option.some.inj this
      have u1 : ∀ a : Fin 17, GRL a.val = 505 → a.val = 0 := by decide
      have u2 : ∀ a : Fin 17, GRL a.val = 546 → a.val = 3 := by decide
      have v1 : ∀ a : Fin 17, FRL a.val ≠ 505 ∧ FRL a.val ≠ 546 := by decide
      have n1 : ∀ k r : Nat, R[k]? = some r → r = 505 ∨ r = 546 → k ≠ 36 ∧ k ≠ 54 ∧ ¬ (1 ≤ k ∧ k ≤ 34) := fun k r h1 h2 => by
        refine ⟨fun z => ?_, fun z => ?_, fun z => ?_⟩
        · rw [z, hr.2.2.2.1] at h1; cases h1; omega
        · rw [z, hr.2.2.2.2.1] at h1; cases h1; omega
        · by_cases y : k ≤ 17
          · have := rf1 (k - 1) (by omega)
            rw [show 1 + (k - 1) = k by omega, h1] at this
            have e := Option.some.inj this
            have := v1 ⟨k - 1, by omega⟩
            have t1 : FRL (k - 1) ≠ 505 := this.1
            have t2 : FRL (k - 1) ≠ 546 := this.2
            omega
          · have := rf18 (k - 18) (by omega)
            rw [show 18 + (k - 18) = k by omega, h1] at this
            have e := Option.some.inj this
            have := v1 ⟨k - 18, by omega⟩
            have t1 : FRL (k - 18) ≠ 505 := this.1
            have t2 : FRL (k - 18) ≠ 546 := this.2
            omega
      have k1 : ¬ (g ≤ kg ∧ kg ≤ g + 16) := fun z => by
        have := ngr kg 505 (kg - g) hk8 (by omega) (by omega)
        have := u1 ⟨kg - g, by omega⟩ this.symm
        have this : kg - g = 0 := this
        omega
      have k2 : ¬ (g ≤ kl ∧ kl ≤ g + 16) := fun z => by
        have := ngr kl 546 (kl - g) e3 (by omega) (by omega)
        have := u2 ⟨kl - g, by omega⟩ this.symm
        have this : kl - g = 3 := this
        omega
      have s1 := same kg 505 hk8 (by decide) (n1 kg 505 hk8 (Or.inl rfl)).1 (n1 kg 505 hk8 (Or.inl rfl)).2.1 (n1 kg 505 hk8 (Or.inl rfl)).2.2 k1
      have s2 := same kl 546 e3 (by decide) (n1 kl 546 e3 (Or.inr rfl)).1 (n1 kl 546 e3 (Or.inr rfl)).2.1 (n1 kl 546 e3 (Or.inr rfl)).2.2 k2
      exact ⟨n9, kl, (rd_of s1 2).trans e1, (rd_of s1 8).trans e2, hm _ _ e3, e4, e5, fun j hj => by
        obtain ⟨z, z1, z2⟩ := e6 j hj
        exact ⟨z, (rd_of s2 j).trans z1, z2⟩⟩
end LJS
