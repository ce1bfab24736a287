/-! The law between two calls. -/
section ROWL
variable {ss : SS} {TBL : List Cond} {g : GG} {cl : List vw_C} {bl : Nat} {xs : Nat → Int32} {d : MD} {p : Program} {l : Launch} {e : Env} {R : Room} {s : State} {m : MethodId} {args : Array Value} {below : List Frame} {meth : Method} {c : Code} {Q : State → Prop} {kc0 ks0 pc n : Nat} {L : LN} {h : HN} {S : List Value} {ft : Nat → Nat → Nat} {mdl : Nat → Option MD} {w : Nat}
theorem g_sald (act : Act ss TBL g cl bl xs d p l s m args meth c) (hG : G_iald ss TBL cl ft mdl d pc w) (hn : nxt w = n) {i : Int32} (h1 : 0 ≤ i.toInt) (h2 : i.toInt < bl) (K : WpN g cl p l e R s m args below meth c Q d.2.2.1 kc0 ks0 n L h (.int (xs i.toInt.toNat) :: S)) : WpN g cl p l e R s m args below meth c Q d.2.2.1 kc0 ks0 pc L h (.int i :: .ref 7000000000003 :: S) := by
  obtain ⟨hx, hb, hr, hml, hown, hts, hK, hE, hlocks, hnm, htab, htr⟩ := act
  obtain ⟨hd, hn'⟩ := hG
  obtain rfl : n = pc + 1 := hn.symm.trans hn'
  intro ls st H locs cells slots r
  obtain ⟨ws, hL, ⟨v9, st9, rfl, h9, v0, st0, rfl, h0, hS⟩, hH, hP, hD, hSS, hc1, hc2⟩ := r
  have h9 : v9 = .int i := h9
  subst h9
  have h0 : v0 = .ref g.2.2.2.1 := by
    rcases h0 with ⟨a, e1, h1, -⟩ | ⟨q, -⟩ | ⟨q, -⟩ | ⟨-, q⟩
    · exact absurd (Nat.lt_trans (List.getElem?_eq_some_iff.mp h1).1 (by rw [hH.1]; exact Nat.lt_trans hH.2.1 (by decide : 7000000000001 < 7000000000003))) (Nat.lt_irrefl _)
    · exact absurd q (by decide)
    · exact absurd q (by decide)
    · rw [if_pos rfl] at q; exact q
  subst h0
  obtain ⟨i1, i2⟩ := in_n h1 h2
  refine va_sld hx hb hE.2.2.2.2.2.2.1 hE.2.2.2.2.2.2.2.1 hE.2.2.2.2.2.2.2.2.1 hSS i1 hd ?_
  rw [i2]
  exact K _ _ _ _ _ _ ⟨ws, hL, SRN.push hS (show VN g ws (.int (xs i.toInt.toNat)) _ from rfl), hH, hP, hD, hSS, hc1, hc2⟩
theorem g_switch (act : Act ss TBL g cl bl xs d p l s m args meth c) (hG : G_switch ss TBL cl ft mdl d pc w) {t b : Nat} (ht : fa w = t) (hb9 : swb (fb w) = b) {x : Int32} (KO : WpN g cl p l e R s m args below meth c Q d.2.2.1 kc0 ks0 t L h S)
    (KI : ∀ j t' : Nat, j < swn b → Nat.mod (Nat.shiftRight b (Nat.add 48 (Nat.mul 16 j))) 65536 = t' → x.toInt + 2147483648 = (swl b : Int) + j → WpN g cl p l e R s m args below meth c Q d.2.2.1 kc0 ks0 t' L h S) : WpN g cl p l e R s m args below meth c Q d.2.2.1 kc0 ks0 pc L h (.int x :: S) := by
  obtain ⟨hx, hb, hr, hml, hown, hts, hK, hE, hlocks, hnm, htab, htr⟩ := act
  obtain ⟨dflt, lo, hi, offs, len, hd, x1, x2, x3, x4⟩ := hG
  subst ht
  subst hb9
  intro ls st H locs cells slots r
  obtain ⟨ws, hL, ⟨v9, st9, rfl, h9, hS⟩, hH, hP, hD, hSS, hc1, hc2⟩ := r
  have h9 : v9 = .int x := h9
  subst h9
  by_cases ho : x.toInt < lo ∨ hi < x.toInt
  · exact lv_tableOut hx hb hd ho x3 (KO _ _ _ _ _ _ ⟨ws, hL, hS, hH, hP, hD, hSS, hc1, hc2⟩)
  · obtain ⟨h1, h2⟩ := not_or.mp ho
    obtain ⟨j, hj⟩ := Int.eq_ofNat_of_zero_le (show 0 ≤ x.toInt - lo by omega)
    obtain ⟨off, o1, o2⟩ := x4 j (by omega)
    exact lv_tableIn hx hb hd h1 h2 (by rw [hj, Int.toNat_natCast]; exact o1) o2 (KI j _ (by omega) rfl (by omega) _ _ _ _ _ _ ⟨ws, hL, hS, hH, hP, hD, hSS, hc1, hc2⟩)
end ROWL
theorem rd_of {hs h2 : List CE} {k : Nat} (e : h2[k]? = hs[k]?) (j : Nat) : rd h2 k j = rd hs k j := by
  unfold rd
  rw [e]
theorem shp_eqc {hs h2 : List CE} {k : Nat} (e : h2[k]? = hs[k]?) : shp h2 k = shp hs k := by
  unfold shp
  rw [e]
theorem rwt_rng : ∀ q ∈ RWT, 124 ≤ q.2.1 ∧ q.2.1 ≤ 145 := by decide
theorem RSt.same {hs h2 : List CE} {L : Int} (h : RSt hs L) (e : ∀ k, 124 ≤ k → k ≤ 145 → h2[k]? = hs[k]?) : RSt h2 L := by
  obtain ⟨tl, wl, pv, nl, n, ng, nr, np, ⟨⟨r1, r2⟩, b2, b3⟩, hPa, ⟨p9, e6, hp9⟩, h10, hN, hP, ⟨⟨x0, m1, m1b⟩, ⟨x1', m2⟩, ⟨x2', m3⟩, m4⟩, ⟨⟨tx, hT⟩, ⟨x1, a1, b1⟩, c1, c2, ⟨x2, a2⟩, ⟨x3, a3⟩, ⟨x4, a4⟩, ⟨x5, a5⟩, ⟨x6, a6, b6⟩, ⟨fv, hF⟩, ⟨gv, hG⟩⟩⟩ := h
  have w : ∀ k j, 124 ≤ k → k ≤ 145 → rd h2 k j = rd hs k j := fun k j q1 q2 => rd_of (e k q1 q2) j
  have w4 : ∀ j, rd h2 124 j = rd hs 124 j := fun j => w 124 j (by decide) (by decide)
  exact ⟨tl, wl, pv, nl, n, ng, nr, np, ⟨⟨(shp_eqc (e 124 (by decide) (by decide))).trans r1, fun q hq => ⟨(w4 _).trans (r2 q hq).1, (shp_eqc (e _ (rwt_rng q hq).1 (rwt_rng q hq).2)).trans (r2 q hq).2⟩⟩, b2.fr (fun j _ => w 125 j (by decide) (by decide)), b3.fr (fun j _ => w 127 j (by decide) (by decide))⟩, hPa.fr (fun j _ => w 129 j (by decide) (by decide)), ⟨p9, (w4 6).trans e6, hp9⟩, h10, hN, hP, ⟨⟨x0, (w4 0).trans m1, m1b⟩, ⟨x1', (w4 24).trans m2⟩, ⟨x2', (w4 28).trans m3⟩, fun j hj => (m4 j hj).elim fun x q => ⟨x, (w4 j).trans q⟩⟩, ⟨⟨tx, hT.fr (fun j _ => w 130 j (by decide) (by decide))⟩, ⟨x1, (w4 10).trans a1, b1⟩, c1, c2, ⟨x2, (w4 11).trans a2⟩, ⟨x3, (w4 12).trans a3⟩, ⟨x4, (w4 13).trans a4⟩, ⟨x5, (w4 15).trans a5⟩, ⟨x6, (w4 14).trans a6, b6⟩, ⟨fv, hF.fr (fun j _ => w 126 j (by decide) (by decide))⟩, ⟨gv, hG.fr (fun j _ => w 128 j (by decide) (by decide))⟩⟩⟩
/-- class and reference between two calls: the class's text A long, the reference's B long -/
def LI (hs : List CE) (R : List Nat) (A B : Int) : Prop := HTy KC R hs ∧ InvC R hs ∧ R[0]? = some 1 ∧ (∀ k, 124 ≤ k → k ≤ 145 → R[k]? = some 0) ∧ R[146]? = some 55 ∧ R[147]? = some 56 ∧ RSt hs B ∧ ∃ x : Int32, rd hs 54 0 = .int x ∧ x.toInt = A
theorem LI.hx {hs h2 : List CE} {R R2 : List Nat} {A A2 B : Int} (h : LI hs R A B) (hX : HX KC InvC R hs R2 h2) (e : ∃ x : Int32, rd h2 54 0 = .int x ∧ x.toInt = A2) : LI h2 R2 A2 B :=
  ⟨hX.1, hX.2.2.2, hX.2.1 _ _ h.2.2.1, fun k q1 q2 => hX.2.1 _ _ (h.2.2.2.1 k q1 q2), hX.2.1 _ _ h.2.2.2.2.1, hX.2.1 _ _ h.2.2.2.2.2.1, h.2.2.2.2.2.2.1.same (fun k q1 q2 => hX.2.2.1 k 0 (h.2.2.2.1 k q1 q2) rfl), e⟩
theorem LI.fr {hs h2 : List CE} {R : List Nat} {A B B2 : Int} {W : Nat → Nat → Prop} (h : LI hs R A B) (f : FrS W hs h2) (hW : ∀ k j, W k j → 124 ≤ k ∧ k ≤ 145) (hR : RSt h2 B2) : LI h2 R A B2 := by
  obtain ⟨hT, hI, q1, q2, q3, q4, -, x, e1, e2⟩ := h
  have hne : ∀ k r : Nat, R[k]? = some r → r ≠ 0 → ∀ j, rd h2 k j = rd hs k j := fun k r hk hr j => f.2.2 k j fun z => by
    obtain ⟨z1, z2⟩ := hW k j z
    rw [q2 k z1 z2] at hk
    cases hk
    exact hr rfl
  have hce : ∀ k r : Nat, R[k]? = some r → r ≠ 0 → h2[k]? = hs[k]? := fun k r hk hr => by
    have q := (hT.2.1 k r hk hr).1
    rw [shp_at q, shp_at ((f.2.1 k).trans q)]
    exact congrArg (fun z => some (_, _, z)) (funext (hne k r hk hr))
  refine ⟨⟨hT.1.trans f.1.symm, fun k r hk hr => ⟨(f.2.1 k).trans (hT.2.1 k r hk hr).1, fun j hj => by rw [hne k r hk hr j]; exact (hT.2.1 k r hk hr).2 j hj⟩, hT.2.2⟩, ?_, q1, q2, q3, q4, hR, x, (f.2.2 54 0 (fun z => by have := (hW 54 0 z).1; omega)).trans e1, e2⟩
  exact invC_KC R hs R h2 hI (fun k r h1 _ => h1) (fun k r h1 h2 => hce k r h1 (by omega)) (fun k r _ h1 => h1) (fun k r j h1 h3 _ _ => Or.inl (hne k r h1 h3 j))
theorem WM_rng : ∀ k j, WM k j → 124 ≤ k ∧ k ≤ 145 := fun k j h => by unfold WM at h; omega
theorem WR0_rng : ∀ k j, WR0 k j → 124 ≤ k ∧ k ≤ 145 := fun k j h => by unfold WR0 at h; omega
theorem LI.wm {hs h2 : List CE} {R : List Nat} {A B : Int} (h : LI hs R A B) (f : FrS WM hs h2) (hM : ModF h2) : LI h2 R A B := h.fr f WM_rng (h.2.2.2.2.2.2.1.wm f hM)
theorem LI.wr0 {hs h2 : List CE} {R : List Nat} {A B B2 : Int} (h : LI hs R A B) (f : FrS WR0 hs h2) (hR : RSt h2 B2) : LI h2 R A B2 := h.fr f WR0_rng hR
/-- a wrapper's contract: it returns an int, the text's length stays -/
def wOK (c : CT9) : Bool := c.2.2.1.all fun pt => decide (pt.1 = 0) && decide (pt.2.2.1.length = 1) && decide ((pt.2.2.1.getD 0 (0, 0, 0, 0)).1 = 1) && decide (pt.2.2.2.1[0]? = some (1, c.2.1.1.length - 7, 0, 0))
def POW (R : List Nat) (hs : List CE) (n : Nat) : Nat → Option Value → List CE → Prop := fun kd r h2 => kd = 0 ∧ (∃ x : Int32, r = some (.int x)) ∧ ∃ R2 : List Nat, HX KC InvC R hs R2 h2 ∧ h2.length ≤ hs.length + n ∧ rd h2 54 0 = rd hs 54 0
theorem w_use {c : CT9} (hw : wOK c = true) {R : List Nat} {hs h2 : List CE} {kd : Nat} {r : Option Value} (h : PoU c R hs kd r h2) : POW R hs c.2.2.2.2.2.1 kd r h2 := by
  obtain ⟨R', pt, hm, hk, hX, hl, h1, hn, h0⟩ := h
  have hw := List.all_eq_true.mp hw pt hm
  simp only [Bool.and_eq_true, decide_eq_true_eq] at hw
  obtain ⟨⟨⟨w1, w2⟩, w3⟩, w4⟩ := hw
  obtain ⟨a, ha⟩ := List.length_eq_one_iff.mp w2
  rw [ha] at w3
  have w3 : a.1 = 1 := w3
  exact ⟨hk.symm.trans w1, h1 a ha w3, R', hX, hl, (h0 _ _ w4).1 rfl rfl⟩
