/-! The law's invariant behind each call that changes the state. -/
theorem n_al9 {g : GG} {cl : List vw_C} {p : Program} {l : Launch} {e : Env} {R : Room} {s : State} {m : MethodId} {args : Array Value} {below : List Frame} {meth : Method} {c : Code} {Q : State → Prop} {nL kc0 ks0 pc : Nat} {L : LN} {h : HN} {S : List Value} (K : AL9 h.1 → WpN g cl p l e R s m args below meth c Q nL kc0 ks0 pc L h S) : WpN g cl p l e R s m args below meth c Q nL kc0 ks0 pc L h S := fun ls st H locs cells slots hr => K (by
  obtain ⟨ws, -, -, hH, -⟩ := hr
  intro k N j hk hj
  have hc := shp_at hk
  have hlt : k < ws.length := by rw [hH.1]; exact shp_lt hk
  obtain ⟨c9, h1, h2⟩ := hH.2.2 k _ (List.getElem?_eq_getElem hlt)
  rw [hc] at h1
  cases h1
  obtain ⟨cA, f, e, -, hf⟩ := h2.longs rfl
  exact ⟨f j, hf j hj⟩) ls st H locs cells slots hr
section LJO
variable {hs h1 h2 : List CE} {R R2 : List Nat} {tx : Nat → Int} {L : Nat} {ec ep : Int} {fv w pv : Nat → Int} {nl n ng nr np : Nat} {ch : Nat → Nat → Int} {g : Nat} {F : Nat → Nat → Int32}
/-- the out array is no cell of the class or the reference -/
theorem wr146 {v : Value} {k : Nat} (hk : k ≠ 146) : (wr hs 146 0 v)[k]? = hs[k]? := wr_ne (fun z => hk z.symm)
theorem CHJ.out {v : Value} (h : CHJ hs tx L ec ep fv w nl ng nr n np ch g) (h146 : shp hs 146 = some (33, 1)) : CHJ (wr hs 146 0 v) tx L ec ep fv w nl ng nr n np ch g := by
  obtain ⟨F, hC⟩ := id h.1
  have g0 := hC.g0
  exact h.cells (wr146 (by decide)) ((shp_wr _ _ _ _ _).trans hC.1.2.2.2.2.2.2.2) (fun k hk => wr146 (by omega)) (fun k c N e hc => wr146 (fun z => by
    rw [z, h146] at e
    cases e
    omega))
theorem AL9.out {x : Int64} (h : AL9 hs) : AL9 (wr hs 146 0 (.long x)) := fun k N j hk hj => by
  rw [shp_wr] at hk
  by_cases q : k = 146 ∧ j = 0
  · rw [q.1] at hk ⊢
    rw [q.2]
    exact ⟨x, rd_same hk⟩
  · obtain ⟨y, hy⟩ := h k N j hk hj
    exact ⟨y, (rd_ne _ _ (by omega)).trans hy⟩
/-- typed again, the out array written -/
theorem typ_out {x : Int64} (hT : HTy KCQ R hs) (hI : InvCQ R hs) (hr : LRo R) : HTy KCQ R (wr hs 146 0 (.long x)) ∧ InvCQ R (wr hs 146 0 (.long x)) := by
  have h55 := hr.2.2.2.2.2.2.2.1
  have ne : ∀ k r : Nat, R[k]? = some r → r ≠ 55 → (wr hs 146 0 (.long x))[k]? = hs[k]? := fun k r hk h0 => wr146 (fun z => by
    rw [z, h55] at hk
    cases hk
    exact h0 rfl)
  refine ⟨hT.wr h55 (by decide) (vt_l9 rfl x.le_toInt (Int.le_of_lt_add_one x.toInt_lt) (by decide)), fun kg hk => ?_⟩
  obtain ⟨n9, kl, e1, e2, e3, e4, e5, e6⟩ := hI kg hk
  exact ⟨n9, kl, (rd_of (ne kg 505 hk (by decide)) 2).trans e1, (rd_of (ne kg 505 hk (by decide)) 8).trans e2, e3, e4, e5, fun j hj => by
    obtain ⟨z, z1, z2⟩ := e6 j hj
    exact ⟨z, (rd_of (ne kl 546 e3 (by decide)) j).trans z1, z2⟩⟩
/-- after the class's call: typed; its half told anew, the reference's as before -/
def LH (h2 : List CE) (R2 : List Nat) (tx : Nat → Int) (L : Nat) (ec ep : Int) (fv w pv : Nat → Int) (nl n ng nr np : Nat) (tx2 : Nat → Int) (L2 : Nat) (ec2 ep2 : Int) (fv2 w2 : Nat → Int) (nl2 n2 ng2 nr2 np2 : Nat) (ch2 : Nat → Nat → Int) (g2 : Nat) : Prop := HTy KCQ R2 h2 ∧ InvCQ R2 h2 ∧ LRo R2 ∧ CHJ h2 tx2 L2 ec2 ep2 fv2 w2 nl2 ng2 nr2 n2 np2 ch2 g2 ∧ MXS h2 fv w pv nl n ng nr np ∧ MTX h2 tx L ec ep
/-- the class's call leaves the reference's cells -/
theorem em_of (hr : LRo R) (hT : HTy KCQ R hs) (hC : CLN hs tx (L : Int) ec ep g F fv w (w 38) nl ng nr n) (hL : LSC hs np ch) (hRW : RW hs) (hlen : hs.length ≤ 6999999999999) : ∀ k : Nat, 124 ≤ k → k ≤ 147 → k < hs.length ∧ k ≠ 35 ∧ k ≠ 36 ∧ ¬ (1 ≤ k ∧ k ≤ 34) ∧ ¬ (g ≤ k ∧ k ≤ g + 16) ∧ ¬ (56 ≤ k ∧ k ≤ 72) ∧ ∀ a : Nat, rd hs 35 0 = .ref a → k ≠ a := fun k k1 k2 => by
  have g0 := hC.g0
  have hl : k < hs.length := by
    rw [← hT.1]
    have := (List.getElem?_eq_some_iff.mp hr.2.2.2.2.2.2.2.2).1
    omega
  exact ⟨hl, by omega, by omega, by omega, by omega, by omega, fun a z y => by have := (hL.arr z).1; omega⟩
/-- a setter of the class or its undo -/
theorem lj_cok {w2 : Nat → Int} {o2 : Int} {np2 : Nat} {ch2 : Nat → Nat → Int} {x : Int64} (hT : HTy KCQ R hs) (hI : InvCQ R hs) (hr : LRo R) (hJ : CHJ hs tx L ec ep fv w nl ng nr n np ch g) (hM : MXS hs fv w pv nl n ng nr np) (hX : MTX hs tx L ec ep) (hlen : hs.length + 3 ≤ 6999999999999) (hL7 : L ≤ 700) (hZ : ZR fv) (hok : COk hs h1 tx (L : Int) ec ep g fv w2 o2 nl ng nr n np2 ch2) (ho : w2 38 = o2) (h10 : np2 ≤ 10) (hN : NWx fv w2 nl n ng nr) (hA : AL9 (wr h1 146 0 (.long x))) : ∃ R2 : List Nat, LH (wr h1 146 0 (.long x)) R2 tx L ec ep fv w pv nl n ng nr np tx L ec ep fv w2 nl n ng nr np2 ch2 g := by
  obtain ⟨⟨F2, hC2⟩, hT2, ⟨ka, hA2⟩, l1, l2, hk, hN36⟩ := hok
  obtain ⟨F, hC⟩ := id hJ.1
  subst ho
  have hJ2 : CHJ h1 tx L ec ep fv w2 nl ng nr n np2 ch2 g := ⟨⟨F2, hC2⟩, hT2, h10, Or.inr ⟨ka, hA2⟩⟩
  have em := em_of hr hT hC hJ.2.2 hM.1.1 (by omega)
  have e147 : ∀ k : Nat, 124 ≤ k → k ≤ 147 → h1[k]? = hs[k]? := fun k k1 k2 => by
    obtain ⟨a1, a2, a3, a4, a5, a6, a7⟩ := em k k1 k2
    exact hk k a1 a2 a3 a4 a5 a6 a7
  have s146 : shp hs 146 = some (33, 1) := ty_shpQ hT hr.2.2.2.2.2.2.2.1 (by decide) (by decide) (by decide)
  have s1 : shp h1 146 = some (33, 1) := (shp_eqc (e147 146 (by decide) (by decide))).trans s146
  have hA1 : AL9 h1 := fun k N j h9 hj => by
    by_cases q : k = 146 ∧ j = 0
    · obtain ⟨y, hy⟩ := (show ∃ y : Int64, rd hs 146 0 = .long y by
        obtain ⟨-, q2⟩ := hT.2.1 146 55 hr.2.2.2.2.2.2.2.1 (by decide)
        have q3 := q2 0 (by decide)
        rcases q3 with z | ⟨z, -⟩ | ⟨-, y, hy, -⟩ | ⟨z, -⟩ | ⟨z, -⟩ | ⟨z, -⟩ | ⟨z, -⟩
        · exact absurd z (by decide)
        · exact absurd z (by decide)
        · exact ⟨y, hy⟩
        · exact absurd z (by decide)
        · exact absurd z (by decide)
        · exact absurd z (by decide)
        · exact absurd z (by decide))
      rw [q.1, q.2]
      exact ⟨y, (rd_of (e147 146 (by decide) (by decide)) 0).trans hy⟩
    · obtain ⟨y, hy⟩ := hA k N j (by rw [shp_wr]; exact h9) hj
      exact ⟨y, (rd_ne _ _ (by omega)).symm.trans hy⟩
  obtain ⟨t1, t2, t3⟩ := LJ.step hT hI hr hC l1 (by omega) hJ.2.2 (fun k q1 q2 q3 _ _ q4 q5 q6 q7 => hk k q1 q2 q3 q4 q5 q6 q7) hA1 (Or.inr hN36) hJ2 hN hZ hL7
  have o := typ_out (x := x) t1 t2 t3
  have em2 : ∀ k : Nat, 124 ≤ k → k ≤ 145 → (wr h1 146 0 (.long x))[k]? = hs[k]? := fun k a b => (wr146 (by omega)).trans (e147 k a (by omega))
  exact ⟨_, o.1, o.2, t3, hJ2.out s1, hM.same em2, hX.same (fun k j hk => rd_of (em2 k (by omega) (by omega)) j)⟩
/-- the text is changed -/
theorem CLN.txt {o : Int} {tx2 : Nat → Int} {L2 : Nat} (h : CLN hs tx (L : Int) ec ep g F fv w o nl ng nr n) (f : FrS WT5 hs h2) (hG : GRT h2 tx2 L2) (hL : L2 ≤ 700) : CLN h2 tx2 (L2 : Int) ec ep g F fv w o nl ng nr n := by
  have g0 := h.g0
  have e : ∀ k, k = 0 ∨ k = 36 ∨ (1 ≤ k ∧ k ≤ 34) ∨ (56 ≤ k ∧ k ≤ 72) ∨ (g ≤ k ∧ k ≤ g + 16) → h2[k]? = hs[k]? := fun k hk => frs_cell f (h.lt (by omega)) (fun j z => by unfold WT5 at z; omega)
  obtain ⟨P, e6, ⟨s54, s55, r3, r4, hT, ⟨xL, e0, qL⟩, ⟨x1, e1, q1⟩, ⟨x2, e2, q2⟩, ⟨x7, e7⟩, ⟨x8, e8⟩, ⟨x10, e10⟩, hL0, hL7⟩, Gm, Rr, S, f1, f18, f56⟩ := h
  obtain ⟨-, -, -, hT2, xM, eM, qM⟩ := hG
  have w4 : ∀ j, j ≠ 0 → rd h2 54 j = rd hs 54 j := fun j hj => f.2.2 54 j (fun z => by unfold WT5 at z; omega)
  exact ⟨P.cell (e 0 (by omega)) (e 36 (by omega)), (rd_of (e 0 (by omega)) 6).trans e6, ⟨(f.2.1 54).trans s54, (f.2.1 55).trans s55, (w4 3 (by decide)).trans r3, (w4 4 (by decide)).trans r4, hT2, ⟨xM, eM, qM⟩, ⟨x1, (w4 1 (by decide)).trans e1, q1⟩, ⟨x2, (w4 2 (by decide)).trans e2, q2⟩, ⟨x7, (w4 7 (by decide)).trans e7⟩, ⟨x8, (w4 8 (by decide)).trans e8⟩, ⟨x10, (w4 10 (by decide)).trans e10⟩, by omega, by omega⟩, Gm.cells (fun k q1 q2 => e k (by omega)), Rr, S, f1.cellb (fun k q1 q2 => e k (by omega)), f18.cellb (fun k q1 q2 => e k (by omega)), f56.cellb (fun k q1 q2 => e k (by omega))⟩
theorem lj_txt {tx2 : Nat → Int} {L2 : Nat} {x : Int64} (hT : HTy KCQ R hs) (hI : InvCQ R hs) (hr : LRo R) (hJ : CHJ hs tx L ec ep fv w nl ng nr n np ch g) (hM : MXS hs fv w pv nl n ng nr np) (hX : MTX hs tx L ec ep) (f : FrS WT5 hs h1) (hG : GRT h1 tx2 L2) (hL2 : L2 ≤ 700) : LH (wr h1 146 0 (.long x)) R tx L ec ep fv w pv nl n ng nr np tx2 L2 ec ep fv w nl n ng nr np ch g := by
  obtain ⟨F, hC⟩ := id hJ.1
  have g0 := hC.g0
  have e : ∀ k, k ≠ 54 → k ≠ 55 → k < hs.length → h1[k]? = hs[k]? := fun k a b c => frs_cell f c (fun j z => by unfold WT5 at z; omega)
  have hk0 : ∀ k r : Nat, R[k]? = some r → k < hs.length := fun k r hk => by rw [← hT.1]; exact (List.getElem?_eq_some_iff.mp hk).1
  have h55 : R[55]? = some 0 := hty_zero hT hC.2.2.1.2.1 (by omega)
  have hC2 := hC.txt f hG hL2
  have t1 : HTy KCQ R h1 := hty_frsQ hT f (fun k r j z hk h0 hj => by
    rcases z with z | ⟨z1, z2⟩
    · rw [z, h55] at hk
      cases hk
      exact absurd rfl h0
    · rw [z1, hr.2.2.2.2.1] at hk
      cases hk
      rw [z1, z2]
      obtain ⟨xL, e0, qL⟩ := hC2.2.2.1.2.2.2.2.2.1
      rw [e0]
      exact vt_i9 (Or.inl rfl) (by show (0 : Int) ≤ _; omega) (by show _ ≤ (700 : Int); omega))
  have ce : ∀ k r : Nat, R[k]? = some r → r = 505 ∨ r = 546 → h1[k]? = hs[k]? := fun k r hk h0 => e k (fun z => by
    rw [z, hr.2.2.2.2.1] at hk
    cases hk
    omega) (fun z => by
    rw [z, h55] at hk
    cases hk
    omega) (hk0 k r hk)
  have t2 : InvCQ R h1 := fun kg hk => by
    obtain ⟨n9, kl, e1, e2, e3, e4, e5, e6⟩ := hI kg hk
    exact ⟨n9, kl, (rd_of (ce kg 505 hk (Or.inl rfl)) 2).trans e1, (rd_of (ce kg 505 hk (Or.inl rfl)) 8).trans e2, e3, e4, e5, fun j hj => by
      obtain ⟨z, z1, z2⟩ := e6 j hj
      exact ⟨z, (rd_of (ce kl 546 e3 (Or.inr rfl)) j).trans z1, z2⟩⟩
  have hJ2 : CHJ h1 tx2 L2 ec ep fv w nl ng nr n np ch g := ⟨⟨F, hC2⟩, hJ.2.1.cells (rd_of (e 1 (by decide) (by decide) (hC.lt (by omega))) 0) (rd_of (e 18 (by decide) (by decide) (hC.lt (by omega))) 0), hJ.2.2.cells (fun k c N e9 hc => e k (fun z => by
    rw [z, hC.2.2.1.1] at e9
    cases e9
    omega) (fun z => by
    rw [z, hC.2.2.1.2.1] at e9
    cases e9
    omega) (shp_lt e9))⟩
  have s146 : shp hs 146 = some (33, 1) := ty_shpQ hT hr.2.2.2.2.2.2.2.1 (by decide) (by decide) (by decide)
  have o := typ_out (x := x) t1 t2 hr
  have em2 : ∀ k : Nat, 124 ≤ k → k ≤ 145 → (wr h1 146 0 (.long x))[k]? = hs[k]? := fun k a b => (wr146 (by omega)).trans (e k (by omega) (by omega) (hk0 k 0 (hr.2.2.2.2.2.2.1 k a b)))
  exact ⟨o.1, o.2, hr, hJ2.out ((f.2.1 146).trans s146), hM.same em2, hX.same (fun k j hk => rd_of (em2 k (by omega) (by omega)) j)⟩
theorem LSF.c0 {hs : List CE} (h : LSF hs 0) : LSC hs 0 ch := by
  obtain ⟨a, b, ⟨x, c, c2⟩, -, ⟨d, -⟩ | ⟨ka, d, d2, d3⟩⟩ := h
  · refine ⟨by decide, Or.inl ⟨a, b, ?_, d, rfl⟩⟩
    rw [c]
    rw [show x = 0 from Int32.toInt_inj.mp (by rw [c2]; rfl)]
  · exact ⟨by decide, Or.inr ⟨ka, a, b, ⟨x, c, c2⟩, d, d2, d3, fun j hj => absurd hj (Nat.not_lt_zero _)⟩⟩
theorem LSC.f (h : LSC hs np ch) : LSF hs np := by
  obtain ⟨h10, ⟨a, b, c, d, z⟩ | ⟨ka, a, b, c, d, d2, d3, -⟩⟩ := h
  · exact ⟨a, b, ⟨0, c, by rw [z]; rfl⟩, h10, Or.inl ⟨d, z⟩⟩
  · exact ⟨a, b, c, h10, Or.inr ⟨ka, d, d2, d3⟩⟩
/-- a text that is no grid -/
theorem lj_bad {ec2 ep2 : Int} (hT : HTy KCQ R hs) (hI : InvCQ R hs) (hr : LRo R) (hJ : CHJ hs tx L ec ep fv w nl ng nr n np ch g) (hM : MXS hs fv w pv nl n ng nr np) (hX : MTX hs tx L ec ep) (hlen : hs.length + 40 ≤ 6999999999999) (hZ : ZR fv) (hD : RD0 h2 tx 0 ec2 ep2) (hl : h2.length = hs.length + 17) (hF : FLS h2 56) (hk : ∀ k, k < hs.length → k ≠ 54 → ¬ (56 ≤ k ∧ k ≤ 72) → h2[k]? = hs[k]?) (hA : AL9 h2) : ∃ R2 : List Nat, LH h2 R2 tx L ec ep fv w pv nl n ng nr np tx 0 ec2 ep2 fv w nl n ng nr np ch g := by
  obtain ⟨F, hC⟩ := id hJ.1
  have g0 := hC.g0
  have hJ2 : CHJ h2 tx 0 ec2 ep2 fv w nl ng nr n np ch g := by
    have e : ∀ k, k = 0 ∨ k = 36 ∨ (1 ≤ k ∧ k ≤ 34) ∨ (g ≤ k ∧ k ≤ g + 16) → h2[k]? = hs[k]? := fun k q => hk k (hC.lt (by omega)) (by omega) (by omega)
    refine ⟨⟨F, ?_⟩, hJ.2.1.cells (rd_of (e 1 (by omega)) 0) (rd_of (e 18 (by omega)) 0), hJ.2.2.cells (fun k c N e9 hc => hk k (shp_lt e9) (fun z => by
      rw [z, hC.2.2.1.1] at e9
      cases e9
      omega) (fun z => ?_))⟩
    · obtain ⟨P, e6, D, Gm, Rr, S, f1, f18, f56⟩ := hC
      exact ⟨P.cell (e 0 (by omega)) (e 36 (by omega)), (rd_of (e 0 (by omega)) 6).trans e6, hD, Gm.cells (fun k q1 q2 => e k (by omega)), Rr, S, f1.cellb (fun k q1 q2 => e k (by omega)), f18.cellb (fun k q1 q2 => e k (by omega)), hF⟩
    · have f56 := hC.2.2.2.2.2.2.2.2
      by_cases q : k = 56 ∨ WFr 56 k 0
      · rcases q with q | q
        · rw [q, f56.2.1] at e9
          cases e9
          omega
        · obtain ⟨c2, N2, e2, q2⟩ := f56.kd q
          rw [e9] at e2
          cases e2
          omega
      · have : k = 57 ∨ k = 64 ∨ k = 68 := by unfold WFr at q; omega
        obtain ⟨-, -, -, ⟨s1, s2, s3⟩, -⟩ := f56
        rcases this with q | q | q
        · rw [q] at e9
          rw [show shp hs 57 = some (38, 6) from s1] at e9
          cases e9
          omega
        · rw [q] at e9
          rw [show shp hs 64 = some (38, 3) from s2] at e9
          cases e9
          omega
        · rw [q] at e9
          rw [show shp hs 68 = some (38, 4) from s3] at e9
          cases e9
          omega
  obtain ⟨t1, t2, t3⟩ := LJ.step hT hI hr hC (by omega) (by omega) hJ.2.2 (fun k q1 q2 q3 q8 q9 q4 q5 q6 q7 => hk k q1 q8 q6) hA (Or.inl (hk 36 (hC.lt (by omega)) (by decide) (by decide))) hJ2 hM.2.2.2.2.1 hZ (by decide)
  have hk0 : ∀ k r : Nat, R[k]? = some r → k < hs.length := fun k r hk => by rw [← hT.1]; exact (List.getElem?_eq_some_iff.mp hk).1
  have em2 : ∀ k : Nat, 124 ≤ k → k ≤ 145 → h2[k]? = hs[k]? := fun k a b => hk k (hk0 k 0 (hr.2.2.2.2.2.2.1 k a b)) (by omega) (by omega)
  exact ⟨_, t1, t2, t3, hJ2, hM.same em2, hX.same (fun k j hk => rd_of (em2 k (by omega) (by omega)) j)⟩
theorem grl_reg : ∀ a : Fin 17, GRL a.val ≠ 504 ∧ GRL a.val ≠ 8 := by decide
theorem reg_kc : ∀ q ∈ KCQ.2.2, q.1 = 504 ∨ q.1 = 8 := by decide
/-- a text that is a grid -/
theorem lj_load {fv2 gv2 : Nat → Int} {o2 : Int} {F2 : Nat → Nat → Int32} {nl2 ng2 nr2 n2 : Nat} {x : Int64} (hT : HTy KCQ R hs) (hI : InvCQ R hs) (hr : LRo R) (hJ : CHJ hs tx L ec ep fv w nl ng nr n np ch g) (hM : MXS hs fv w pv nl n ng nr np) (hX : MTX hs tx L ec ep) (h148 : 148 ≤ hs.length) (hlen : hs.length + 40 ≤ 6999999999999) (hD : LDP hs h1 tx F2 fv2 gv2 o2 nl2 ng2 nr2 n2) (hl : h1.length = hs.length + 17) (hk : KPL hs h1) (h36 : N36 h1) (hZ : ZR fv2) (hN : NWx fv2 (upI gv2 38 o2) nl2 n2 ng2 nr2) (hA : AL9 (wr h1 146 0 (.long x))) : ∃ R2 : List Nat, LH (wr h1 146 0 (.long x)) R2 tx L ec ep fv w pv nl n ng nr np tx 0 0 (-1) fv2 (upI gv2 38 o2) nl2 n2 ng2 nr2 0 ch hs.length := by
  obtain ⟨F, hC⟩ := id hJ.1
  obtain ⟨dG, dR, dS, dD, f1, f18, f56, t1, t18, P2, e6, hL2, e35⟩ := hD
  have g0 := hC.g0
  have o38 : upI gv2 38 o2 38 = o2 := by unfold upI; rw [if_pos rfl]
  have hC2 : CLN h1 tx ((0 : Nat) : Int) 0 (-1) hs.length F2 fv2 (upI gv2 38 o2) (upI gv2 38 o2 38) nl2 ng2 nr2 n2 := by
    rw [o38]
    exact ⟨P2, e6, dD, dG, dR.cong (fun j hj => upI_ne9 (by omega)), dS, f1, f18, f56⟩
  have hJ2 : CHJ h1 tx 0 0 (-1) fv2 (upI gv2 38 o2) nl2 ng2 nr2 n2 0 ch hs.length := ⟨⟨F2, hC2⟩, by rw [o38]; exact ⟨t1, t18⟩, hL2.c0⟩
  have pos := nw_pos hN hC2
  have hk0 : ∀ k r : Nat, R[k]? = some r → k < hs.length := fun k r hk => by rw [← hT.1]; exact (List.getElem?_eq_some_iff.mp hk).1
  have same : ∀ k r : Nat, R[k]? = some r → r ≠ 0 → k ≠ 0 → k ≠ 36 → k ≠ 54 → ¬ (1 ≤ k ∧ k ≤ 34) → h1[k]? = hs[k]? := fun k r hk9 h0 q0 q1 q2 q3 => by
    have no : ∀ c N, shp hs k = some (c, N) → c = 8 ∨ c = 10 ∨ c = 39 ∨ c = 34 → False := fun c N e hc => by
      rw [hty_zero hT e hc] at hk9
      cases hk9
      exact h0 rfl
    have q35 : k ≠ 35 := fun z => no 10 3 (by rw [z]; exact hJ.2.2.s35) (by omega)
    refine hk k (hk0 k r hk9) (by omega) q2 (fun z => ?_) (fun a z y => ?_)
    · rw [hr.2.2.2.2.2.1 k z.1 z.2] at hk9
      cases hk9
      exact h0 rfl
    · obtain ⟨a1, a2⟩ := hJ.2.2.arr z
      have := hk0 k r hk9
      exact no 39 10 (by rw [y]; exact a2 (by omega)) (by omega)
  have hm : ∀ k r : Nat, R[k]? = some r → (R ++ (List.range 17).map GRL)[k]? = some r := fun k r h => by
    rw [List.getElem?_append_left (List.getElem?_eq_some_iff.mp h).1]
    exact h
  have hnew : ∀ a, a ≤ 16 → (R ++ (List.range 17).map GRL)[hs.length + a]? = some (GRL a) := fun a ha => by
    rw [List.getElem?_append_right (by rw [hT.1]; omega), hT.1, show hs.length + a - hs.length = a by omega, List.getElem?_map, List.getElem?_range (by omega)]
    rfl
  have hold : ∀ k r : Nat, (R ++ (List.range 17).map GRL)[k]? = some r → R[k]? = some r ∨ ∃ a, a ≤ 16 ∧ k = hs.length + a ∧ r = GRL a := fun k r h => by
    by_cases q : k < R.length
    · rw [List.getElem?_append_left q] at h
      exact Or.inl h
    · have hlt := (List.getElem?_eq_some_iff.mp h).1
      rw [List.length_append, List.length_map, List.length_range] at hlt
      have hT1 := hT.1
      refine Or.inr ⟨k - hs.length, by omega, by omega, ?_⟩
      have := hnew (k - hs.length) (by omega)
      rw [show hs.length + (k - hs.length) = k by omega, h] at this
      exact Option.some.inj this
  have r2 := hr.mono hm
  have rf1 := fls_roles hT hC.2.2.2.2.2.2.1 hr.2.1
  have rf18 := fls_roles hT hC.2.2.2.2.2.2.2.1 hr.2.2.1
  have e147 : ∀ k : Nat, 124 ≤ k → k ≤ 147 → h1[k]? = hs[k]? := fun k k1 k2 => by
    have hkl := hk0 147 56 hr.2.2.2.2.2.2.2.2
    exact hk k (by omega) (by omega) (by omega) (by omega) (fun a z y => by have := (hJ.2.2.arr z).1; omega)
  have s146 : shp hs 146 = some (33, 1) := ty_shpQ hT hr.2.2.2.2.2.2.2.1 (by decide) (by decide) (by decide)
  have s1 : shp h1 146 = some (33, 1) := (shp_eqc (e147 146 (by decide) (by decide))).trans s146
  have y146 : ∃ y : Int64, rd hs 146 0 = .long y := by
    obtain ⟨-, q2⟩ := hT.2.1 146 55 hr.2.2.2.2.2.2.2.1 (by decide)
    have q3 := q2 0 (by decide)
    rcases q3 with z | ⟨z, -⟩ | ⟨-, y, hy, -⟩ | ⟨z, -⟩ | ⟨z, -⟩ | ⟨z, -⟩ | ⟨z, -⟩
    · exact absurd z (by decide)
    · exact absurd z (by decide)
    · exact ⟨y, hy⟩
    · exact absurd z (by decide)
    · exact absurd z (by decide)
    · exact absurd z (by decide)
    · exact absurd z (by decide)
  have hA1 : AL9 h1 := fun k N j h9 hj => by
    by_cases q : k = 146 ∧ j = 0
    · obtain ⟨y, hy⟩ := y146
      rw [q.1, q.2]
      exact ⟨y, (rd_of (e147 146 (by decide) (by decide)) 0).trans hy⟩
    · obtain ⟨y, hy⟩ := hA k N j (by rw [shp_wr]; exact h9) hj
      exact ⟨y, (rd_ne _ _ (by omega)).symm.trans hy⟩
  have tf1 := tyc_fac f1 hA1 t1 pos.1 (fun a ha => hm _ _ (rf1 a ha))
  have tf18 := tyc_fac f18 hA1 t18 (by rw [← o38]; exact pos.2) (fun a ha => hm _ _ (rf18 a ha))
  have tg := tyc_grid dG hC2.2.2.2.2.1 hC2.2.2.2.2.2.1 hZ hN hnew
  have R73 : R[73]? = some 7 := by
    obtain ⟨y, e, q⟩ := ty_refQ (r2 := 7) (j := 1) hT hr.1 (by decide) (by decide) (by decide) (by decide) (by decide)
    rw [hC.1.2.2.1] at e
    cases e
    exact q
  have tt : HTy KCQ (R ++ (List.range 17).map GRL) h1 := by
    refine hty_mix hT (by rw [List.length_append, List.length_map, List.length_range, hT.1, hl]) hm (fun k r hk9 h0 => ?_) (fun q hq k hk9 => ?_)
    · rcases hold k r hk9 with hk8 | ⟨a, ha, rfl, rfl⟩
      · by_cases q1 : 1 ≤ k ∧ k ≤ 17
        · have a := tf1 (k - 1) (by omega)
          have b := rf1 (k - 1) (by omega)
          rw [show 1 + (k - 1) = k by omega] at a b
          rw [hk8] at b
          cases b
          exact Or.inr a
        by_cases q2 : 18 ≤ k ∧ k ≤ 34
        · have a := tf18 (k - 18) (by omega)
          have b := rf18 (k - 18) (by omega)
          rw [show 18 + (k - 18) = k by omega] at a b
          rw [hk8] at b
          cases b
          exact Or.inr a
        by_cases q4 : k = 54
        · subst q4
          have b := hr.2.2.2.2.1
          rw [hk8] at b
          cases b
          obtain ⟨s54, -, -, -, -, ⟨xL, e0, qL⟩, ⟨x1, e1, q1⟩, ⟨x2, e2, q2⟩, -, -, -, hL0, hL7⟩ := dD
          refine Or.inr ⟨s54, fun j hj => ?_⟩
          have hj : j < 11 := hj
          match j, hj with
          | 0, _ => rw [e0]; exact vt_i9 (Or.inl rfl) (by show (0 : Int) ≤ _; omega) (by show _ ≤ (700 : Int); omega)
          | 1, _ => rw [e1]; exact vt_i9 (Or.inl rfl) (Int32.le_toInt _) (Int32.toInt_le _)
          | 2, _ => rw [e2]; exact vt_i9 (Or.inl rfl) (Int32.le_toInt _) (Int32.toInt_le _)
          | j + 3, _ => exact Or.inl rfl
        by_cases q5 : k = 36
        · subst q5
          have b := hr.2.2.2.1
          rw [hk8] at b
          cases b
          refine Or.inr ⟨P2.2.2.2.2.2.2.2, fun j hj => ?_⟩
          rw [h36 j hj]
          exact Or.inr (Or.inr (Or.inr (Or.inr (Or.inl ⟨rfl, Or.inl rfl⟩))))
        by_cases q6 : k = 0
        · subst q6
          have b := hr.1
          rw [hk8] at b
          cases b
          refine Or.inr ⟨P2.1, fun j hj => ?_⟩
          have hj : j < 7 := hj
          match j, hj with
          | 0, _ => rw [P2.2.1]; exact vt_r9 (Or.inl rfl) r2.2.2.2.2.1 (by decide) (by decide)
          | 1, _ => rw [P2.2.2.1]; exact vt_r9 (Or.inl rfl) (hm _ _ R73) (by decide) (by decide)
          | 2, _ => rw [P2.2.2.2.1]; exact vt_r9 (Or.inl rfl) r2.2.1 (by decide) (by decide)
          | 3, _ => rw [P2.2.2.2.2.1]; exact vt_r9 (Or.inl rfl) r2.2.2.1 (by decide) (by decide)
          | 4, _ => exact Or.inl rfl
          | 5, _ => rw [P2.2.2.2.2.2.2.1]; exact vt_r9 (Or.inl rfl) r2.2.2.2.1 (by decide) (by decide)
          | 6, _ => rw [e6]; exact vt_r9 (Or.inl rfl) (hnew 0 (by decide)) (by decide) (by decide)
          | j + 7, hj => exact absurd hj (by omega)
        · exact Or.inl ⟨hk8, same k r hk8 h0 q6 q5 q4 (by omega)⟩
      · exact Or.inr (tg a ha)
    · rcases hold k _ hk9 with h | ⟨a, ha, rfl, h⟩
      · exact h
      · have u := grl_reg ⟨a, by omega⟩
        have u1 : GRL a ≠ 504 := u.1
        have u2 : GRL a ≠ 8 := u.2
        have := reg_kc q hq
        omega
  have n1 : ∀ k r : Nat, R[k]? = some r → r = 505 ∨ r = 546 → k ≠ 0 ∧ k ≠ 36 ∧ k ≠ 54 ∧ ¬ (1 ≤ k ∧ k ≤ 34) := fun k r h1 h2 => by
    have v1 : ∀ a : Fin 17, FRL a.val ≠ 505 ∧ FRL a.val ≠ 546 := by decide
    refine ⟨fun z => ?_, fun z => ?_, fun z => ?_, fun z => ?_⟩
    · rw [z, hr.1] at h1; cases h1; omega
    · rw [z, hr.2.2.2.1] at h1; cases h1; omega
    · rw [z, hr.2.2.2.2.1] at h1; cases h1; omega
    · by_cases y : k ≤ 17
      · have := rf1 (k - 1) (by omega)
        rw [show 1 + (k - 1) = k by omega, h1] at this
        have e := Option.some.inj this
        have := v1 ⟨k - 1, by omega⟩
        have t1 : FRL (k - 1) ≠ 505 := this.1
        have t2 : FRL (k - 1) ≠ 546 := this.2
        omega
      · have := rf18 (k - 18) (by omega)
        rw [show 18 + (k - 18) = k by omega, h1] at this
        have e := Option.some.inj this
        have := v1 ⟨k - 18, by omega⟩
        have t1 : FRL (k - 18) ≠ 505 := this.1
        have t2 : FRL (k - 18) ≠ 546 := this.2
        omega
  have ti : InvCQ (R ++ (List.range 17).map GRL) h1 := fun kg hk9 => by
    rcases hold kg _ hk9 with hk8 | ⟨a, ha, rfl, hga⟩
    · obtain ⟨n9, kl, e1, e2, e3, e4, e5, e6⟩ := hI kg hk8
      have a1 := n1 kg 505 hk8 (Or.inl rfl)
      have a2 := n1 kl 546 e3 (Or.inr rfl)
      have s1 := same kg 505 hk8 (by decide) a1.1 a1.2.1 a1.2.2.1 a1.2.2.2
      have s2 := same kl 546 e3 (by decide) a2.1 a2.2.1 a2.2.2.1 a2.2.2.2
      exact ⟨n9, kl, (rd_of s1 2).trans e1, (rd_of s1 8).trans e2, hm _ _ e3, e4, e5, fun j hj => by
        obtain ⟨z, z1, z2⟩ := e6 j hj
        exact ⟨z, (rd_of s2 j).trans z1, z2⟩⟩
    · have u1 : ∀ a : Fin 17, GRL a.val = 505 → a.val = 0 := by decide
      have a0 : a = 0 := u1 ⟨a, by omega⟩ hga.symm
      subst a0
      have e2 := dG.2 0 2 (Or.inl ⟨rfl, by decide⟩)
      have f2 := dR.2.2.1
      have s5 := dS.2.2.2.2.2.1
      have s6 := dS.2.2.2.2.2.2.1
      refine ⟨F2 0 2, hs.length + 3, e2, (dG.1.2.2.1 (8, 3, 32, 6) (by decide)).1, hnew 3 (by decide), by omega, rfl, fun j hj => ?_⟩
      have hj6 : j < nl2 := by omega
      refine ⟨F2 3 j, dG.2 3 j (by unfold gpl; omega), ?_⟩
      have q1 := hC2.2.2.2.2.1.2.2.2.2.2.2.2.2.1 j (by omega)
      have q2 := hN.2 j hj6
      rw [Nat.zero_add] at q1
      omega
  have o := typ_out (x := x) tt ti r2
  have em2 : ∀ k : Nat, 124 ≤ k → k ≤ 145 → (wr h1 146 0 (.long x))[k]? = hs[k]? := fun k a b => (wr146 (by omega)).trans (e147 k a (by omega))
  exact ⟨_, o.1, o.2, r2, hJ2.out s1, hM.same em2, hX.same (fun k j hk => rd_of (em2 k (by omega) (by omega)) j)⟩
end LJO
