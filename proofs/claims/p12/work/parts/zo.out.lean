/-! The law's invariant behind both calls: setOutage. -/
section LJV
variable {hs h1 h2 h3 : List CE} {R R2 : List Nat} {tx : Nat → Int} {L : Nat} {ec ep : Int} {fv w pv : Nat → Int} {nl n ng nr np : Nat} {ch : Nat → Nat → Int} {g : Nat} {F : Nat → Nat → Int32} {r : Option Value} {kd : Nat} {v : Int}
def OPO (v : Int) (hs : List CE) (tx : Nat → Int) (L : Nat) (ec ep : Int) (g : Nat) (F : Nat → Nat → Int32) (fv w : Nat → Int) (nl ng nr n np : Nat) (ch : Nat → Nat → Int) : Nat → Option Value → List CE → Prop := fun kd r h2 => (kd = 0 ∧ (v = -1 ∨ ((0 ≤ v ∧ v < (nl : Int)) ∧ CutOK fv nl v n)) ∧ (∃ x : Int32, r = some (.int x) ∧ x.toInt = w 38) ∧ COk hs h2 tx (L : Int) ec ep g fv w v nl ng nr n (if np = 10 then 10 else np + 1) (RMB np ch (F5 4 (-1) (-1) (w 38) (-1)))) ∨ (kd = 2 ∧ r = none ∧ v ≠ -1 ∧ ¬ (0 ≤ v ∧ v < (nl : Int)) ∧ hs = h2) ∨ (kd = 3 ∧ r = none ∧ (0 ≤ v ∧ v < (nl : Int)) ∧ ¬ CutOK fv nl v n ∧ CLN h2 tx (L : Int) ec ep g F fv w (w 38) nl ng nr n ∧ TRS h2 fv (w 38) nl ∧ LSC h2 np ch ∧ KPS g hs h2 ∧ h2.length = hs.length ∧ h2[36]? = hs[36]?)
theorem out_h0 (hT : HTy KCQ R hs) (hr : LRo R) (hJ : CHJ hs tx L ec ep fv w nl ng nr n np ch g) (hM : MXS hs fv w pv nl n ng nr np) (hlen : hs.length ≤ 6999999999999) : ∀ r h1, OPO v hs tx L ec ep g F fv w nl ng nr n np ch 0 r h1 → (∃ x : Int32, r = some (.int x)) ∧ shp h1 146 = some (33, 1) := fun r h1 h => by
  rcases h with ⟨-, -, ⟨x, e, -⟩, q⟩ | ⟨z, -⟩ | ⟨z, -⟩
  · exact ⟨⟨x, e⟩, cok_146 hT hr hJ hM hlen q⟩
  · exact absurd z (by decide)
  · exact absurd z (by decide)
theorem out_hx : ∀ kd r h1, kd ≠ 0 → OPO v hs tx L ec ep g F fv w nl ng nr n np ch kd r h1 → kd = 2 ∨ kd = 3 := fun kd r h1 h0 h => by
  rcases h with ⟨z, -⟩ | ⟨z, -⟩ | ⟨z, -⟩
  · exact absurd z h0
  · exact Or.inl z
  · exact Or.inr z
theorem up38 {w : Nat → Int} {v : Int} : upI w 38 v 38 = v := by unfold upI; rw [if_pos rfl]
theorem out_c1 (hT : HTy KCQ R hs) (hI : InvCQ R hs) (hr : LRo R) (hJ : CHJ hs tx L ec ep fv w nl ng nr n np ch g) (hM : MXS hs fv w pv nl n ng nr np) (hX : MTX hs tx L ec ep) (hlen : hs.length + 3 ≤ 6999999999999) (hS : SJ tx L fv w pv nl n ng nr np ch) (hpo : PW2 (OPO v hs tx L ec ep g F fv w nl ng nr n np ch) kd r h2) (hA : AL9 h2) : ∃ (x6 : Int32) (R2 : List Nat), r = some (.int x6) ∧ h2.length ≤ hs.length + 2 ∧ MXS h2 fv w pv nl n ng nr np ∧ (((v = -1 ∨ (0 ≤ v ∧ v < (nl : Int) ∧ CutOK fv nl v n)) ∧ x6 = 0 ∧ LH h2 R2 tx L ec ep fv w pv nl n ng nr np tx L ec ep fv (upI w 38 v) nl n ng nr (if np = 10 then 10 else np + 1) (RMB np ch (F5 4 (-1) (-1) (w 38) (-1))) g ∧ ∃ y : Int32, rd h2 146 0 = .long y.toInt64 ∧ y.toInt = w 38) ∨ ((v ≠ -1 ∧ ¬ (0 ≤ v ∧ v < (nl : Int))) ∧ x6 = 1 ∧ LH h2 R2 tx L ec ep fv w pv nl n ng nr np tx L ec ep fv w nl n ng nr np ch g) ∨ ((0 ≤ v ∧ v < (nl : Int) ∧ ¬ CutOK fv nl v n) ∧ x6 = 2 ∧ LH h2 R2 tx L ec ep fv w pv nl n ng nr np tx L ec ep fv w nl n ng nr np ch g)) := by
  obtain ⟨-, ⟨x, h1, rfl, q, rfl⟩ | ⟨rfl, q⟩ | ⟨rfl, q⟩⟩ := hpo
  · rcases q with ⟨-, a, ⟨y, e, ey⟩, q⟩ | ⟨z, -⟩ | ⟨z, -⟩
    · have hxy : x = y := by
        have := Option.some.inj e
        cases this
        rfl
      subst hxy
      have a2 : v = -1 ∨ (0 ≤ v ∧ v < (nl : Int) ∧ CutOK fv nl v n) := a.elim Or.inl (fun z => Or.inr ⟨z.1.1, z.1.2, z.2⟩)
      have q2 : COk hs h1 tx (L : Int) ec ep g fv (upI w 38 v) v nl ng nr n (if np = 10 then 10 else np + 1) (RMB np ch (F5 4 (-1) (-1) (w 38) (-1))) := by
        obtain ⟨⟨F2, z⟩, rest⟩ := q
        exact ⟨⟨F2, z.cong (fun j hj => upI_ne9 (by omega))⟩, rest⟩
      obtain ⟨R2, h⟩ := lj_cok (x := x.toInt64) hT hI hr hJ hM hX hlen hS.2.1 hS.2.2.1 q2 up38 (np10 hM.2.2.2.1) (hM.2.2.2.2.1.out a2) hA
      exact ⟨0, R2, rfl, by rw [wr_len]; exact q.2.2.2.2.1, h.2.2.2.2.1, Or.inl ⟨a2, rfl, h, x, rd_same (cok_146 hT hr hJ hM (by omega) q), ey⟩⟩
    · exact absurd z (by decide)
    · exact absurd z (by decide)
  · rcases q with ⟨z, -⟩ | ⟨-, -, a, b, rfl⟩ | ⟨z, -⟩
    · exact absurd z (by decide)
    · exact ⟨1, R, rfl, Nat.le_add_right _ _, hM, Or.inr (Or.inl ⟨⟨a, b⟩, rfl, hT, hI, hr, hJ, hM, hX⟩)⟩
    · exact absurd z (by decide)
  · rcases q with ⟨z, -⟩ | ⟨z, -⟩ | ⟨-, -, a, b, hC2, hT2, hL2, hk, hl, h36⟩
    · exact absurd z (by decide)
    · exact absurd z (by decide)
    · obtain ⟨F, hC⟩ := id hJ.1
      have hJ2 : CHJ h2 tx L ec ep fv w nl ng nr n np ch g := ⟨⟨_, hC2⟩, hT2, hL2⟩
      have em := em_of hr hT hC hJ.2.2 hM.1.1 (by omega)
      have e147 : ∀ k : Nat, 124 ≤ k → k ≤ 147 → h2[k]? = hs[k]? := fun k k1 k2 => by
        obtain ⟨a1, a2, a3, a4, a5, a6, a7⟩ := em k k1 k2
        exact hk k a1 a2 a3 a4 a5 a6 a7
      obtain ⟨t1, t2, t3⟩ := LJ.step hT hI hr hC (by omega) (by omega) hJ.2.2 (fun k q1 q2 q3 _ _ q4 q5 q6 q7 => hk k q1 q2 q3 q4 q5 q6 q7) hA (Or.inl h36) hJ2 hM.2.2.2.2.1 hS.2.2.1 hS.2.1
      have hM2 := hM.same (fun k a b => e147 k a (by omega))
      exact ⟨2, _, rfl, by omega, hM2, Or.inr (Or.inr ⟨⟨a.1, a.2, b⟩, rfl, t1, t2, t3, hJ2, hM2, hX.same (fun k j hk => rd_of (e147 k (by omega) (by omega)) j)⟩)⟩
theorem lj_lh (h : LH h2 R2 tx L ec ep fv w pv nl n ng nr np tx L ec ep fv w nl n ng nr np ch g) (hS : SJ tx L fv w pv nl n ng nr np ch) (f : FrS WZ0 h2 h3) (hM3 : MXS h3 fv w pv nl n ng nr np) : LJ h3 R2 tx L ec ep := by
  obtain ⟨t1, t2, t3, t4, t5, t6⟩ := h
  exact lj_z0 t1 t2 t3 hS t4 t5 t6 f hM3
theorem out_c2 {x6 : Int32} (hS : SJ tx L fv w pv nl n ng nr np ch) (hc : ((v = -1 ∨ (0 ≤ v ∧ v < (nl : Int) ∧ CutOK fv nl v n)) ∧ x6 = 0 ∧ LH h2 R2 tx L ec ep fv w pv nl n ng nr np tx L ec ep fv (upI w 38 v) nl n ng nr (if np = 10 then 10 else np + 1) (RMB np ch (F5 4 (-1) (-1) (w 38) (-1))) g ∧ ∃ y : Int32, rd h2 146 0 = .long y.toInt64 ∧ y.toInt = w 38) ∨ ((v ≠ -1 ∧ ¬ (0 ≤ v ∧ v < (nl : Int))) ∧ x6 = 1 ∧ LH h2 R2 tx L ec ep fv w pv nl n ng nr np tx L ec ep fv w nl n ng nr np ch g) ∨ ((0 ≤ v ∧ v < (nl : Int) ∧ ¬ CutOK fv nl v n) ∧ x6 = 2 ∧ LH h2 R2 tx L ec ep fv w pv nl n ng nr np tx L ec ep fv w nl n ng nr np ch g)) (hpo : ((v = -1 ∨ (0 ≤ v ∧ v < (nl : Int) ∧ CutOK fv nl v n)) ∧ SOk h2 h3 fv w (upI w 38 v) pv nl n ng nr np (w 38) r) ∨ ((v ≠ -1 ∧ ¬ (0 ≤ v ∧ v < (nl : Int))) ∧ SBad h2 h3 fv w pv nl n ng nr np 1 r) ∨ ((0 ≤ v ∧ v < (nl : Int) ∧ ¬ CutOK fv nl v n) ∧ SBad h2 h3 fv w pv nl n ng nr np 2 r)) : LJ h3 R2 tx L ec ep ∧ h3.length = h2.length ∧ rd h3 124 0 = .int x6 ∧ ∃ b7 : Int32, r = some (.int b7) ∧ (x6 = 0 → rd h3 146 0 = .long b7.toInt64) := by
  rcases hc with ⟨a, rfl, ⟨t1, t2, t3, t4, t5, t6⟩, y, ey, ey2⟩ | ⟨⟨a, b⟩, rfl, hL⟩ | ⟨⟨a, b, d⟩, rfl, hL⟩
  · rcases hpo with ⟨-, ⟨z, rfl, ez⟩, e0, f, pv2, np2, hP, hM3⟩ | ⟨⟨q1, q2⟩, -⟩ | ⟨⟨q1, q2, q3⟩, -⟩
    · obtain ⟨c1, c2⟩ := hS.2.2.2.2.2.add hP (Or.inr (Or.inr (Or.inr (Or.inr rfl)))) (chg_out (w := w) (v := v))
      subst c2
      refine ⟨LJ.fr t1 t2 t3 t5.1.1 f WST_rng t4 ⟨hS.1, hS.2.1, hS.2.2.1, hM3.2.2.2.2.1, hP.nw hS.2.2.2.1 hS.2.2.2.2.1, c1⟩ hM3 (t6.same (fun k j hk => f.2.2 k j (by unfold WST; omega))), f.1, e0, z, rfl, fun _ => ?_⟩
      rw [f.2.2 146 0 (by unfold WST; omega), ey, i_sm (show y.toInt = z.toInt by omega)]
    · rcases a with a | ⟨a1, a2, -⟩
      · exact absurd a q1
      · exact absurd ⟨a1, a2⟩ q2
    · rcases a with a | ⟨-, -, a⟩
      · omega
      · exact absurd a q3
  · rcases hpo with ⟨q | ⟨q1, q2, -⟩, -⟩ | ⟨-, rfl, e0, f, hM3⟩ | ⟨⟨q1, q2, -⟩, -⟩
    · exact absurd q a
    · exact absurd ⟨q1, q2⟩ b
    · exact ⟨lj_lh hL hS f hM3, f.1, e0, 0, rfl, fun z => absurd z (by decide)⟩
    · exact absurd ⟨q1, q2⟩ b
  · rcases hpo with ⟨q | ⟨-, -, q⟩, -⟩ | ⟨⟨q1, q2⟩, -⟩ | ⟨-, rfl, e0, f, hM3⟩
    · omega
    · exact absurd q d
    · exact absurd ⟨a, b⟩ q2
    · exact ⟨lj_lh hL hS f hM3, f.1, e0, 0, rfl, fun z => absurd z (by decide)⟩
end LJV
