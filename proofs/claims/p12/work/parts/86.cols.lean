/-! All members of a direction: whole over the common denominator, and small. -/
section COLS
variable {N ng lam : Nat} {nd : Nat → Nat} {F : Nat → Nat → Int} {tau : Nat → Nat} {sg sd : Nat → Rat} {cost : Nat → Int} {T0 G0 T G : Nat → Nat → Rat} {b0 b : Nat → Nat} {fr : Nat → Bool} {p : Nat} {v : Nat → Rat}
theorem sd_I (hS : Sys N ng nd F tau sg sd lam cost T0 G0 b0) {i : Nat} (h : i < ng ∨ i = N - 1) : IsI (sd i) := by
  have h1 := hS.2.2.2.2.2.2.2.2.2.2.2.1 i
  have h2 : tau i = 1 := by
    rcases h with z | z
    · exact hS.2.2.2.2.2.2.2.2.2.2.2.2.1 i z
    · rw [z]; exact hS.2.2.2.2.2.2.2.2.2.2.2.2.2.1
  rw [h2] at h1
  rw [show sd i = ((1 : Nat) : Rat) * sd i by rw [show ((1 : Nat) : Rat) = 1 from rfl]; grind]
  exact h1
/-- all outputs -/
theorem sy_g (hS : Sys N ng nd F tau sg sd lam cost T0 G0 b0) (hR : RI N T0 G0 b0 T G b) (hfr : ∀ g, fr g = true ↔ Mem N b g ∧ Mem N b (5 + g)) (hD : Dir N ng nd F tau sg sd b0 b p v) (hp : p < 35) {a1 a2 a3 : I3} (h1 : PP N ng nd F b0 b fr a1) (h2 : PP N ng nd F b0 b fr a2) (h3 : PP N ng nd F b0 b fr a3) (hd : d3 a1 a2 a3 ≠ 0) : (∀ g, g < ng → IsI ((d3 a1 a2 a3 : Rat) * v g) ∧ (p < 34 → Ab 7489 (v g))) ∧ (p < 34 → ∀ f : Nat → Rat, (∀ n, Ab 1 (f n)) → f 0 = 0 → Ab 7489 (smq (fun g => f (nd g) * v g) ng)) ∧ (p < 34 → Ab 7489 (v (100 + (N - 1)))) := by
  have hy := sy_y hS hfr hD hp h1 h2 h3 hd
  obtain ⟨d1, d2, d3', d4, d5, d6⟩ := id hD
  have kn := hS.2.1
  obtain ⟨k1, k2, k3, k4⟩ := hS.1
  have o34 := out_I (d1 34 d3')
  have z34 : p < 34 → v 34 = 0 := fun h => by rw [d1 34 d3', if_neg (by omega)]
  have e := sm_dec fr nd v (fun _ => 1) ng kn
  have hsm : smq (fun g => v g) ng = smq (fun g => (1 : Rat) * v g) ng := smq_cong (fun g _ => by grind)
  have nI := nfs_I hS hfr hD (f := fun _ => 1) (fun _ => IsI.one)
  have nA := fun hp4 => (nfs_ab hS hfr hD hp4 (f := fun _ => 1) (A := 1) (by decide) (fun n => by unfold Ab; grind)).1
  have hDI := IsI.int (d3 a1 a2 a3)
  have huq : ∀ g, g < ng → fr g = true → ∀ i, i < ng → fr i = true → nd i = nd g → i = g := fun g hg f1 i hi f2 e => sy_two hS hR hi hg ((hfr i).mp f2) ((hfr g).mp f1) e
  have hg0 : ∀ g, g < ng → fr g = true → nd g = 0 → IsI ((d3 a1 a2 a3 : Rat) * v g) ∧ (p < 34 → Ab 7489 (v g)) := by
    intro g hg f1 hn
    have hM := sy_zero hS hR hg ((hfr g).mp f1) hn
    have hm0 : v (100 + (N - 1)) = 0 := by rw [d1 _ hM, if_neg (by omega)]
    have hya := yv_at (v := v) (huq g hg f1) hg f1
    rw [hn] at hya
    have ev : v g = -(yv fr nd v ng 1) + -(yv fr nd v ng 2) + -(yv fr nd v ng 3) + -(nfs fr nd v (fun _ => 1) ng) + -(sd (N - 1) * v 34) := by
      rw [hsm, e, hm0, hya] at d6
      grind
    constructor
    · have e2 : (d3 a1 a2 a3 : Rat) * v g = -((d3 a1 a2 a3 : Rat) * yv fr nd v ng 1) + -((d3 a1 a2 a3 : Rat) * yv fr nd v ng 2) + -((d3 a1 a2 a3 : Rat) * yv fr nd v ng 3) + -((d3 a1 a2 a3 : Rat) * nfs fr nd v (fun _ => 1) ng) + -((d3 a1 a2 a3 : Rat) * (sd (N - 1) * v 34)) := by rw [ev]; grind
      rw [e2]
      exact (((((hy 1 (by decide) (by decide)).1.neg).add (hy 2 (by decide) (by decide)).1.neg).add (hy 3 (by decide) (by decide)).1.neg).add (hDI.mul nI).neg).add (hDI.mul ((sd_I hS (Or.inr rfl)).mul o34.1)).neg
    · intro hp4
      have c1 := (hy 1 (by decide) (by decide)).2 hp4
      have c2 := (hy 2 (by decide) (by decide)).2 hp4
      have c3 := (hy 3 (by decide) (by decide)).2 hp4
      have c4 := nA hp4
      rw [ev, z34 hp4]
      unfold Ab at *; grind
  refine ⟨fun g hg => ?_, fun hp4 f hf f0 => ?_, fun hp4 => ?_⟩
  · by_cases c : fr g = true
    · by_cases c0 : nd g = 0
      · exact hg0 g hg c c0
      · have hya := yv_at (v := v) (huq g hg c) hg c
        have hyy := hy (nd g) (by omega) (kn g hg)
        rw [hya] at hyy
        exact ⟨hyy.1, fun hp4 => (hyy.2 hp4).le (by decide)⟩
    · have := nf_at hS hfr hD hg c
      exact ⟨hDI.mul this.1, fun hp4 => ((this.2 hp4).1).le (by decide)⟩
  · have c1 := (hy 1 (by decide) (by decide)).2 hp4
    have c2 := (hy 2 (by decide) (by decide)).2 hp4
    have c3 := (hy 3 (by decide) (by decide)).2 hp4
    have c4 := (nfs_ab hS hfr hD hp4 (f := f) (A := 1) (by decide) hf).1
    rw [sm_dec fr nd v f ng kn, f0]
    have m1 := (hf 1).mul c1
    have m2 := (hf 2).mul c2
    have m3 := (hf 3).mul c3
    unfold Ab at *; grind
  · by_cases hM : Mem N b (100 + (N - 1))
    · have hn : ∀ g, g < ng → fr g = true → nd g ≠ 0 := fun g hg f1 hn => sy_zero hS hR hg ((hfr g).mp f1) hn hM
      rw [yv_no hn] at e
      have c1 := (hy 1 (by decide) (by decide)).2 hp4
      have c2 := (hy 2 (by decide) (by decide)).2 hp4
      have c3 := (hy 3 (by decide) (by decide)).2 hp4
      have c4 := nA hp4
      rw [hsm, e, z34 hp4] at d6
      unfold Ab at *; grind
    · rw [d1 _ hM, if_neg (by omega)]; unfold Ab; grind
/-- all members -/
theorem sy_m (hS : Sys N ng nd F tau sg sd lam cost T0 G0 b0) (hR : RI N T0 G0 b0 T G b) (hfr : ∀ g, fr g = true ↔ Mem N b g ∧ Mem N b (5 + g)) (hD : Dir N ng nd F tau sg sd b0 b p v) (hp : p < 35) {a1 a2 a3 : I3} (h1 : PP N ng nd F b0 b fr a1) (h2 : PP N ng nd F b0 b fr a2) (h3 : PP N ng nd F b0 b fr a3) (hd : d3 a1 a2 a3 ≠ 0) : ∀ q, Mem N b q → IsI (((lam : Rat) * (d3 a1 a2 a3 : Rat)) * v q) ∧ (p < 34 → Ab 7490 (v q)) := by
  obtain ⟨g1, g2, g3⟩ := sy_g hS hR hfr hD hp h1 h2 h3 hd
  obtain ⟨d1, d2, d3', d4, d5, d6⟩ := id hD
  obtain ⟨k1, k2, k3, k4⟩ := hS.1
  have kg := hS.2.2.2.2.2.1
  have o34 := out_I (d1 34 d3')
  have z34 : p < 34 → v 34 = 0 := fun h => by rw [d1 34 d3', if_neg (by omega)]
  have hDI := IsI.int (d3 a1 a2 a3)
  have hLI : IsI (lam : Rat) := IsI.int (lam : Int)
  have hflow : ∀ i, ng ≤ i → i + 1 < N → IsI (((lam : Rat) * (d3 a1 a2 a3 : Rat)) * (smq (fun g => (F i (nd g) : Rat) * v g) ng / (tau i : Rat) + sd i * v 34)) ∧ (p < 34 → Ab 7489 (smq (fun g => (F i (nd g) : Rat) * v g) ng / (tau i : Rat) + sd i * v 34)) := by
    intro i h1 h2
    have ht := nat_q (hS.2.2.2.1 i).1
    constructor
    · obtain ⟨k, hk⟩ := (hS.2.2.2.1 i).2.2
      have hS1 : IsI ((d3 a1 a2 a3 : Rat) * smq (fun g => (F i (nd g) : Rat) * v g) ng) := by
        rw [← smq_mul]
        exact IsI.sm (fun g hg => by
          rw [show (d3 a1 a2 a3 : Rat) * ((F i (nd g) : Rat) * v g) = (F i (nd g) : Rat) * ((d3 a1 a2 a3 : Rat) * v g) by grind]
          exact (IsI.int _).mul (g1 g hg).1)
      have hc : smq (fun g => (F i (nd g) : Rat) * v g) ng / (tau i : Rat) * (tau i : Rat) = smq (fun g => (F i (nd g) : Rat) * v g) ng := Rat.div_mul_cancel (by grind)
      have e : ((lam : Rat) * (d3 a1 a2 a3 : Rat)) * (smq (fun g => (F i (nd g) : Rat) * v g) ng / (tau i : Rat) + sd i * v 34) = (k : Rat) * ((d3 a1 a2 a3 : Rat) * smq (fun g => (F i (nd g) : Rat) * v g) ng) + (d3 a1 a2 a3 : Rat) * (k : Rat) * ((tau i : Rat) * sd i) * v 34 := by
        rw [hk, Rat.natCast_mul]
        generalize smq (fun g => (F i (nd g) : Rat) * v g) ng / (tau i : Rat) = q at *
        rw [← hc]; grind
      rw [e]
      exact ((IsI.int (k : Int)).mul hS1).add (((hDI.mul (IsI.int (k : Int))).mul (hS.2.2.2.2.2.2.2.2.2.2.2.1 i)).mul o34.1)
    · intro hp4
      have e : smq (fun g => (F i (nd g) : Rat) * v g) ng / (tau i : Rat) + sd i * v 34 = smq (fun g => (fun n => (F i n : Rat) / (tau i : Rat)) (nd g) * v g) ng := by
        have e1 : smq (fun g => (fun n => (F i n : Rat) / (tau i : Rat)) (nd g) * v g) ng = (tau i : Rat)⁻¹ * smq (fun g => (F i (nd g) : Rat) * v g) ng := by
          rw [← smq_mul]
          exact smq_cong (fun g _ => by show (F i (nd g) : Rat) / (tau i : Rat) * v g = (tau i : Rat)⁻¹ * ((F i (nd g) : Rat) * v g); rw [Rat.div_def]; grind)
        rw [e1, z34 hp4, Rat.div_def, Rat.mul_zero, Rat.add_zero, Rat.mul_comm]
      rw [e]
      exact g2 hp4 _ (fun n => ph_ab hS i n) (by rw [hS.2.2.1 i, Rat.intCast_zero, Rat.div_def]; grind)
  rintro q ⟨x, hx, rfl⟩
  rcases hR.1.1 x hx with hc | hc
  · rcases sy_used hS hR ⟨x, hx, rfl⟩ hc with hu | ⟨hu1, hu2⟩
    · have := g1 _ hu
      refine ⟨?_, fun hp4 => (this.2 hp4).le (by decide)⟩
      rw [show (lam : Rat) * (d3 a1 a2 a3 : Rat) * v (b x) = (lam : Rat) * ((d3 a1 a2 a3 : Rat) * v (b x)) by grind]
      exact hLI.mul this.1
    · obtain ⟨i, hi⟩ : ∃ i, b x = 5 + i := ⟨b x - 5, by omega⟩
      rw [hi]
      by_cases c : i < ng
      · have e : v (5 + i) = -(v i) + -(sd i * v 34) := by have := d4 i c; grind
        have g := g1 i c
        constructor
        · rw [e, show (lam : Rat) * (d3 a1 a2 a3 : Rat) * (-(v i) + -(sd i * v 34)) = -((lam : Rat) * ((d3 a1 a2 a3 : Rat) * v i)) + -((lam : Rat) * (d3 a1 a2 a3 : Rat) * (sd i * v 34)) by grind]
          exact (hLI.mul g.1).neg.add ((hLI.mul hDI).mul ((sd_I hS (Or.inl c)).mul o34.1)).neg
        · intro hp4
          have := g.2 hp4
          rw [e, z34 hp4]
          unfold Ab at *; grind
      · obtain ⟨f1, f2⟩ := hflow i (by omega) (by omega)
        have e2 := d5 i (by omega) (by omega)
        rcases kg i (by omega) (by omega) with z | z
        · rw [z.2, if_neg (by omega), z.1] at e2
          have e : v (5 + i) = -(smq (fun g => (F i (nd g) : Rat) * v g) ng / (tau i : Rat) + sd i * v 34) := by grind
          rw [e, Rat.mul_neg]
          exact ⟨f1.neg, fun hp4 => (f2 hp4).neg.le (by decide)⟩
        · have hno := sy_both hS hR (i := i) (by omega) (by omega) z.1
          have hn2 : ¬ Mem N b (100 + i) := fun m => hno ⟨⟨x, hx, hi⟩, m⟩
          rw [z.2, if_pos (by omega), z.1, d1 _ hn2, if_neg (by omega)] at e2
          have e : v (5 + i) = smq (fun g => (F i (nd g) : Rat) * v g) ng / (tau i : Rat) + sd i * v 34 := by grind
          rw [e]
          exact ⟨f1, fun hp4 => (f2 hp4).le (by decide)⟩
  · have hbx := hR.2.1 x hx hc.1
    by_cases cN : x = N - 1
    · have e0 : b x = 100 + (N - 1) := by rw [hbx, cN]; exact hS.2.2.2.2.2.2.2.1
      rw [e0]
      refine ⟨?_, fun hp4 => (g3 hp4).le (by decide)⟩
      have e : v (100 + (N - 1)) = -(smq (fun g => v g) ng) + -(sd (N - 1) * v 34) := by grind
      have hS1 : IsI ((d3 a1 a2 a3 : Rat) * smq (fun g => v g) ng) := by
        rw [← smq_mul]
        exact IsI.sm (fun g hg => (g1 g hg).1)
      rw [e, show (lam : Rat) * (d3 a1 a2 a3 : Rat) * (-(smq (fun g => v g) ng) + -(sd (N - 1) * v 34)) = -((lam : Rat) * ((d3 a1 a2 a3 : Rat) * smq (fun g => v g) ng)) + -((lam : Rat) * (d3 a1 a2 a3 : Rat) * (sd (N - 1) * v 34)) by grind]
      exact (hLI.mul hS1).neg.add ((hLI.mul hDI).mul ((sd_I hS (Or.inr rfl)).mul o34.1)).neg
    · by_cases c : x < ng
      · have := hS.2.2.2.2.2.2.1 x c
        omega
      · rcases kg x (by omega) (by omega) with z | z
        · omega
        · have e2 := d5 x (by omega) (by omega)
          have hno := sy_both hS hR (i := x) (by omega) (by omega) z.1
          have hn2 : ¬ Mem N b (5 + x) := fun m => hno ⟨m, x, hx, by rw [hbx, z.2]⟩
          have o5 := out_I (d1 _ hn2)
          obtain ⟨f1, f2⟩ := hflow x (by omega) (by omega)
          rw [z.2, if_pos (by omega), z.1] at e2
          rw [hbx, z.2]
          have e : v (100 + x) = v (5 + x) + -(smq (fun g => (F x (nd g) : Rat) * v g) ng / (tau x : Rat) + sd x * v 34) := by grind
          rw [e, Rat.mul_add, Rat.mul_neg]
          refine ⟨((hLI.mul hDI).mul o5.1).add f1.neg, fun hp4 => ?_⟩
          exact (o5.2.1.add (f2 hp4).neg).le (by grind)
end COLS
