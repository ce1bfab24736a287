/-! A column's direction: whole numbers over the determinant, and small. -/
section COL
variable {N ng lam : Nat} {nd : Nat → Nat} {F : Nat → Nat → Int} {tau : Nat → Nat} {sg sd : Nat → Rat} {cost : Nat → Int} {T0 G0 T G : Nat → Nat → Rat} {b0 b : Nat → Nat} {fr : Nat → Bool} {p : Nat}
theorem nat_q {n : Nat} (h : 0 < n) : (0 : Rat) < (n : Rat) := by
  show ((0 : Int) : Rat) < ((n : Int) : Rat)
  exact Rat.intCast_lt_intCast.mpr (by omega)
theorem sg_I (hS : Sys N ng nd F tau sg sd lam cost T0 G0 b0) {i : Nat} (h1 : ng ≤ i) (h2 : i + 1 < N) : IsI (sg i) := by
  rcases hS.2.2.2.2.2.1 i h1 h2 with z | z
  · rw [z.1]; exact IsI.one
  · rw [z.1]; exact ⟨-1, rfl⟩
theorem ph_ab (hS : Sys N ng nd F tau sg sd lam cost T0 G0 b0) (i n : Nat) : Ab 1 ((F i n : Rat) / (tau i : Rat)) := by
  have h1 := (hS.2.2.2.1 i).1
  have h2 := Ab.int (hS.2.2.2.2.1 i n)
  have h3 := nat_q h1
  have h4 : (F i n : Rat) / (tau i : Rat) * (tau i : Rat) = (F i n : Rat) := Rat.div_mul_cancel (by grind)
  rw [← h4] at h2
  generalize (F i n : Rat) / (tau i : Rat) = q at *
  constructor
  · refine Classical.byContradiction (fun hn => ?_)
    have := Rat.mul_pos (show 0 < -1 - q by grind) h3
    unfold Ab at h2; grind
  · refine Classical.byContradiction (fun hn => ?_)
    have := Rat.mul_pos (show 0 < q - 1 by grind) h3
    unfold Ab at h2; grind
theorem out_I {v : Nat → Rat} {q : Nat} (h : v q = if p = q then 1 else 0) : IsI (v q) ∧ Ab 1 (v q) ∧ (v q ≠ 0 → p = q) := by
  rw [h]
  by_cases c : p = q
  · rw [if_pos c]; exact ⟨IsI.one, by unfold Ab; grind, fun _ => c⟩
  · rw [if_neg c]; exact ⟨IsI.zero, by unfold Ab; grind, fun z => absurd rfl z⟩
/-- what a direction is made of -/
def Dir (N ng : Nat) (nd : Nat → Nat) (F : Nat → Nat → Int) (tau : Nat → Nat) (sg sd : Nat → Rat) (b0 b : Nat → Nat) (p : Nat) (v : Nat → Rat) : Prop :=
  (∀ q, ¬ Mem N b q → v q = if p = q then 1 else 0) ∧ ¬ Mem N b p ∧ ¬ Mem N b 34 ∧
  (∀ i, i < ng → v i + v (5 + i) + sd i * v 34 = 0) ∧
  (∀ i, ng ≤ i → i + 1 < N → smq (fun g => (F i (nd g) : Rat) * v g) ng / (tau i : Rat) + sg i * v (5 + i) + sd i * v 34 + (if 100 ≤ b0 i then v (b0 i) else 0) = 0) ∧
  (smq (fun g => v g) ng + sd (N - 1) * v 34 + v (100 + (N - 1)) = 0)
theorem dir_of (hS : Sys N ng nd F tau sg sd lam cost T0 G0 b0) (hR : RI N T0 G0 b0 T G b) (hp : p < 35) (hnb : ¬ Mem N b p) : Dir N ng nd F tau sg sd b0 b p (dirV N T b p) := by
  have hnb' : ∀ x, x < N → b x ≠ p := fun x hx e => hnb ⟨x, hx, e⟩
  obtain ⟨d1, d2, d3⟩ := hR.dir hp hnb'
  obtain ⟨⟨k1, k2, k3, k4⟩, kn, kF0, kt, kF, kg, kb, kb1, kc, kf, kl, -⟩ := hS
  refine ⟨fun q hq => dirV_out (fun x hx e => hq ⟨x, hx, e⟩), hnb, fun ⟨x, hx, e⟩ => by have := hR.1.1 x hx; omega, fun i hi => ?_, fun i h1 h2 => ?_, ?_⟩
  · rw [← kc _ i hi]; exact d1 i (by omega)
  · rw [← kf _ i h1 h2]; exact d1 i (by omega)
  · rw [← kl]; exact d1 (N - 1) (by omega)
variable {v : Nat → Rat}
theorem nf_at (hS : Sys N ng nd F tau sg sd lam cost T0 G0 b0) (hfr : ∀ g, fr g = true ↔ Mem N b g ∧ Mem N b (5 + g)) (hD : Dir N ng nd F tau sg sd b0 b p v) {g : Nat} (hg : g < ng) (hn : ¬ fr g = true) : IsI (v g) ∧ (p < 34 → Ab 1 (v g) ∧ (v g ≠ 0 → p = g ∨ p = 5 + g)) := by
  obtain ⟨d1, d2, d3, d4, d5, d6⟩ := hD
  have o34 := out_I (d1 34 d3)
  by_cases c : Mem N b g
  · have c2 : ¬ Mem N b (5 + g) := fun z => hn ((hfr g).mpr ⟨c, z⟩)
    have o := out_I (d1 _ c2)
    have e : v g = -(v (5 + g)) + -(sd g * v 34) := by have := d4 g hg; grind
    have hsd : IsI (sd g) := by
      have h := hS.2.2.2.2.2.2.2.2.2.2.2.1 g
      rw [hS.2.2.2.2.2.2.2.2.2.2.2.2.1 g hg] at h
      rw [show sd g = ((1 : Nat) : Rat) * sd g by rw [show ((1 : Nat) : Rat) = 1 from rfl]; grind]
      exact h
    refine ⟨by rw [e]; exact o.1.neg.add (hsd.mul o34.1).neg, fun hp => ?_⟩
    have z34 : v 34 = 0 := by rw [d1 34 d3, if_neg (by omega)]
    rw [z34] at e
    have e : v g = -(v (5 + g)) := by grind
    refine ⟨by rw [e]; exact o.2.1.neg, fun hne => Or.inr (o.2.2 (fun z => hne (by rw [e, z]; grind)))⟩
  · have o := out_I (d1 _ c)
    exact ⟨o.1, fun _ => ⟨o.2.1, fun z => Or.inl (o.2.2 z)⟩⟩
theorem nfs_I (hS : Sys N ng nd F tau sg sd lam cost T0 G0 b0) (hfr : ∀ g, fr g = true ↔ Mem N b g ∧ Mem N b (5 + g)) (hD : Dir N ng nd F tau sg sd b0 b p v) {f : Nat → Rat} (hf : ∀ n, IsI (f n)) : IsI (nfs fr nd v f ng) :=
  IsI.sm (fun g hg => by
    by_cases c : fr g = true
    · rw [if_pos c]; exact IsI.zero
    · rw [if_neg c]; exact (hf _).mul (nf_at hS hfr hD hg c).1)
theorem nfs_ab (hS : Sys N ng nd F tau sg sd lam cost T0 G0 b0) (hfr : ∀ g, fr g = true ↔ Mem N b g ∧ Mem N b (5 + g)) (hD : Dir N ng nd F tau sg sd b0 b p v) (hp : p < 34) {f : Nat → Rat} {A : Rat} (h0 : 0 ≤ A) (hf : ∀ n, Ab A (f n)) : Ab A (nfs fr nd v f ng) ∧ ((∀ g, g < ng → p ≠ g ∧ p ≠ 5 + g) → nfs fr nd v f ng = 0) := by
  have k1 := hS.1.1
  obtain ⟨j, hjd⟩ : ∃ j, j = if p < 5 then p else p - 5 := ⟨_, rfl⟩
  have hj : ∀ i, i < ng → i ≠ j → (if fr i = true then (0 : Rat) else f (nd i) * v i) = 0 := fun i hi hne => by
    by_cases c : fr i = true
    · rw [if_pos c]
    · rw [if_neg c]
      have := ((nf_at hS hfr hD hi c).2 hp).2
      by_cases z : v i = 0
      · rw [z]; grind
      · have := this z
        split at hjd <;> omega
  refine ⟨?_, fun hno => smq_zero (fun g hg => ?_)⟩
  · unfold nfs
    rw [sm_one hj]
    split
    · rename_i hlt
      by_cases c : fr j = true
      · rw [if_pos c]; unfold Ab; grind
      · rw [if_neg c]
        have := (hf (nd j)).mul ((nf_at hS hfr hD hlt c).2 hp).1
        rwa [Rat.mul_one] at this
    · unfold Ab; grind
  · by_cases c : fr g = true
    · rw [if_pos c]
    · rw [if_neg c]
      have := ((nf_at hS hfr hD hg c).2 hp).2
      by_cases z : v g = 0
      · rw [z]; grind
      · have := this z
        have := hno g hg
        omega
/-- a tight row's value is whole, and small -/
theorem dot_I (hS : Sys N ng nd F tau sg sd lam cost T0 G0 b0) (hfr : ∀ g, fr g = true ↔ Mem N b g ∧ Mem N b (5 + g)) (hD : Dir N ng nd F tau sg sd b0 b p v) (hp : p < 35) {a : I3} (ha : PP N ng nd F b0 b fr a) : IsI (dot3 a (yv fr nd v ng 1, yv fr nd v ng 2, yv fr nd v ng 3)) ∧ (p < 34 → Ab 16 (dot3 a (yv fr nd v ng 1, yv fr nd v ng 2, yv fr nd v ng 3))) := by
  obtain ⟨d1, d2, d3, d4, d5, d6⟩ := id hD
  have kn := hS.2.1
  have o34 := out_I (d1 34 d3)
  obtain ⟨k1, k2, k3, k4⟩ := hS.1
  rcases ha with ⟨i, h1, h2, ht, rfl⟩ | ⟨rfl, hn⟩ | ⟨rfl, hn⟩ | ⟨rfl, hn⟩ | ⟨rfl, hn, hM⟩
  · have e := sm_dec fr nd v (fun n => (F i n : Rat)) ng kn
    rw [hS.2.2.1 i, Rat.intCast_zero] at e
    have ht3 := nat_q (hS.2.2.2.1 i).1
    have hmis : (if 100 ≤ b0 i then v (b0 i) else 0) = 0 := by
      split
      · rename_i z
        rcases hS.2.2.2.2.2.1 i h1 h2 with y | y
        · omega
        · rw [y.2, d1 _ (fun m => ht.2 ⟨y.2, m⟩), if_neg (by omega)]
      · rfl
    have e2 := d5 i h1 h2
    rw [hmis] at e2
    have e3 : smq (fun g => (F i (nd g) : Rat) * v g) ng = -((tau i : Rat) * (sg i * v (5 + i))) + -((tau i : Rat) * sd i * v 34) := by
      have : smq (fun g => (F i (nd g) : Rat) * v g) ng / (tau i : Rat) * (tau i : Rat) = smq (fun g => (F i (nd g) : Rat) * v g) ng := Rat.div_mul_cancel (by grind)
      have e4 : smq (fun g => (F i (nd g) : Rat) * v g) ng / (tau i : Rat) = -(sg i * v (5 + i)) + -(sd i * v 34) := by grind
      rw [← this, e4]; grind
    have ed : dot3 (frow F i) (yv fr nd v ng 1, yv fr nd v ng 2, yv fr nd v ng 3) = -((tau i : Rat) * (sg i * v (5 + i))) + -((tau i : Rat) * sd i * v 34) + -(nfs fr nd v (fun n => (F i n : Rat)) ng) := by
      show (F i 1 : Rat) * yv fr nd v ng 1 + (F i 2 : Rat) * yv fr nd v ng 2 + (F i 3 : Rat) * yv fr nd v ng 3 = _
      rw [← e3, e]; grind
    have o5 := out_I (d1 _ ht.1)
    refine ⟨?_, fun hp4 => ?_⟩
    · rw [ed]
      exact ((((IsI.int (tau i : Int)).mul ((sg_I hS h1 h2).mul o5.1)).neg).add ((hS.2.2.2.2.2.2.2.2.2.2.2.1 i).mul o34.1).neg).add (nfs_I hS hfr hD (fun n => IsI.int _)).neg
    · have z34 : v 34 = 0 := by rw [d1 34 d3, if_neg (by omega)]
      have n1 := nfs_ab hS hfr hD hp4 (f := fun n => (F i n : Rat)) (A := 16) (by decide) (fun n => (Ab.int (Nat.le_trans (hS.2.2.2.2.1 i n) (hS.2.2.2.1 i).2.1)).le (by decide))
      by_cases c : p = 5 + i
      · rw [ed, n1.2 (fun g hg => by omega), z34]
        have b1 : Ab 16 (tau i : Rat) := by
          have := Ab.int (n := (tau i : Int)) (k := 16) (by have := (hS.2.2.2.1 i).2.1; omega)
          exact this.le (by decide)
        have b2 : Ab 1 (sg i * v (5 + i)) := by
          rw [d1 _ ht.1, if_pos c]
          rcases hS.2.2.2.2.2.1 i h1 h2 with z | z
          · rw [z.1]; unfold Ab; grind
          · rw [z.1]; unfold Ab; grind
        have b3 := b1.mul b2
        unfold Ab at *; grind
      · rw [ed, z34, d1 _ ht.1, if_neg c]
        have := n1.1
        unfold Ab at *; grind
  · rw [dot_e1]
    show IsI (yv fr nd v ng 1) ∧ (_ → Ab 16 (yv fr nd v ng 1))
    rw [yv_no hn]; exact ⟨IsI.zero, fun _ => by unfold Ab; grind⟩
  · rw [dot_e2]
    show IsI (yv fr nd v ng 2) ∧ (_ → Ab 16 (yv fr nd v ng 2))
    rw [yv_no hn]; exact ⟨IsI.zero, fun _ => by unfold Ab; grind⟩
  · rw [dot_e3]
    show IsI (yv fr nd v ng 3) ∧ (_ → Ab 16 (yv fr nd v ng 3))
    rw [yv_no hn]; exact ⟨IsI.zero, fun _ => by unfold Ab; grind⟩
  · have e := sm_dec fr nd v (fun _ => 1) ng kn
    rw [yv_no hn] at e
    rw [dot_e4]
    have hsm : smq (fun g => v g) ng = smq (fun g => (1 : Rat) * v g) ng := smq_cong (fun g _ => by grind)
    have hm0 : v (100 + (N - 1)) = 0 := by rw [d1 _ hM, if_neg (by omega)]
    have ed : yv fr nd v ng 1 + yv fr nd v ng 2 + yv fr nd v ng 3 = -(sd (N - 1) * v 34) + -(nfs fr nd v (fun _ => 1) ng) := by
      rw [hsm, e, hm0] at d6
      grind
    show IsI (yv fr nd v ng 1 + yv fr nd v ng 2 + yv fr nd v ng 3) ∧ (_ → Ab 16 (yv fr nd v ng 1 + yv fr nd v ng 2 + yv fr nd v ng 3))
    rw [ed]
    have hsd : IsI (sd (N - 1)) := by
      have h := hS.2.2.2.2.2.2.2.2.2.2.2.1 (N - 1)
      rw [hS.2.2.2.2.2.2.2.2.2.2.2.2.2.1] at h
      rw [show sd (N - 1) = ((1 : Nat) : Rat) * sd (N - 1) by rw [show ((1 : Nat) : Rat) = 1 from rfl]; grind]
      exact h
    refine ⟨(hsd.mul o34.1).neg.add (nfs_I hS hfr hD (fun _ => IsI.one)).neg, fun hp4 => ?_⟩
    have z34 : v 34 = 0 := by rw [d1 34 d3, if_neg (by omega)]
    have n1 := (nfs_ab hS hfr hD hp4 (f := fun _ => 1) (A := 1) (by decide) (fun n => by unfold Ab; grind)).1
    rw [z34]
    unfold Ab at *; grind
theorem sum3 {B x y z : Rat} (h1 : Ab B x) (h2 : Ab B y) (h3 : Ab B z) : Ab (B + B + B) (x + y + z) := (h1.add h2).add h3
/-- Cramer: the determinant makes the nodes' numbers whole -/
theorem sy_y (hS : Sys N ng nd F tau sg sd lam cost T0 G0 b0) (hfr : ∀ g, fr g = true ↔ Mem N b g ∧ Mem N b (5 + g)) (hD : Dir N ng nd F tau sg sd b0 b p v) (hp : p < 35) {a1 a2 a3 : I3} (h1 : PP N ng nd F b0 b fr a1) (h2 : PP N ng nd F b0 b fr a2) (h3 : PP N ng nd F b0 b fr a3) (hd : d3 a1 a2 a3 ≠ 0) : ∀ n, 1 ≤ n → n < 4 → IsI ((d3 a1 a2 a3 : Rat) * yv fr nd v ng n) ∧ (p < 34 → Ab 2496 (yv fr nd v ng n)) := by
  obtain ⟨i1, b1⟩ := dot_I hS hfr hD hp h1
  obtain ⟨i2, b2⟩ := dot_I hS hfr hD hp h2
  obtain ⟨i3, b3⟩ := dot_I hS hfr hD hp h3
  have hm := hS.2.2.2.2.2.2.2.2.2.2.2.2.2.2.2.2.2.2.2.2.2
  have m12 := hm.2 a1 a2 h1.pl h2.pl
  have m13 := hm.2 a1 a3 h1.pl h3.pl
  have m23 := hm.2 a2 a3 h2.pl h3.pl
  have c1 := cram1 a1 a2 a3 (yv fr nd v ng 1, yv fr nd v ng 2, yv fr nd v ng 3)
  have c2 := cram2 a1 a2 a3 (yv fr nd v ng 1, yv fr nd v ng 2, yv fr nd v ng 3)
  have c3 := cram3 a1 a2 a3 (yv fr nd v ng 1, yv fr nd v ng 2, yv fr nd v ng 3)
  have key : ∀ {y : Rat} {x1 x2 x3 : Int}, (d3 a1 a2 a3 : Rat) * y = dot3 a1 (yv fr nd v ng 1, yv fr nd v ng 2, yv fr nd v ng 3) * (x1 : Rat) + dot3 a2 (yv fr nd v ng 1, yv fr nd v ng 2, yv fr nd v ng 3) * (x2 : Rat) + dot3 a3 (yv fr nd v ng 1, yv fr nd v ng 2, yv fr nd v ng 3) * (x3 : Rat) → x1.natAbs ≤ 52 → x2.natAbs ≤ 52 → x3.natAbs ≤ 52 → IsI ((d3 a1 a2 a3 : Rat) * y) ∧ (p < 34 → Ab 2496 y) := by
    intro y x1 x2 x3 e e1 e2 e3
    refine ⟨by rw [e]; exact ((i1.mul (IsI.int x1)).add (i2.mul (IsI.int x2))).add (i3.mul (IsI.int x3)), fun hp4 => Ab.dv hd ?_⟩
    rw [e]
    have := sum3 ((b1 hp4).mul (Ab.int e1)) ((b2 hp4).mul (Ab.int e2)) ((b3 hp4).mul (Ab.int e3))
    exact this.le (by rw [show ((52 : Nat) : Rat) = 52 from rfl]; grind)
  intro n hn1 hn2
  rcases (show n = 1 ∨ n = 2 ∨ n = 3 by omega) with rfl | rfl | rfl
  · refine key (x1 := m2 a2.2.1 a2.2.2 a3.2.1 a3.2.2) (x2 := -m2 a1.2.1 a1.2.2 a3.2.1 a3.2.2) (x3 := m2 a1.2.1 a1.2.2 a2.2.1 a2.2.2) ?_ m23.1 (by have := m13.1; omega) m12.1
    rw [Rat.intCast_neg]; grind
  · refine key (x1 := -m2 a2.1 a2.2.2 a3.1 a3.2.2) (x2 := m2 a1.1 a1.2.2 a3.1 a3.2.2) (x3 := -m2 a1.1 a1.2.2 a2.1 a2.2.2) ?_ (by have := m23.2.1; omega) m13.2.1 (by have := m12.2.1; omega)
    rw [Rat.intCast_neg, Rat.intCast_neg]; grind
  · refine key (x1 := m2 a2.1 a2.2.1 a3.1 a3.2.1) (x2 := -m2 a1.1 a1.2.1 a3.1 a3.2.1) (x3 := m2 a1.1 a1.2.1 a2.1 a2.2.1) ?_ m23.2.2 (by have := m13.2.2; omega) m12.2.2
    rw [Rat.intCast_neg]; grind
end COL
