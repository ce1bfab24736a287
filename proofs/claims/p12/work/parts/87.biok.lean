/-! All tableaus of the reference are small, and no helping column is without a positive number. -/
section BIOK
variable {N ng lam : Nat} {nd : Nat → Nat} {F : Nat → Nat → Int} {tau : Nat → Nat} {sg sd : Nat → Rat} {cost : Nat → Int} {T0 G0 T G : Nat → Nat → Rat} {b0 b : Nat → Nat} {p : Nat} {v : Nat → Rat}
theorem sy_side (hS : Sys N ng nd F tau sg sd lam cost T0 G0 b0) (hR : RI N T0 G0 b0 T G b) : (∀ q, Mem N b q → Ab 102000 (dirV N T b 34 q) ∧ (100 ≤ q → Ab 2000 (dirV N T b 34 q))) ∧ ∀ g, g < ng → Ab 200 (dirV N T b 34 g) := by
  have hn34 : ¬ Mem N b 34 := fun ⟨x, hx, e⟩ => by have := hR.1.1 x hx; omega
  have hD := dir_of hS hR (p := 34) (by decide) hn34
  have hneg : ∀ q, q ≠ 34 → dirV N T b 34 q ≤ 0 := fun q hq => by
    rcases Classical.em (Mem N b q) with ⟨x, hx, rfl⟩ | hn
    · rw [dirV_bas hR.1.2.1 (fun y hy e => hn34 ⟨y, hy, e⟩) hx]
      have := hR.1.2.2.2.2 x hx
      grind
    · rw [hD.1 q hn, if_neg (by omega)]; grind
  generalize dirV N T b 34 = v at *
  obtain ⟨d1, d2, d3', d4, d5, d6⟩ := hD
  obtain ⟨k1, k2, k3, k4⟩ := hS.1
  have kg := hS.2.2.2.2.2.1
  have h34 : v 34 = 1 := by rw [d1 34 hn34, if_pos rfl]
  rw [h34] at d6
  have hsd := hS.2.2.2.2.2.2.2.2.2.2.2.2.2.2.1
  have hsc := hS.2.2.2.2.2.2.2.2.2.2.2.2.2.2.2.1
  have hsm := hS.2.2.2.2.2.2.2.2.2.2.2.2.2.2.2.2.1
  have hg : ∀ g, g < ng → Ab 200 (v g) ∧ Ab 200 (v (5 + g)) := fun g hg => by
    have e := d4 g hg
    rw [h34] at e
    have a1 := hneg g (by omega)
    have a2 := hneg (5 + g) (by omega)
    have a3 := (hsd g).1
    have a4 := hsc g hg
    unfold Ab; grind
  have hsum : ∀ f : Nat → Rat, (∀ n, Ab 1 (f n)) → Ab 1000 (smq (fun g => f (nd g) * v g) ng) := fun f hf => by
    have := Ab.sm (f := fun g => f (nd g) * v g) (n := ng) (B := 1 * 200) (fun g hh => (hf _).mul (hg g hh).1)
    refine this.le ?_
    have : (ng : Rat) ≤ ((5 : Nat) : Rat) := ic_le.mpr (by omega)
    rw [show ((5 : Nat) : Rat) = 5 from rfl] at this
    grind
  have hX : ∀ i, Ab 1000 (smq (fun g => (F i (nd g) : Rat) * v g) ng / (tau i : Rat)) := fun i => by
    have e1 : smq (fun g => (F i (nd g) : Rat) * v g) ng / (tau i : Rat) = smq (fun g => (fun n => (F i n : Rat) / (tau i : Rat)) (nd g) * v g) ng := by
      rw [Rat.div_def, Rat.mul_comm, ← smq_mul]
      exact smq_cong (fun g _ => by show (tau i : Rat)⁻¹ * ((F i (nd g) : Rat) * v g) = (F i (nd g) : Rat) / (tau i : Rat) * v g; rw [Rat.div_def]; grind)
    rw [e1]
    exact hsum _ (fun n => ph_ab hS i n)
  refine ⟨?_, fun g hh => (hg g hh).1⟩
  rintro q ⟨x, hx, rfl⟩
  rcases hR.1.1 x hx with hc | hc
  · refine ⟨?_, fun z => by omega⟩
    rcases sy_used hS hR ⟨x, hx, rfl⟩ hc with hu | ⟨hu1, hu2⟩
    · exact (hg _ hu).1.le (by decide)
    · obtain ⟨i, hi⟩ : ∃ i, b x = 5 + i := ⟨b x - 5, by omega⟩
      rw [hi]
      by_cases c : i < ng
      · exact (hg i c).2.le (by decide)
      · have e2 := d5 i (by omega) (by omega)
        rw [h34] at e2
        have x1 := hX i
        have x2 := hsd i
        rcases kg i (by omega) (by omega) with z | z
        · rw [z.2, if_neg (by omega), z.1] at e2
          generalize smq (fun g => (F i (nd g) : Rat) * v g) ng / (tau i : Rat) = X at *
          unfold Ab at *; grind
        · have hno := sy_both hS hR (i := i) (by omega) (by omega) z.1
          have hn2 : ¬ Mem N b (100 + i) := fun m => hno ⟨⟨x, hx, hi⟩, m⟩
          rw [z.2, if_pos (by omega), z.1, d1 _ hn2, if_neg (by omega)] at e2
          generalize smq (fun g => (F i (nd g) : Rat) * v g) ng / (tau i : Rat) = X at *
          unfold Ab at *; grind
  · suffices h : Ab 2000 (v (b x)) from ⟨h.le (by decide), fun _ => h⟩
    have hbx := hR.2.1 x hx hc.1
    have x2 := (hsd x).1
    have x3 := hsm x (by omega)
    by_cases cN : x = N - 1
    · have e0 : b x = 100 + (N - 1) := by rw [hbx, cN]; exact hS.2.2.2.2.2.2.2.1
      rw [e0]
      rw [cN] at x2 x3
      have := hsum (fun _ => 1) (fun _ => by unfold Ab; grind)
      rw [smq_cong (g := fun g => v g) (fun g _ => by grind)] at this
      unfold Ab at *; grind
    · by_cases c : x < ng
      · have := hS.2.2.2.2.2.2.1 x c
        omega
      · rcases kg x (by omega) (by omega) with z | z
        · omega
        · have e2 := d5 x (by omega) (by omega)
          have hno := sy_both hS hR (i := x) (by omega) (by omega) z.1
          have hn2 : ¬ Mem N b (5 + x) := fun m => hno ⟨m, x, hx, by rw [hbx, z.2]⟩
          rw [z.2, if_pos (by omega), z.1, h34, d1 _ hn2, if_neg (by omega)] at e2
          rw [hbx, z.2]
          have x1 := hX x
          generalize smq (fun g => (F x (nd g) : Rat) * v g) ng / (tau x : Rat) = X at *
          unfold Ab at *; grind
theorem abs_I {L : Nat} {D : Int} {y : Rat} (h : IsI (((L : Rat) * (D : Rat)) * y)) : IsI (((L * D.natAbs : Nat) : Rat) * y) := by
  rw [Rat.natCast_mul]
  have e : ((D.natAbs : Nat) : Rat) = ((D.natAbs : Int) : Rat) := rfl
  rcases Int.natAbs_eq D with q | q
  · have : ((D.natAbs : Int) : Rat) = (D : Rat) := by rw [← q]
    rw [e, this]; exact h
  · have : ((D.natAbs : Int) : Rat) = -(D : Rat) := by rw [← Rat.intCast_neg]; congr 1; omega
    rw [e, this, show (L : Rat) * -(D : Rat) * y = -((L : Rat) * (D : Rat) * y) by grind]
    exact h.neg
theorem sy_sb (hS : Sys N ng nd F tau sg sd lam cost T0 G0 b0) (hR : RI N T0 G0 b0 T G b) : SB N T G ∧ ∀ x p, x < N → p < 34 → Ab ((7500 : Nat) : Rat) (T x p) := by
  obtain ⟨fr, hfr⟩ : ∃ fr : Nat → Bool, ∀ g, fr g = true ↔ Mem N b g ∧ Mem N b (5 + g) := ⟨fun g => @decide _ (Classical.propDecidable (Mem N b g ∧ Mem N b (5 + g))), fun g => by simp⟩
  obtain ⟨a1, a2, a3, h1, h2, h3, hd⟩ := sy_det hS hR hfr
  obtain ⟨k1, k2, k3, k4⟩ := hS.1
  obtain ⟨s1, s2⟩ := sy_side hS hR
  have hpl := hS.2.2.2.2.2.2.2.2.2.2.2.2.2.2.2.2.2.2.2.2.2.1 a1 a2 a3 h1.pl h2.pl h3.pl
  have hDp : 0 < (d3 a1 a2 a3).natAbs := by omega
  have hm := fun p (hp : p < 35) (hn : ¬ Mem N b p) => sy_m hS hR hfr (dir_of hS hR hp hn) hp h1 h2 h3 hd
  have hg := fun p (hp : p < 35) (hn : ¬ Mem N b p) => sy_g hS hR hfr (dir_of hS hR hp hn) hp h1 h2 h3 hd
  have hn34 : ¬ Mem N b 34 := fun ⟨x, hx, e⟩ => by have := hR.1.1 x hx; omega
  have hin : ∀ x y, x < N → y < N → b y < 35 → T x (b y) = if x = y then 1 else 0 := fun x y hx hy h => hR.1.2.2.1 x y hx hy (by have := hR.1.1 y hy; omega)
  have hTx : ∀ x p, x < N → p < 35 → ¬ Mem N b p → T x p = -(dirV N T b p (b x)) := fun x p hx hp hn => by
    rw [dirV_bas hR.1.2.1 (fun y hy e => hn ⟨y, hy, e⟩) hx]; grind
  have hG : ∀ k p, k < 7 → p < 35 → ¬ Mem N b p → G k p = gol G0 (dirV N T b p) k := fun k p hk hp hn => ((hR.dir hp (fun x hx e => hn ⟨x, hx, e⟩)).2.1 k hk).symm
  have hGm : ∀ k p, k < 7 → p < 35 → Mem N b p → G k p = 0 := fun k p hk hp ⟨x, hx, e⟩ => by
    rw [← e]; exact hR.1.2.2.2.1 k x hk hx (by have := hR.1.1 x hx; omega)
  have hG0 : ∀ p, p < 35 → ¬ Mem N b p → G 0 p = smq (fun i => if 100 ≤ b0 i then dirV N T b p (b0 i) else 0) N := fun p hp hn => by
    have hz := (hR.dir hp (fun x hx e => hn ⟨x, hx, e⟩)).1
    rw [hG 0 p (by decide) hp hn, hS.2.2.2.2.2.2.2.2.2.2.2.2.2.2.2.2.2.1, show ∀ q : Rat, -q = (-1) * q from fun q => by grind, ← smq_mul]
    exact smq_cong (fun i hi => by
      by_cases c : 100 ≤ b0 i
      · rw [if_pos c, if_pos c, hz i hi]; grind
      · rw [if_neg c, if_neg c]; grind)
  have hG1 : ∀ p, p < 35 → ¬ Mem N b p → G 1 p = smq (fun g => (cost g : Rat) * dirV N T b p g) ng := fun p hp hn => by
    rw [hG 1 p (by decide) hp hn, hS.2.2.2.2.2.2.2.2.2.2.2.2.2.2.2.2.2.2.1]
  have hGk : ∀ k p, 2 ≤ k → k < 7 → p < 35 → ¬ Mem N b p → G k p = if k - 2 < ng then dirV N T b p (k - 2) else 0 := fun k p hk1 hk hp hn => by
    rw [hG k p hk hp hn, hS.2.2.2.2.2.2.2.2.2.2.2.2.2.2.2.2.2.2.2.1 _ k hk1 hk]
  have hcost := hS.2.2.2.2.2.2.2.2.2.2.2.2.2.2.2.2.2.2.2.2.1
  have hv34 : ∀ p, p < 34 → ¬ Mem N b p → ∀ q, 100 ≤ q → Ab 7490 (dirV N T b p q) := fun p hp hn q hq => by
    rcases Classical.em (Mem N b q) with hm' | hn'
    · exact (hm p (by omega) hn q hm').2 hp
    · rw [dirV_out (fun x hx e => hn' ⟨x, hx, e⟩), if_neg (by omega)]; unfold Ab; grind
  have hrow : ∀ x p, x < N → p < 34 → Ab 7490 (T x p) := fun x p hx hp => by
    rcases Classical.em (Mem N b p) with ⟨y, hy, rfl⟩ | hn
    · rw [hin x y hx hy (by omega)]
      split <;> (unfold Ab; grind)
    · rw [hTx x p hx (by omega) hn]
      exact ((hm p (by omega) hn _ ⟨x, hx, rfl⟩).2 hp).neg
  refine ⟨⟨⟨lam * (d3 a1 a2 a3).natAbs, Nat.mul_pos k4 hDp, by rw [Nat.mul_comm]; exact hpl.1, fun x p hx hp => ?_, fun p hp => ?_⟩, fun x p hx hp => ?_, fun p hp => ?_, ⟨(d3 a1 a2 a3).natAbs, hDp, hpl.2, fun k p hk1 hk hp => ?_⟩, fun k p hk1 hk hp => ?_⟩, fun x p hx hp => ?_⟩
  · apply abs_I
    rcases Classical.em (Mem N b p) with ⟨y, hy, rfl⟩ | hn
    · rw [hin x y hx hy hp]
      refine ((IsI.int (lam : Int)).mul (IsI.int _)).mul ?_
      split
      · exact IsI.one
      · exact IsI.zero
    · rw [hTx x p hx hp hn, Rat.mul_neg]
      exact ((hm p hp hn _ ⟨x, hx, rfl⟩).1).neg
  · apply abs_I
    rcases Classical.em (Mem N b p) with hM | hn
    · rw [hGm 0 p (by decide) hp hM, Rat.mul_zero]; exact IsI.zero
    · rw [hG0 p hp hn, ← smq_mul]
      refine IsI.sm (fun i hi => ?_)
      by_cases c : 100 ≤ b0 i
      · rw [if_pos c]
        rcases Classical.em (Mem N b (b0 i)) with hm' | hn'
        · exact (hm p hp hn _ hm').1
        · rw [dirV_out (fun x hx e => hn' ⟨x, hx, e⟩), if_neg (by omega), Rat.mul_zero]; exact IsI.zero
      · rw [if_neg c, Rat.mul_zero]; exact IsI.zero
  · by_cases c : p < 34
    · exact (hrow x p hx c).le (by decide)
    · obtain rfl : p = 34 := by omega
      rw [hTx x 34 hx hp hn34]
      exact ((s1 _ ⟨x, hx, rfl⟩).1.neg).le (by decide)
  · rcases Classical.em (Mem N b p) with hM | hn
    · rw [hGm 0 p (by decide) hp hM]; exact ⟨by decide, by decide⟩
    · rw [hG0 p hp hn]
      have hb : ∀ i, i < N → Ab 7490 (if 100 ≤ b0 i then dirV N T b p (b0 i) else 0) := fun i hi => by
        by_cases c : 100 ≤ b0 i
        · rw [if_pos c]
          by_cases c34 : p < 34
          · exact hv34 p c34 hn _ c
          · obtain rfl : p = 34 := by omega
            rcases Classical.em (Mem N b (b0 i)) with hm' | hn'
            · exact ((s1 _ hm').2 c).le (by decide)
            · rw [dirV_out (fun x hx e => hn' ⟨x, hx, e⟩), if_neg (by omega)]; unfold Ab; grind
        · rw [if_neg c]; unfold Ab; grind
      refine (Ab.sm hb).le ?_
      have : (N : Rat) ≤ ((28 : Nat) : Rat) := ic_le.mpr (by omega)
      rw [show ((28 : Nat) : Rat) = 28 from rfl] at this
      rw [show ((210000 : Nat) : Rat) = 210000 from rfl]
      grind
  · rw [show ∀ y : Rat, ((d3 a1 a2 a3).natAbs : Rat) * y = ((1 * (d3 a1 a2 a3).natAbs : Nat) : Rat) * y from fun y => by rw [Nat.one_mul]]
    apply abs_I
    rw [show ((1 : Nat) : Rat) = 1 from rfl, Rat.one_mul]
    rcases Classical.em (Mem N b p) with hM | hn
    · rw [hGm k p hk hp hM, Rat.mul_zero]; exact IsI.zero
    · by_cases c : k = 1
      · subst c
        rw [hG1 p hp hn, ← smq_mul]
        exact IsI.sm (fun g hgg => by
          rw [show (d3 a1 a2 a3 : Rat) * ((cost g : Rat) * dirV N T b p g) = (cost g : Rat) * ((d3 a1 a2 a3 : Rat) * dirV N T b p g) by grind]
          exact (IsI.int _).mul ((hg p hp hn).1 g hgg).1)
      · rw [hGk k p (by omega) hk hp hn]
        split
        · rename_i z
          exact ((hg p hp hn).1 _ z).1
        · rw [Rat.mul_zero]; exact IsI.zero
  · rcases Classical.em (Mem N b p) with hM | hn
    · rw [hGm k p hk hp hM]; exact ⟨by decide, by decide⟩
    · have hvg : ∀ g, g < ng → Ab 7489 (dirV N T b p g) := fun g hgg => by
        by_cases c34 : p < 34
        · exact ((hg p hp hn).1 g hgg).2 c34
        · obtain rfl : p = 34 := by omega
          exact (s2 g hgg).le (by decide)
      by_cases c : k = 1
      · subst c
        rw [hG1 p hp hn]
        have hb : ∀ g, g < ng → Ab (99 * 7489) ((cost g : Rat) * dirV N T b p g) := fun g hgg => by
          have h9 : Ab 99 (cost g : Rat) := by
            have := Ab.int (n := cost g) (k := 99) (by have := hcost g; omega)
            exact this.le (by decide)
          exact h9.mul (hvg g hgg)
        refine (Ab.sm hb).le ?_
        have : (ng : Rat) ≤ ((5 : Nat) : Rat) := ic_le.mpr (by omega)
        rw [show ((5 : Nat) : Rat) = 5 from rfl] at this
        rw [show ((3800000 : Nat) : Rat) = 3800000 from rfl]
        grind
      · rw [hGk k p (by omega) hk hp hn]
        split
        · rename_i z
          exact (hvg _ z).le (by decide)
        · exact ⟨by decide, by decide⟩
  · exact (hrow x p hx hp).le (by decide)
theorem sy_unb (hS : Sys N ng nd F tau sg sd lam cost T0 G0 b0) (hR : RI N T0 G0 b0 T G b) {C : Nat} (hC : C < 34) (hl : lng (fun k => G k C)) : ∃ x, x < N ∧ 0 < T x C := by
  refine Classical.byContradiction (fun hno => ?_)
  have hle : ∀ x, x < N → T x C ≤ 0 := fun x hx => by
    refine Classical.byContradiction (fun z => hno ⟨x, hx, by grind⟩)
  obtain ⟨k, hk, hk1, hk2⟩ := hl
  have hk2 : G k C < 0 := hk2
  have hn : ¬ Mem N b C := fun ⟨x, hx, e⟩ => by
    have := hR.1.2.2.2.1 k x hk hx (by omega)
    rw [e] at this
    grind
  have hD := dir_of hS hR (p := C) (by omega) hn
  have hG : ∀ k, k < 7 → G k C = gol G0 (dirV N T b C) k := fun k hk => ((hR.dir (show C < 35 by omega) (fun x hx e => hn ⟨x, hx, e⟩)).2.1 k hk).symm
  have hz := (hR.dir (show C < 35 by omega) (fun x hx e => hn ⟨x, hx, e⟩)).1
  have hpos : ∀ q, 0 ≤ dirV N T b C q := fun q => by
    rcases Classical.em (Mem N b q) with ⟨x, hx, rfl⟩ | hn'
    · rw [dirV_bas hR.1.2.1 (fun y hy e => hn ⟨y, hy, e⟩) hx]
      have := hle x hx
      grind
    · rw [hD.1 q hn']
      split <;> grind
  generalize dirV N T b C = v at *
  obtain ⟨d1, d2, d3', d4, d5, d6⟩ := hD
  have h34 : v 34 = 0 := by rw [d1 34 d3', if_neg (by omega)]
  have hg : ∀ g, g < ng → v g = 0 := fun g hgg => by
    have := d4 g hgg
    have a1 := hpos g
    have a2 := hpos (5 + g)
    rw [h34] at this
    grind
  rw [hG k hk] at hk2
  by_cases c0 : k = 0
  · rw [c0, hS.2.2.2.2.2.2.2.2.2.2.2.2.2.2.2.2.2.1] at hk2
    have : ∀ n, n ≤ N → smq (fun i => if 100 ≤ b0 i then rowv T0 b0 v i - v (b0 i) else 0) n ≤ 0 := by
      intro n
      induction n with
      | zero => intro _; show (0 : Rat) ≤ 0; grind
      | succ n ih =>
        intro hnn
        have h1 := ih (by omega)
        show smq (fun i => if 100 ≤ b0 i then rowv T0 b0 v i - v (b0 i) else 0) n + (if 100 ≤ b0 n then rowv T0 b0 v n - v (b0 n) else 0) ≤ 0
        have h2 : (if 100 ≤ b0 n then rowv T0 b0 v n - v (b0 n) else 0) ≤ 0 := by
          split
          · rw [hz n (by omega)]
            have := hpos (b0 n)
            grind
          · grind
        grind
    have := this N (Nat.le_refl _)
    grind
  · by_cases c1 : k = 1
    · rw [c1, hS.2.2.2.2.2.2.2.2.2.2.2.2.2.2.2.2.2.2.1, smq_zero (fun g hgg => by rw [hg g hgg]; grind)] at hk2
      grind
    · rw [hS.2.2.2.2.2.2.2.2.2.2.2.2.2.2.2.2.2.2.2.1 _ k (by omega) hk] at hk2
      split at hk2
      · rename_i z
        rw [hg _ z] at hk2
        grind
      · grind
end BIOK
theorem bi_ok {N ng lam : Nat} {nd : Nat → Nat} {F : Nat → Nat → Int} {tau : Nat → Nat} {sg sd : Nat → Rat} {cost : Nat → Int} {T0 : Nat → Rat} {b0 : Nat → Nat} (hS : Sys N ng nd F tau sg sd lam cost (rowT T0) (golT T0) b0) : BIok N (fun T b => RI N (rowT T0) (golT T0) b0 (rowT T) (golT T) b) := by
  have hN := hS.1.2.2.1
  refine ⟨fun T b h => h.1, fun T b C h hC hl => ?_, fun T b s r h hp => ?_⟩
  · have hs := sy_sb hS h
    exact ⟨sb_smg hs.1 (fun x hx => hs.2 x C hx hC) hC, sy_unb hS h hC hl⟩
  · have h2 := h.step hp
    exact ⟨sb_sm3 (sy_sb hS h).1 (sy_sb hS h2).1 (by omega) hp.2.2.2.1 (by have := hp.1; omega), h2⟩
