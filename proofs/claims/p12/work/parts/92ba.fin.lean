/-! The first tableau is in order; what the last one says of cost and outputs. -/
section FIN
variable {N ng lam : Nat} {nd : Nat → Nat} {F : Nat → Nat → Int} {tau : Nat → Nat} {sg sd : Nat → Rat} {cost : Nat → Int} {T0 G0 T G : Nat → Nat → Rat} {b0 b : Nat → Nat}
theorem sy_fin (hS : Sys N ng nd F tau sg sd lam cost T0 G0 b0) (hR : RI N T0 G0 b0 T G b) : ∃ a1 a2 a3, Pl N ng F a1 ∧ Pl N ng F a2 ∧ Pl N ng F a3 ∧ d3 a1 a2 a3 ≠ 0 ∧ IsI ((((d3 a1 a2 a3).natAbs : Nat) : Rat) * G 1 34) ∧ -99000 ≤ G 1 34 ∧ G 1 34 ≤ 0 ∧ ∀ x, x < N → b x < 5 → b x < ng ∧ IsI ((((d3 a1 a2 a3).natAbs : Nat) : Rat) * T x 34) ∧ 0 ≤ T x 34 ∧ T x 34 ≤ 200 := by
  obtain ⟨fr, hfr⟩ : ∃ fr : Nat → Bool, ∀ g, fr g = true ↔ Mem N b g ∧ Mem N b (5 + g) := ⟨fun g => @decide _ (Classical.propDecidable (Mem N b g ∧ Mem N b (5 + g))), fun g => by simp⟩
  obtain ⟨a1, a2, a3, h1, h2, h3, hd⟩ := sy_det hS hR hfr
  obtain ⟨s1, s2⟩ := sy_side hS hR
  have hn34 : ¬ Mem N b 34 := fun ⟨x, hx, e⟩ => by have := hR.1.1 x hx; omega
  have hD := dir_of hS hR (p := 34) (by decide) hn34
  have hg := (sy_g hS hR hfr hD (by decide) h1 h2 h3 hd).1
  have hneg : ∀ q, q ≠ 34 → dirV N T b 34 q ≤ 0 := fun q hq => by
    rcases Classical.em (Mem N b q) with ⟨x, hx, rfl⟩ | hn
    · rw [dirV_bas hR.1.2.1 (fun y hy e => hn34 ⟨y, hy, e⟩) hx]
      have := hR.1.2.2.2.2 x hx
      grind
    · rw [hD.1 q hn, if_neg (by omega)]; grind
  have hG1 : G 1 34 = smq (fun g => (cost g : Rat) * dirV N T b 34 g) ng := by
    rw [← (hR.dir (p := 34) (by decide) (fun x hx e => hn34 ⟨x, hx, e⟩)).2.1 1 (by decide), hS.2.2.2.2.2.2.2.2.2.2.2.2.2.2.2.2.2.2.1]
  have hcost := hS.2.2.2.2.2.2.2.2.2.2.2.2.2.2.2.2.2.2.2.2.1
  have abI : ∀ y : Rat, IsI ((d3 a1 a2 a3 : Rat) * y) → IsI ((((d3 a1 a2 a3).natAbs : Nat) : Rat) * y) := fun y hy => by
    have := abs_I (L := 1) (D := d3 a1 a2 a3) (y := y) (by rw [show ((1 : Nat) : Rat) = 1 from rfl, Rat.one_mul]; exact hy)
    rw [Nat.one_mul] at this
    exact this
  refine ⟨a1, a2, a3, h1.pl, h2.pl, h3.pl, hd, ?_, ?_, ?_, fun x hx hb => ?_⟩
  · apply abI
    rw [hG1, ← smq_mul]
    refine IsI.sm (fun g hh => ?_)
    rw [show (d3 a1 a2 a3 : Rat) * ((cost g : Rat) * dirV N T b 34 g) = (cost g : Rat) * ((d3 a1 a2 a3 : Rat) * dirV N T b 34 g) by grind]
    exact (IsI.int _).mul (hg g hh).1
  · have hA : Ab ((ng : Rat) * (99 * 200)) (smq (fun g => (cost g : Rat) * dirV N T b 34 g) ng) := Ab.sm (fun g hh => Ab.mul (by
      have := hcost g
      have q : Ab ((99 : Nat) : Rat) ((cost g : Int) : Rat) := Ab.iv (by omega) (by omega)
      exact q) (s2 g hh))
    rw [← hG1] at hA
    have h5 := hS.1.1
    have : (ng : Rat) ≤ ((5 : Nat) : Rat) := ic_le.mpr (by omega)
    rw [show ((5 : Nat) : Rat) = 5 from rfl] at this
    have := hA.1
    grind
  · rw [hG1]
    have : ∀ n : Nat, n ≤ ng → smq (fun g => (cost g : Rat) * dirV N T b 34 g) n ≤ 0 := by
      intro n
      induction n with
      | zero => intro _; exact Rat.le_refl
      | succ n ih =>
        intro hn
        show smq (fun g => (cost g : Rat) * dirV N T b 34 g) n + (cost n : Rat) * dirV N T b 34 n ≤ 0
        have i1 := ih (by omega)
        have c0 : (0 : Rat) ≤ (cost n : Rat) := by have := ic_le.mpr (hcost n).1; exact this
        have d0 : 0 ≤ -dirV N T b 34 n := by have := hneg n (by have := hS.1.1; omega); grind
        have := Rat.mul_nonneg c0 d0
        grind
    exact this ng (Nat.le_refl _)
  · have hu : b x < ng := by
      rcases sy_used hS hR ⟨x, hx, rfl⟩ (by omega) with q | q
      · exact q
      · omega
    have e : T x 34 = -dirV N T b 34 (b x) := by
      rw [dirV_bas hR.1.2.1 (fun y hy e => hn34 ⟨y, hy, e⟩) hx]; grind
    have h2 := s2 (b x) hu
    refine ⟨hu, ?_, hR.1.2.2.2.2 x hx, ?_⟩
    · rw [e, Rat.mul_neg]
      exact (abI _ (hg (b x) hu).1).neg
    · rw [e]
      have := h2.1
      grind
end FIN
theorem can_t {tl dm lm em cp : Nat → Int} {nl n ng : Nat} {ou : Int} {fac ct : Nat → Rat} {T : Nat → Rat} {bz : Nat → Int} (h : Laid tl dm lm em cp nl n ng ou fac) (hT : TIf T bz (ng + (fl ou nl).length) (specS fac tl dm lm em cp (n + 1) ng nl ou) ng ct) : Can (ng + (fl ou nl).length + 1) (rowT T) (golT T) (fun i => (bz i).toNat) := by
  have hF := laid_F h
  obtain ⟨hG, h5, hat, hdm, hlm, hem, hcp, f0, f1⟩ := h
  obtain ⟨hn1, hn3, h6, hN, hC, ho⟩ := hG
  obtain ⟨t1, t2, t3, t4, t5, t6, t7⟩ := hT
  have hds := dsum_b hdm (n + 1)
  have hlen := fl_le (o := ou) nl
  have hlen2 : (fl ou nl).length ≤ 22 := by
    rcases ho with q | q
    · have := hlen.2.1 q; omega
    · have := hlen.2.2 q.1 q.2.1; omega
  have hsp := spec_c (fac := fac) (tl := tl) (dm := dm) (lm := lm) (em := em) (cp := cp) (nn := n + 1) (ng := ng) (nl := nl) (o := ou) (ng + (fl ou nl).length)
  generalize specS fac tl dm lm em cp (n + 1) ng nl ou = S at *
  generalize hr : ng + (fl ou nl).length = r at *
  have hr28 : r ≤ 27 := by omega
  have hlast : S r = (fun g => if g < ng then 1 else 0, ((dsum dm (n + 1) : Int) : Rat)) := by
    rcases hsp with ⟨a, -⟩ | ⟨-, b, -⟩ | ⟨-, -, e⟩
    · omega
    · omega
    · exact e
  have hb : ∀ i, i < r → (bz i).toNat = if (S i).2 < 0 then 100 + i else 5 + i := fun i hi => by
    rw [t6 i hi]
    split <;> omega
  have hbN : (bz r).toNat = 100 + r := by rw [t7]; omega
  have hbb : ∀ i, i < r + 1 → (bz i).toNat = 5 + i ∨ (bz i).toNat = 100 + i := fun i hi => by
    by_cases z : i = r
    · rw [z]; exact Or.inr hbN
    · have := hb i (by omega)
      split at this
      · exact Or.inr this
      · exact Or.inl this
  have hlow : ∀ i, i < r + 1 → (bz i).toNat < 34 → i < r ∧ (bz i).toNat = 5 + i ∧ ¬ (S i).2 < 0 := fun i hi h34 => by
    by_cases z : i = r
    · rw [z, hbN] at h34; omega
    · have := hb i (by omega)
      by_cases q : (S i).2 < 0
      · rw [if_pos q] at this; omega
      · rw [if_neg q] at this; exact ⟨by omega, this, q⟩
  have hop : ∀ (s : RS9) j, 5 ≤ j → j < 34 → opn s j = 0 := fun s j h1 h2 => by
    unfold opn
    rw [if_neg (by omega), if_neg (by omega)]
  refine ⟨fun i hi => ?_, fun i j hi hj e => ?_, fun i j hi hj h34 => ?_, fun k i hk hi h34 => ?_, fun i hi => ?_⟩
  · show (bz i).toNat < 34 ∨ (100 ≤ (bz i).toNat ∧ (bz i).toNat < 200)
    by_cases z : i = r
    · rw [z, hbN]; omega
    · rcases hbb i hi with q | q <;> rw [q] <;> omega
  · have e : (bz i).toNat = (bz j).toNat := e
    rcases hbb i hi with q | q <;> rcases hbb j hj with q2 | q2 <;> omega
  · obtain ⟨j1, j2, j3⟩ := hlow j hj h34
    show T (35 * i + (bz j).toNat) = _
    rw [j2]
    by_cases z : i = r
    · rw [z, t2 (5 + j) (by omega), hop _ _ (by omega) (by omega), if_neg (by omega)]
    · rw [t1 i (5 + j) (by omega) (by omega)]
      unfold rowS
      by_cases z2 : i = j
      · subst z2
        rw [if_pos rfl, if_pos rfl]
        unfold sgR
        rw [if_neg j3]
        grind
      · rw [if_neg (by omega), if_neg z2, hop _ _ (by omega) (by omega), Rat.mul_zero]
  · obtain ⟨j1, j2, j3⟩ := hlow i hi h34
    show T (35 * (30 + k) + (bz i).toNat) = 0
    rw [j2]
    have hk3 : k = 0 ∨ k = 1 ∨ 2 ≤ k := by omega
    rcases hk3 with rfl | rfl | hk2
    · rw [show 35 * (30 + 0) + (5 + i) = 1050 + (5 + i) by omega, t3 (5 + i) (by omega), hop _ _ (by omega) (by omega)]
      rw [smq_zero (fun i' hi' => by
        by_cases q : (S i').2 < 0
        · rw [if_pos q]
          unfold rowS
          rw [if_neg (fun z => j3 (by rw [show i = i' by omega]; exact q)), hop _ _ (by omega) (by omega), Rat.mul_zero]
        · rw [if_neg q])]
      grind
    · rw [show 35 * (30 + 1) + (5 + i) = 1085 + (5 + i) by omega, t4 (5 + i) (by omega), if_neg (by omega)]
    · have := t5 (k - 2) (5 + i) (by omega) (by omega)
      rw [show 35 * (30 + k) + (5 + i) = 35 * (32 + (k - 2)) + (5 + i) by omega, this, if_neg (by omega)]
  · show 0 ≤ T (35 * i + 34)
    by_cases z : i = r
    · rw [z, t2 34 (by decide), hlast]
      show (0 : Rat) ≤ ((dsum dm (n + 1) : Int) : Rat)
      exact ic_le.mpr hds.1
    · rw [t1 i 34 (by omega) (by decide)]
      unfold rowS
      rw [if_neg (by omega)]
      show 0 ≤ sgR (S i).2 * (S i).2
      rcases sgR_sq (S i).2 with ⟨e, q⟩ | ⟨e, q⟩ <;> rw [e] <;> grind
