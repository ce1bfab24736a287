/-! Small tableaus before and after a turn: no product is too long. -/
theorem sm_prod {L X : Nat} {q1 q2 q3 q4 : Rat} (h1 : Bd 17576 110000 q1) (h2 : Bd L X q2) (h3 : Bd L X q3) (h4 : Bd L X q4) (he : q1 * -q2 = q4 + -q3) (n1 : 110000 * 17576 * (X * L) < 9223372036854775808) (n2 : 17576 * L < 9223372036854775808) (n3 : X * L * (L * L) + (X + X) * (L * L) * L < 9223372036854775808) (n4 : L * L * L < 9223372036854775808) :
    ((q1).num.natAbs : Int) * ((q2).num.natAbs : Int) < 9223372036854775808 ∧ ((q1).den : Int) * ((q2).den : Int) < 9223372036854775808 ∧
  ((q3).num.natAbs : Int) * ((q1 * -q2).den : Int) + ((q1 * -q2).num.natAbs : Int) * ((q3).den : Int) < 9223372036854775808 ∧ ((q1 * -q2).den : Int) * ((q3).den : Int) < 9223372036854775808 := by
  have hp : Bd (L * L) (X + X) (q1 * -q2) := he ▸ h4.add h3.neg
  have e1 := Nat.mul_le_mul h1.num h2.num
  have e2 := Nat.mul_le_mul h1.den h2.den
  have e3 := Nat.mul_le_mul h3.num hp.den
  have e4 := Nat.mul_le_mul hp.num h3.den
  have e5 := Nat.mul_le_mul hp.den h3.den
  refine ⟨?_, ?_, ?_, ?_⟩
  · rw [← Int.natCast_mul]; omega
  · rw [← Int.natCast_mul]; omega
  · rw [← Int.natCast_mul, ← Int.natCast_mul]; omega
  · rw [← Int.natCast_mul]; omega
theorem bd_at {N F k : Nat} {T : Nat → Rat} (h : SB N (rowT T) (golT T)) (hN : N ≤ 30) (hF : F < 37) (hor : F < N ∨ 30 ≤ F) (hk : k < 35) : if F < 31 then Bd 17576 210000 (T (35 * F + k)) else Bd 256 3800000 (T (35 * F + k)) := by
  rcases hor with q | q
  · rw [if_pos (by omega)]
    have := h.row q hk
    exact ⟨this.1, this.2.le (by decide)⟩
  · obtain ⟨j, rfl⟩ : ∃ j, F = 30 + j := ⟨F - 30, by omega⟩
    by_cases z : j = 0
    · subst z
      rw [if_pos (by omega)]
      exact h.gol0 hk
    · rw [if_neg (by omega)]
      exact h.gols (k := j) (by omega) (by omega) hk
theorem tu_at {T : Nat → Rat} {R9 C9 N9 F k : Nat} (hF : F < 37) (hR : F ≠ R9) (hor : F < N9 ∨ 30 ≤ F) (hk : k < 35) : tuT T R9 C9 N9 37 (35 * F + k) = T (35 * F + k) + (T (35 * R9 + k) * (T (35 * R9 + C9))⁻¹) * -T (35 * F + C9) := by
  have e1 : (35 * F + k) / 35 = F := by omega
  have e2 : (35 * F + k) % 35 = k := by omega
  unfold tuT
  rw [e1, e2, if_neg hR, if_pos ⟨hor, hF⟩]
theorem tu_atR {T : Nat → Rat} {R9 C9 N9 k : Nat} (hk : k < 35) : tuT T R9 C9 N9 37 (35 * R9 + k) = T (35 * R9 + k) * (T (35 * R9 + C9))⁻¹ := by
  have e1 : (35 * R9 + k) / 35 = R9 := by omega
  unfold tuT
  rw [e1, if_pos rfl]
theorem sb_sm3 {N R9 C9 : Nat} {T : Nat → Rat} (h : SB N (rowT T) (golT T)) (h' : SB N (rowT (tuT T R9 C9 N 37)) (golT (tuT T R9 C9 N 37))) (hN : N ≤ 30) (hR : R9 < N) (hC : C9 < 35) : Sm3 T R9 C9 N := by
  refine ⟨fun k hk => ?_, fun F hF hne hor => ⟨fun k hk => ?_, ?_⟩⟩
  · have b1 := h.row hR hk
    have b2 := h.row hR hC
    have e1 := Nat.mul_le_mul b1.num b2.den
    have e2 := Nat.mul_le_mul b1.den b2.num
    refine ⟨?_, ?_⟩
    · show ((rowT T R9 k).num.natAbs : Int) * ((rowT T R9 C9).den : Int) < _
      rw [← Int.natCast_mul]; omega
    · show ((rowT T R9 k).den : Int) * ((rowT T R9 C9).num.natAbs : Int) < _
      rw [← Int.natCast_mul]; omega
  · have s1 : scT T R9 C9 35 (35 * R9 + k) = T (35 * R9 + k) * (T (35 * R9 + C9))⁻¹ := by
      unfold scT; rw [if_pos ⟨by omega, by omega⟩]
    have s2 : scT T R9 C9 35 (35 * F + C9) = T (35 * F + C9) := by
      unfold scT; rw [if_neg (by omega)]
    have s3 : scT T R9 C9 35 (35 * F + k) = T (35 * F + k) := by
      unfold scT; rw [if_neg (by omega)]
    have q1 : Bd 17576 110000 (T (35 * R9 + k) * (T (35 * R9 + C9))⁻¹) := by
      have := h'.row hR hk
      rw [← tu_atR (N9 := N) hk]; exact this
    have q2 := bd_at h hN hF hor hC
    have q3 := bd_at h hN hF hor hk
    have q4 := bd_at h' hN hF hor hk
    have he : (T (35 * R9 + k) * (T (35 * R9 + C9))⁻¹) * -T (35 * F + C9) = tuT T R9 C9 N 37 (35 * F + k) + -T (35 * F + k) := by
      rw [tu_at hF hne hor hk]; grind
    rw [s1, s2, s3]
    by_cases z : F < 31
    · rw [if_pos z] at q2 q3 q4
      exact sm_prod q1 q2 q3 q4 he (by decide) (by decide) (by decide) (by decide)
    · rw [if_neg z] at q2 q3 q4
      exact sm_prod q1 q2 q3 q4 he (by decide) (by decide) (by decide) (by decide)
  · have q2 := bd_at h hN hF hor hC
    by_cases z : F < 31
    · rw [if_pos z] at q2
      have := q2.num
      omega
    · rw [if_neg z] at q2
      have := q2.num
      omega
theorem rt_bd {L a c : Nat} {x y : Rat} (hL : 0 < L) (hx : IsI ((L : Rat) * x)) (hy : IsI ((L : Rat) * y)) (bx : Ab (a : Rat) x) (by' : Ab (c : Rat) y) (hy0 : 0 < y) : (x * y⁻¹).num.natAbs ≤ a * L ∧ (x * y⁻¹).den ≤ c * L := by
  obtain ⟨n, hn⟩ := hx
  obtain ⟨d, hd⟩ := hy
  have hLq : (0 : Rat) < (L : Rat) := by
    show ((0 : Int) : Rat) < ((L : Int) : Rat)
    exact Rat.intCast_lt_intCast.mpr (by omega)
  have hdp : 0 < d := by
    have : ((0 : Int) : Rat) < (d : Rat) := by rw [← hd]; exact Rat.mul_pos hLq hy0
    exact Rat.intCast_lt_intCast.mp this
  have hn2 : n.natAbs ≤ a * L := by
    have h1 : (n : Rat) ≤ ((a * L : Nat) : Int) := by
      rw [← hn, Int.natCast_mul, Rat.intCast_mul, Rat.mul_comm]
      exact Rat.mul_le_mul_of_nonneg_right bx.2 (Rat.le_of_lt hLq)
    have h2 : ((-((a * L : Nat) : Int) : Int) : Rat) ≤ (n : Rat) := by
      rw [← hn, Rat.intCast_neg, Int.natCast_mul, Rat.intCast_mul, ← Rat.neg_mul, Rat.mul_comm (L : Rat)]
      exact Rat.mul_le_mul_of_nonneg_right bx.1 (Rat.le_of_lt hLq)
    have h1 := ic_le.mp h1
    have h2 := ic_le.mp h2
    omega
  have hd2 : d ≤ c * L := by
    have h1 : (d : Rat) ≤ ((c * L : Nat) : Int) := by
      rw [← hd, Int.natCast_mul, Rat.intCast_mul, Rat.mul_comm]
      exact Rat.mul_le_mul_of_nonneg_right by'.2 (Rat.le_of_lt hLq)
    have h1 := ic_le.mp h1
    rw [Int.natCast_mul] at h1
    exact h1
  have hi : IsI (((d.toNat : Nat) : Rat) * (x * y⁻¹)) := by
    have e : ((d.toNat : Nat) : Rat) * (x * y⁻¹) = (n : Rat) := by
      have e1 : ((d.toNat : Nat) : Rat) = (d : Rat) := by
        show ((d.toNat : Int) : Rat) = (d : Rat)
        rw [Int.toNat_of_nonneg (by omega)]
      rw [e1, ← hd, ← hn]
      have : y * y⁻¹ = 1 := Rat.mul_inv_cancel y (by grind)
      grind
    exact ⟨n, e⟩
  have hden := den_le (by omega) hi
  have hden2 := den_dvd hi
  refine ⟨?_, by omega⟩
  obtain ⟨t, ht⟩ := hden2
  have e2 : (n : Rat) = ((x * y⁻¹).num : Rat) * (t : Rat) := by
    rw [num_den]
    have e1 : ((d.toNat : Nat) : Rat) = (d : Rat) := by
      show ((d.toNat : Int) : Rat) = (d : Rat)
      rw [Int.toNat_of_nonneg (by omega)]
    have e3 : (d : Rat) = ((x * y⁻¹).den : Rat) * (t : Rat) := by
      rw [← e1, ht, Rat.natCast_mul]
    have : y * y⁻¹ = 1 := Rat.mul_inv_cancel y (by grind)
    have e4 : (n : Rat) = (d : Rat) * (x * y⁻¹) := by rw [← hd, ← hn]; grind
    rw [e4, e3]; grind
  have e5 : n = (x * y⁻¹).num * (t : Int) := by
    have : (n : Rat) = (((x * y⁻¹).num * (t : Int) : Int) : Rat) := by rw [Rat.intCast_mul]; exact e2
    exact Rat.intCast_inj.mp this
  have ht0 : 0 < t := by
    rcases Nat.eq_zero_or_pos t with z | z
    · rw [z, Nat.mul_zero] at ht; omega
    · exact z
  have : n.natAbs = (x * y⁻¹).num.natAbs * t := by rw [e5, Int.natAbs_mul, Int.natAbs_natCast]
  have := Nat.le_mul_of_pos_right (x * y⁻¹).num.natAbs ht0
  omega
theorem sb_smg {N C9 : Nat} {T : Nat → Rat} (h : SB N (rowT T) (golT T)) (hb : ∀ x, x < N → Ab ((7500 : Nat) : Rat) (rowT T x C9)) (hC : C9 < 34) : SmG T C9 N := by
  refine ⟨fun x hx _ => ?_, fun x y hx hy px py => ?_⟩
  · have b1 := h.row hx (show 34 < 35 by decide)
    have b2 := h.row hx (show C9 < 35 by omega)
    have e1 := Nat.mul_le_mul b1.num b2.den
    have e2 := Nat.mul_le_mul b1.den b2.num
    refine ⟨?_, ?_⟩
    · show ((rowT T x 34).num.natAbs : Int) * ((rowT T x C9).den : Int) < _
      rw [← Int.natCast_mul]; omega
    · show ((rowT T x 34).den : Int) * ((rowT T x C9).num.natAbs : Int) < _
      rw [← Int.natCast_mul]; omega
  · obtain ⟨⟨L, l1, l2, l3, l4⟩, -⟩ := id h
    have f1 := rt_bd l1 (l3 x 34 hx (by decide)) (l3 x C9 hx (by omega)) (h.row hx (show 34 < 35 by decide)).2 (hb x hx) px
    have f2 := rt_bd l1 (l3 y 34 hy (by decide)) (l3 y C9 hy (by omega)) (h.row hy (show 34 < 35 by decide)).2 (hb y hy) py
    have e1 := Nat.mul_le_mul f1.1 f2.2
    have e2 := Nat.mul_le_mul f2.1 f1.2
    have e3 : 110000 * L * (7500 * L) ≤ 110000 * 17576 * (7500 * 17576) := Nat.mul_le_mul (Nat.mul_le_mul_left _ l2) (Nat.mul_le_mul_left _ l2)
    show ((rowT T x 34 * (rowT T x C9)⁻¹).num.natAbs : Int) * ((rowT T y 34 * (rowT T y C9)⁻¹).den : Int) + ((rowT T y 34 * (rowT T y C9)⁻¹).num.natAbs : Int) * ((rowT T x 34 * (rowT T x C9)⁻¹).den : Int) < _
    rw [← Int.natCast_mul, ← Int.natCast_mul]
    omega
