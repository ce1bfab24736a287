/-! Bland's rule: the choice of the least ends every run. Column 34 is the side; members below 34 are columns, from 100 on what is missing. -/
def Can (R : Nat) (T G : Nat → Nat → Rat) (b : Nat → Nat) : Prop :=
  (∀ i, i < R → b i < 34 ∨ (100 ≤ b i ∧ b i < 200)) ∧ (∀ i j, i < R → j < R → b i = b j → i = j)
  ∧ (∀ i j, i < R → j < R → b j < 34 → T i (b j) = if i = j then 1 else 0) ∧ (∀ k i, k < 7 → i < R → b i < 34 → G k (b i) = 0) ∧ (∀ i, i < R → 0 ≤ T i 34)
def Piv (R : Nat) (T G : Nat → Nat → Rat) (b : Nat → Nat) (T' G' : Nat → Nat → Rat) (b' : Nat → Nat) (s r : Nat) : Prop :=
  s < 34 ∧ lng (fun k => G k s) ∧ (∀ j, j < s → ¬ lng (fun k => G k j)) ∧ r < R ∧ 0 < T r s
  ∧ (∀ i, i < R → 0 < T i s → T r 34 / T r s ≤ T i 34 / T i s ∧ (T r 34 / T r s = T i 34 / T i s → b r ≤ b i))
  ∧ (∀ i j, i < R → j < 35 → T' i j = if i = r then T r j / T r s else T i j - T i s * (T r j / T r s))
  ∧ (∀ k j, k < 7 → j < 35 → G' k j = G k j - G k s * (T r j / T r s))
  ∧ (∀ i, i < R → b' i = if i = r then s else b i)
section BLAND
variable {R : Nat} {T G T' G' : Nat → Nat → Rat} {b b' : Nat → Nat} {s r : Nat}
theorem Can.out (h : Can R T G b) (hs : lng (fun k => G k s)) (h34 : s < 34) : ∀ i, i < R → b i ≠ s := by
  intro i hi e
  obtain ⟨k, hk, _, hn⟩ := hs
  have := h.2.2.2.1 k i hk hi (by omega)
  rw [e] at this
  have hn : G k s < 0 := hn
  grind
theorem Can.step (h : Can R T G b) (p : Piv R T G b T' G' b' s r) : Can R T' G' b' := by
  have hout := h.out p.2.1 p.1
  obtain ⟨h1, h2, h3, h4, h5⟩ := h
  obtain ⟨q1, q2, q3, q4, q5, q6, q7, q8, q9⟩ := p
  have hne : T r s ≠ 0 := by grind
  have hss : T r s / T r s = 1 := by rw [Rat.div_def]; exact Rat.mul_inv_cancel _ hne
  refine ⟨fun i hi => ?_, fun i j hi hj e => ?_, fun i j hi hj hb => ?_, fun k i hk hi hb => ?_, fun i hi => ?_⟩
  · rw [q9 i hi]
    by_cases e : i = r
    · rw [if_pos e]; omega
    · rw [if_neg e]; exact h1 i hi
  · rw [q9 i hi, q9 j hj] at e
    by_cases ei : i = r
    · by_cases ej : j = r
      · omega
      · rw [if_pos ei, if_neg ej] at e
        exact absurd e.symm (hout j hj)
    · by_cases ej : j = r
      · rw [if_neg ei, if_pos ej] at e
        exact absurd e (hout i hi)
      · rw [if_neg ei, if_neg ej] at e
        exact h2 i j hi hj e
  · rw [q9 j hj] at hb ⊢
    by_cases ej : j = r
    · rw [if_pos ej] at hb ⊢
      rw [q7 i s hi (by omega)]
      by_cases ei : i = r
      · rw [if_pos ei, if_pos (by omega)]; exact hss
      · rw [if_neg ei, if_neg (by omega), hss]; grind
    · rw [if_neg ej] at hb ⊢
      have hz : T r (b j) = 0 := by rw [h3 r j q4 hj hb, if_neg (by omega)]
      have hz2 : T r (b j) / T r s = 0 := by rw [hz, Rat.div_def]; grind
      rw [q7 i (b j) hi (by omega), hz2]
      by_cases ei : i = r
      · rw [if_pos ei, if_neg (by omega)]
      · rw [if_neg ei, h3 i j hi hj hb]; grind
  · rw [q9 i hi] at hb ⊢
    by_cases ei : i = r
    · rw [if_pos ei] at hb ⊢
      rw [q8 k s hk (by omega), hss]; grind
    · rw [if_neg ei] at hb ⊢
      have hz : T r (b i) = 0 := by rw [h3 r i q4 hi hb, if_neg (by omega)]
      rw [q8 k (b i) hk (by omega), hz, h4 k i hk hi hb, Rat.div_def]; grind
  · rw [q7 i 34 hi (by omega)]
    have hth : 0 ≤ T r 34 / T r s := by
      rw [Rat.div_def]
      exact Rat.mul_nonneg (h5 r q4) (Rat.le_of_lt (Rat.inv_pos.mpr q5))
    by_cases ei : i = r
    · rw [if_pos ei]; exact hth
    · rw [if_neg ei]
      rcases Classical.em (0 < T i s) with hp | hp
      · have := (q6 i hi hp).1
        have h6 := Rat.mul_le_mul_of_nonneg_right this (Rat.le_of_lt hp)
        rw [Rat.div_mul_cancel (by grind : T i s ≠ 0)] at h6
        grind
      · have h6 : 0 ≤ -(T i s) * (T r 34 / T r s) := Rat.mul_nonneg (by grind) hth
        have := h5 i hi
        grind
/-- what a row says of numbers for all members (at 34: -1 for the side, or 0) -/
def rowv (T : Nat → Nat → Rat) (b : Nat → Nat) (v : Nat → Rat) (i : Nat) : Rat := smq (fun j => T i j * v j) 35 + (if 100 ≤ b i then v (b i) else 0)
def gol (G : Nat → Nat → Rat) (v : Nat → Rat) (k : Nat) : Rat := smq (fun j => G k j * v j) 35
theorem lin2 (f g v : Nat → Rat) (c : Rat) (n : Nat) : smq (fun j => (f j - c * g j) * v j) n = smq (fun j => f j * v j) n - c * smq (fun j => g j * v j) n := by
  have h : smq (fun j => (f j - c * g j) * v j) n = smq (fun j => f j * v j + (-c) * (g j * v j)) n := smq_cong (fun j _ => by grind)
  rw [h, smq_add, smq_mul]; grind
theorem rowv_step (p : Piv R T G b T' G' b' s r) (hb : b r < 34) (v : Nat → Rat) : rowv T' b' v r = rowv T b v r / T r s ∧ ∀ i, i < R → i ≠ r → rowv T' b' v i = rowv T b v i - T i s * (rowv T b v r / T r s) := by
  obtain ⟨q1, q2, q3, q4, q5, q6, q7, q8, q9⟩ := p
  have hr0 : (if 100 ≤ b r then v (b r) else 0) = 0 := if_neg (by omega)
  have e0 : smq (fun j => T r j / T r s * v j) 35 = smq (fun j => T r j * v j) 35 / T r s := by
    rw [Rat.div_def, Rat.mul_comm, ← smq_mul]
    exact smq_cong (fun j _ => by rw [Rat.div_def]; grind)
  refine ⟨?_, fun i hi hne => ?_⟩
  · show smq (fun j => T' r j * v j) 35 + (if 100 ≤ b' r then v (b' r) else 0) = (smq (fun j => T r j * v j) 35 + (if 100 ≤ b r then v (b r) else 0)) / T r s
    rw [hr0, q9 r q4, if_pos rfl, if_neg (by omega), ← smq_cong (f := fun j => T r j / T r s * v j) (fun j hj => by show _ = T' r j * v j; rw [q7 r j q4 hj, if_pos rfl]), e0]
    grind
  · show smq (fun j => T' i j * v j) 35 + (if 100 ≤ b' i then v (b' i) else 0) = smq (fun j => T i j * v j) 35 + (if 100 ≤ b i then v (b i) else 0) - T i s * ((smq (fun j => T r j * v j) 35 + (if 100 ≤ b r then v (b r) else 0)) / T r s)
    rw [hr0, q9 i hi, if_neg hne, ← smq_cong (f := fun j => (T i j - T i s * (T r j / T r s)) * v j) (fun j hj => by show _ = T' i j * v j; rw [q7 i j hi hj, if_neg hne]), lin2 (T i) (fun j => T r j / T r s) v, e0]
    grind
theorem rowv_iff (p : Piv R T G b T' G' b' s r) (hb : b r < 34) (v : Nat → Rat) : (∀ i, i < R → rowv T b v i = 0) ↔ (∀ i, i < R → rowv T' b' v i = 0) := by
  have hr := p.2.2.2.1
  have hp := p.2.2.2.2.1
  obtain ⟨h1, h2⟩ := rowv_step p hb v
  constructor
  · intro h i hi
    have h0 := h r hr
    rw [h0] at h1 h2
    by_cases e : i = r
    · rw [e, h1, Rat.div_def]; grind
    · rw [h2 i hi e, h i hi, Rat.div_def]; grind
  · intro h i hi
    have h0 := h r hr
    rw [h1] at h0
    have hz : rowv T b v r = 0 := by
      have := congrArg (fun x => x * T r s) h0
      have : rowv T b v r / T r s * T r s = 0 * T r s := this
      rw [Rat.div_mul_cancel (by grind)] at this
      grind
    by_cases e : i = r
    · rw [e, hz]
    · have := h2 i hi e
      rw [h i hi, hz, Rat.div_def] at this
      grind
theorem gol_step (p : Piv R T G b T' G' b' s r) (hb : b r < 34) (v : Nat → Rat) (hv : rowv T b v r = 0) {k : Nat} (hk : k < 7) : gol G' v k = gol G v k := by
  obtain ⟨q1, q2, q3, q4, q5, q6, q7, q8, q9⟩ := p
  have hv : smq (fun j => T r j * v j) 35 + (if 100 ≤ b r then v (b r) else 0) = 0 := hv
  rw [if_neg (by omega)] at hv
  have e0 : smq (fun j => T r j / T r s * v j) 35 = smq (fun j => T r j * v j) 35 / T r s := by
    rw [Rat.div_def, Rat.mul_comm, ← smq_mul]
    exact smq_cong (fun j _ => by rw [Rat.div_def]; grind)
  show smq (fun j => G' k j * v j) 35 = smq (fun j => G k j * v j) 35
  rw [← smq_cong (f := fun j => (G k j - G k s * (T r j / T r s)) * v j) (fun j hj => by show _ = G' k j * v j; rw [q8 k j hk hj]), lin2 (G k) (fun j => T r j / T r s) v, e0, Rat.div_def]
  grind
end BLAND
