/-! Tableaus that come from a first one: the same solutions; what missing members have gone, are 0. -/
section REACH
variable {R : Nat} {T G T' G' : Nat → Nat → Rat} {b b' : Nat → Nat} {s r : Nat}
theorem rowv_step2 (p : Piv R T G b T' G' b' s r) (v : Nat → Rat) (hr0 : (if 100 ≤ b r then v (b r) else 0) = 0) : rowv T' b' v r = rowv T b v r / T r s ∧ ∀ i, i < R → i ≠ r → rowv T' b' v i = rowv T b v i - T i s * (rowv T b v r / T r s) := by
  obtain ⟨q1, q2, q3, q4, q5, q6, q7, q8, q9⟩ := p
  have e0 : smq (fun j => T r j / T r s * v j) 35 = smq (fun j => T r j * v j) 35 / T r s := by
    rw [Rat.div_def, Rat.mul_comm, ← smq_mul]
    exact smq_cong (fun j _ => by rw [Rat.div_def]; grind)
  refine ⟨?_, fun i hi hne => ?_⟩
  · show smq (fun j => T' r j * v j) 35 + (if 100 ≤ b' r then v (b' r) else 0) = (smq (fun j => T r j * v j) 35 + (if 100 ≤ b r then v (b r) else 0)) / T r s
    rw [hr0, q9 r q4, if_pos rfl, if_neg (by omega), ← smq_cong (f := fun j => T r j / T r s * v j) (fun j hj => by show _ = T' r j * v j; rw [q7 r j q4 hj, if_pos rfl]), e0]
    grind
  · show smq (fun j => T' i j * v j) 35 + (if 100 ≤ b' i then v (b' i) else 0) = smq (fun j => T i j * v j) 35 + (if 100 ≤ b i then v (b i) else 0) - T i s * ((smq (fun j => T r j * v j) 35 + (if 100 ≤ b r then v (b r) else 0)) / T r s)
    rw [hr0, q9 i hi, if_neg hne, ← smq_cong (f := fun j => (T i j - T i s * (T r j / T r s)) * v j) (fun j hj => by show _ = T' i j * v j; rw [q7 i j hi hj, if_neg hne]), lin2 (T i) (fun j => T r j / T r s) v, e0]
    grind
theorem rowv_iff2 (p : Piv R T G b T' G' b' s r) (v : Nat → Rat) (hr0 : (if 100 ≤ b r then v (b r) else 0) = 0) : (∀ i, i < R → rowv T b v i = 0) ↔ (∀ i, i < R → rowv T' b' v i = 0) := by
  have hr := p.2.2.2.1
  have hp := p.2.2.2.2.1
  obtain ⟨h1, h2⟩ := rowv_step2 p v hr0
  constructor
  · intro h i hi
    have h0 := h r hr
    rw [h0] at h1 h2
    by_cases e : i = r
    · rw [e, h1, Rat.div_def]; grind
    · rw [h2 i hi e, h i hi, Rat.div_def]; grind
  · intro h i hi
    have h0 := h r hr
    rw [h1] at h0
    have hz : rowv T b v r = 0 := by
      have := congrArg (fun x => x * T r s) h0
      have : rowv T b v r / T r s * T r s = 0 * T r s := this
      rw [Rat.div_mul_cancel (by grind)] at this
      grind
    by_cases e : i = r
    · rw [e, hz]
    · have := h2 i hi e
      rw [h i hi, hz, Rat.div_def] at this
      grind
theorem gol_step2 (p : Piv R T G b T' G' b' s r) (v : Nat → Rat) (hr0 : (if 100 ≤ b r then v (b r) else 0) = 0) (hv : rowv T b v r = 0) {k : Nat} (hk : k < 7) : gol G' v k = gol G v k := by
  obtain ⟨q1, q2, q3, q4, q5, q6, q7, q8, q9⟩ := p
  have hv : smq (fun j => T r j * v j) 35 + (if 100 ≤ b r then v (b r) else 0) = 0 := hv
  rw [hr0] at hv
  have e0 : smq (fun j => T r j / T r s * v j) 35 = smq (fun j => T r j * v j) 35 / T r s := by
    rw [Rat.div_def, Rat.mul_comm, ← smq_mul]
    exact smq_cong (fun j _ => by rw [Rat.div_def]; grind)
  show smq (fun j => G' k j * v j) 35 = smq (fun j => G k j * v j) 35
  rw [← smq_cong (f := fun j => (G k j - G k s * (T r j / T r s)) * v j) (fun j hj => by show _ = G' k j * v j; rw [q8 k j hk hj]), lin2 (G k) (fun j => T r j / T r s) v, e0, Rat.div_def]
  grind
end REACH
/-- v is 0 at all missing members that have gone -/
def Gone0 (N : Nat) (b0 b : Nat → Nat) (v : Nat → Rat) : Prop := ∀ m, 100 ≤ m → (∃ i, i < N ∧ b0 i = m) → (∀ i, i < N → b i ≠ m) → v m = 0
def RI (N : Nat) (T0 G0 : Nat → Nat → Rat) (b0 : Nat → Nat) (T G : Nat → Nat → Rat) (b : Nat → Nat) : Prop :=
  Can N T G b ∧ (∀ i, i < N → 100 ≤ b i → b i = b0 i) ∧ (∀ v, Gone0 N b0 b v → ((∀ i, i < N → rowv T b v i = 0) ↔ (∀ i, i < N → rowv T0 b0 v i = 0))) ∧
  (∀ v, Gone0 N b0 b v → (∀ i, i < N → rowv T b v i = 0) → ∀ k, k < 7 → gol G v k = gol G0 v k)
theorem RI.first {N : Nat} {T G : Nat → Nat → Rat} {b : Nat → Nat} (h : Can N T G b) : RI N T G b T G b := ⟨h, fun _ _ _ => rfl, fun _ _ => Iff.rfl, fun _ _ _ _ _ => rfl⟩
theorem RI.step {N : Nat} {T0 G0 T G T' G' : Nat → Nat → Rat} {b0 b b' : Nat → Nat} {s r : Nat} (h : RI N T0 G0 b0 T G b) (p : Piv N T G b T' G' b' s r) : RI N T0 G0 b0 T' G' b' := by
  obtain ⟨h1, h2, h3, h4⟩ := h
  have hr := p.2.2.2.1
  have hb' := p.2.2.2.2.2.2.2.2
  have hgo : ∀ v, Gone0 N b0 b' v → Gone0 N b0 b v ∧ (if 100 ≤ b r then v (b r) else 0) = 0 := by
    intro v hv
    constructor
    · intro m hm he hn
      refine hv m hm he (fun i hi e => ?_)
      rw [hb' i hi] at e
      by_cases q : i = r
      · rw [if_pos q] at e
        have := p.1
        omega
      · rw [if_neg q] at e
        exact hn i hi e
    · by_cases q : 100 ≤ b r
      · rw [if_pos q]
        refine hv (b r) q ⟨r, hr, (h2 r hr q).symm⟩ (fun i hi e => ?_)
        rw [hb' i hi] at e
        by_cases q2 : i = r
        · rw [if_pos q2] at e
          have := p.1
          omega
        · rw [if_neg q2] at e
          exact q2 (h1.2.1 i r hi hr e)
      · rw [if_neg q]
  refine ⟨h1.step p, fun i hi q => ?_, fun v hv => ?_, fun v hv hz k hk => ?_⟩
  · rw [hb' i hi] at q ⊢
    by_cases e : i = r
    · rw [if_pos e] at q
      have := p.1
      omega
    · rw [if_neg e] at q ⊢
      exact h2 i hi q
  · obtain ⟨g1, g2⟩ := hgo v hv
    exact (rowv_iff2 p v g2).symm.trans (h3 v g1)
  · obtain ⟨g1, g2⟩ := hgo v hv
    have hz0 := (rowv_iff2 p v g2).mpr hz
    rw [gol_step2 p v g2 (hz0 r hr) hk]
    exact h4 v g1 hz0 k hk
/-- the direction of a column (or of the side, at 34) -/
def dirV (N : Nat) (T : Nat → Nat → Rat) (b : Nat → Nat) (p : Nat) : Nat → Rat := fun q => 1 * (if p = q then 1 else 0) + (-1) * spr b (fun x => T x p) N q
theorem RI.dir {N : Nat} {T0 G0 T G : Nat → Nat → Rat} {b0 b : Nat → Nat} (h : RI N T0 G0 b0 T G b) {p : Nat} (hp : p < 35) (hnb : ∀ x, x < N → b x ≠ p) : (∀ i, i < N → rowv T0 b0 (dirV N T b p) i = 0) ∧ (∀ k, k < 7 → gol G0 (dirV N T b p) k = G k p) ∧ Gone0 N b0 b (dirV N T b p) := by
  have hg : Gone0 N b0 b (dirV N T b p) := fun m hm he hn => by
    show 1 * (if p = m then 1 else 0) + (-1) * spr b (fun x => T x p) N m = 0
    rw [if_neg (by omega), spr_no hn]
    grind
  have hz : ∀ i, i < N → rowv T b (dirV N T b p) i = 0 := fun i hi => by
    show rowv T b (fun q => 1 * (if p = q then 1 else 0) + (-1) * spr b (fun x => T x p) N q) i = 0
    rw [dir_row h.1 hp hnb 1 (-1) _ hi]
    grind
  refine ⟨(h.2.2.1 _ hg).mp hz, fun k hk => ?_, hg⟩
  rw [← h.2.2.2 _ hg hz k hk]
  show gol G (fun q => 1 * (if p = q then 1 else 0) + (-1) * spr b (fun x => T x p) N q) k = G k p
  rw [dir_gol _ _ hp, gol_bas h.1 _ hk]
  grind
theorem dirV_bas {N : Nat} {T : Nat → Nat → Rat} {b : Nat → Nat} {p : Nat} (hi : ∀ i j, i < N → j < N → b i = b j → i = j) (hnb : ∀ x, x < N → b x ≠ p) {x : Nat} (hx : x < N) : dirV N T b p (b x) = -T x p := by
  show 1 * (if p = b x then 1 else 0) + (-1) * spr b (fun x => T x p) N (b x) = -T x p
  rw [if_neg (fun q => hnb x hx q.symm), spr_at hi hx]
  grind
theorem dirV_out {N : Nat} {T : Nat → Nat → Rat} {b : Nat → Nat} {p q : Nat} (hq : ∀ x, x < N → b x ≠ q) : dirV N T b p q = if p = q then 1 else 0 := by
  show 1 * (if p = q then 1 else 0) + (-1) * spr b (fun x => T x p) N q = _
  rw [spr_no hq]
  split <;> grind
/-- a solution that is 0 at all columns outside the members is 0 -/
theorem RI.unique {N : Nat} {T0 G0 T G : Nat → Nat → Rat} {b0 b : Nat → Nat} (h : RI N T0 G0 b0 T G b) {v : Nat → Rat} (hg : Gone0 N b0 b v) (hv : ∀ i, i < N → rowv T0 b0 v i = 0) (h0 : ∀ q, q < 35 → (∀ x, x < N → b x ≠ q) → v q = 0) : ∀ x, x < N → v (b x) = 0 := by
  intro x hx
  have hz := (h.2.2.1 v hg).mpr hv x hx
  have he : rowv T b v x = rowv T b (fun q => 0 * (if 34 = q then 1 else 0) + 1 * spr b (fun y => v (b y)) N q) x := by
    have hq : ∀ q, (q < 35 ∨ ∃ y, y < N ∧ b y = q) → v q = 0 * (if 34 = q then 1 else 0) + 1 * spr b (fun y => v (b y)) N q := by
      intro q hq
      rcases Classical.em (∃ y, y < N ∧ b y = q) with ⟨y, hy, rfl⟩ | hn
      · rw [spr_at h.1.2.1 hy]; grind
      · have hn' : ∀ y, y < N → b y ≠ q := fun y hy e => hn ⟨y, hy, e⟩
        rw [spr_no hn', h0 q (hq.elim id (fun z => absurd z hn)) hn']; grind
    unfold rowv
    rw [smq_cong (g := fun j => T x j * (0 * (if 34 = j then 1 else 0) + 1 * spr b (fun y => v (b y)) N j)) (fun j hj => by rw [hq j (Or.inl hj)])]
    by_cases q : 100 ≤ b x
    · rw [if_pos q, if_pos q, hq (b x) (Or.inr ⟨x, hx, rfl⟩)]
    · rw [if_neg q, if_neg q]
  rw [he, dir_row h.1 (by decide) (fun y hy => by have := h.1.1 y hy; omega) 0 1 _ hx] at hz
  grind
