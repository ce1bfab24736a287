/-! Small numbers: what bounds and common denominators give for the products. -/
def IsI (q : Rat) : Prop := ∃ n : Int, q = (n : Rat)
theorem IsI.int (n : Int) : IsI (n : Rat) := ⟨n, rfl⟩
theorem IsI.zero : IsI 0 := ⟨0, rfl⟩
theorem IsI.one : IsI 1 := ⟨1, rfl⟩
theorem IsI.add {a b : Rat} (h1 : IsI a) (h2 : IsI b) : IsI (a + b) := by
  obtain ⟨x, rfl⟩ := h1
  obtain ⟨y, rfl⟩ := h2
  exact ⟨x + y, (Rat.intCast_add x y).symm⟩
theorem IsI.mul {a b : Rat} (h1 : IsI a) (h2 : IsI b) : IsI (a * b) := by
  obtain ⟨x, rfl⟩ := h1
  obtain ⟨y, rfl⟩ := h2
  exact ⟨x * y, (Rat.intCast_mul x y).symm⟩
theorem IsI.neg {a : Rat} (h1 : IsI a) : IsI (-a) := by
  obtain ⟨x, rfl⟩ := h1
  exact ⟨-x, (Rat.intCast_neg x).symm⟩
theorem IsI.sub {a b : Rat} (h1 : IsI a) (h2 : IsI b) : IsI (a - b) := by
  obtain ⟨x, rfl⟩ := h1
  obtain ⟨y, rfl⟩ := h2
  exact ⟨x - y, (Rat.intCast_sub x y).symm⟩
theorem IsI.sm {f : Nat → Rat} : ∀ {n : Nat}, (∀ j, j < n → IsI (f j)) → IsI (smq f n)
  | 0, _ => IsI.zero
  | n + 1, h => (IsI.sm (fun j hj => h j (by omega))).add (h n (by omega))
/-- between -B and B -/
def Ab (B q : Rat) : Prop := -B ≤ q ∧ q ≤ B
theorem Ab.add {A B a b : Rat} (h1 : Ab A a) (h2 : Ab B b) : Ab (A + B) (a + b) := by
  unfold Ab at *; grind
theorem Ab.neg {A a : Rat} (h1 : Ab A a) : Ab A (-a) := by
  unfold Ab at *; grind
theorem Ab.le {A B a : Rat} (h1 : Ab A a) (h : A ≤ B) : Ab B a := by
  unfold Ab at *; grind
theorem Ab.mul {A B a b : Rat} (h1 : Ab A a) (h2 : Ab B b) : Ab (A * B) (a * b) := by
  unfold Ab at *
  have q1 := Rat.mul_nonneg (show 0 ≤ A - a by grind) (show 0 ≤ B - b by grind)
  have q2 := Rat.mul_nonneg (show 0 ≤ A + a by grind) (show 0 ≤ B + b by grind)
  have q3 := Rat.mul_nonneg (show 0 ≤ A - a by grind) (show 0 ≤ B + b by grind)
  have q4 := Rat.mul_nonneg (show 0 ≤ A + a by grind) (show 0 ≤ B - b by grind)
  grind
theorem Ab.sm {f : Nat → Rat} {B : Rat} {n : Nat} (h : ∀ j, j < n → Ab B (f j)) : Ab ((n : Rat) * B) (smq f n) := by
  induction n with
  | zero =>
    show Ab (((0 : Nat) : Rat) * B) 0
    unfold Ab
    rw [show ((0 : Nat) : Rat) = 0 from rfl]
    grind
  | succ n ih =>
    have h1 := (ih (fun j hj => h j (by omega))).add (h n (by omega))
    show Ab (((n + 1 : Nat) : Rat) * B) (smq f n + f n)
    rw [Rat.natCast_add, show ((1 : Nat) : Rat) = 1 from rfl, Rat.add_mul, Rat.one_mul]
    exact h1
theorem ic_le {a b : Int} : (a : Rat) ≤ (b : Rat) ↔ a ≤ b := Rat.intCast_le_intCast
theorem num_den (q : Rat) : (q.num : Rat) = q * (q.den : Rat) := by
  have h := Rat.num_divInt_den q
  rw [Rat.divInt_eq_div] at h
  have hd : ((q.den : Int) : Rat) ≠ 0 := by
    intro e
    have := ic0 e
    have := q.den_pos
    omega
  have e : (q.num : Rat) / ((q.den : Int) : Rat) * ((q.den : Int) : Rat) = q * ((q.den : Int) : Rat) := by rw [h]
  rw [Rat.div_mul_cancel hd] at e
  exact e
theorem den_dvd {q : Rat} {L : Nat} (h : IsI ((L : Rat) * q)) : q.den ∣ L := by
  obtain ⟨n, hn⟩ := h
  have h1 : (L : Int) * q.num = n * (q.den : Int) := by
    have : (((L : Int) * q.num : Int) : Rat) = ((n * (q.den : Int) : Int) : Rat) := by
      rw [Rat.intCast_mul, Rat.intCast_mul, num_den q, ← hn]
      show (L : Rat) * (q * (q.den : Rat)) = _
      show (L : Rat) * (q * (q.den : Rat)) = (L : Rat) * q * (q.den : Rat)
      grind
    exact Rat.intCast_inj.mp this
  have h2 : (q.den : Int) ∣ (L : Int) * q.num := ⟨n, by rw [h1, Int.mul_comm]⟩
  have h3 : q.den ∣ L * q.num.natAbs := by
    have := Int.natAbs_dvd_natAbs.mpr h2
    rwa [Int.natAbs_mul, Int.natAbs_natCast, Int.natAbs_natCast] at this
  exact Nat.Coprime.dvd_of_dvd_mul_right q.reduced.symm h3
theorem den_le {q : Rat} {L : Nat} (hL : 0 < L) (h : IsI ((L : Rat) * q)) : q.den ≤ L := Nat.le_of_dvd hL (den_dvd h)
theorem num_le {q : Rat} {L X : Nat} (hL : 0 < L) (h : IsI ((L : Rat) * q)) (hb : Ab (X : Rat) q) : q.num.natAbs ≤ X * L := by
  have hd := den_le hL h
  have h1 : (q.num : Rat) ≤ ((X * q.den : Nat) : Int) := by
    rw [num_den, Int.natCast_mul, Rat.intCast_mul]
    exact Rat.mul_le_mul_of_nonneg_right hb.2 (by show (0 : Rat) ≤ (((q.den : Nat) : Int) : Rat); exact ic_le.mpr (Int.natCast_nonneg _))
  have h2 : ((-((X * q.den : Nat) : Int) : Int) : Rat) ≤ (q.num : Rat) := by
    rw [num_den, Rat.intCast_neg, Int.natCast_mul, Rat.intCast_mul, ← Rat.neg_mul]
    exact Rat.mul_le_mul_of_nonneg_right hb.1 (by show (0 : Rat) ≤ (((q.den : Nat) : Int) : Rat); exact ic_le.mpr (Int.natCast_nonneg _))
  have h1 := ic_le.mp h1
  have h2 := ic_le.mp h2
  have h3 : X * q.den ≤ X * L := Nat.mul_le_mul_left X hd
  omega
/-- all numbers of a tableau are small -/
def SB (N : Nat) (T G : Nat → Nat → Rat) : Prop :=
  (∃ L : Nat, 0 < L ∧ L ≤ 17576 ∧ (∀ x p, x < N → p < 35 → IsI ((L : Rat) * T x p)) ∧ ∀ p, p < 35 → IsI ((L : Rat) * G 0 p)) ∧
  (∀ x p, x < N → p < 35 → Ab ((110000 : Nat) : Rat) (T x p)) ∧
  (∀ p, p < 35 → Ab ((210000 : Nat) : Rat) (G 0 p)) ∧
  (∃ L : Nat, 0 < L ∧ L ≤ 256 ∧ ∀ k p, 1 ≤ k → k < 7 → p < 35 → IsI ((L : Rat) * G k p)) ∧
  (∀ k p, 1 ≤ k → k < 7 → p < 35 → Ab ((3800000 : Nat) : Rat) (G k p))
/-- a number's denominator and value are bounded -/
def Bd (L X : Nat) (q : Rat) : Prop := (∃ K : Nat, 0 < K ∧ K ≤ L ∧ IsI ((K : Rat) * q)) ∧ Ab (X : Rat) q
theorem Bd.den {L X : Nat} {q : Rat} (h : Bd L X q) : q.den ≤ L := by
  obtain ⟨⟨K, h1, h2, h3⟩, _⟩ := h
  exact Nat.le_trans (den_le h1 h3) h2
theorem Bd.num {L X : Nat} {q : Rat} (h : Bd L X q) : q.num.natAbs ≤ X * L := by
  obtain ⟨⟨K, h1, h2, h3⟩, h4⟩ := h
  exact Nat.le_trans (num_le h1 h3 h4) (Nat.mul_le_mul_left X h2)
theorem Bd.neg {L X : Nat} {q : Rat} (h : Bd L X q) : Bd L X (-q) := by
  obtain ⟨⟨K, h1, h2, h3⟩, h4⟩ := h
  exact ⟨⟨K, h1, h2, by rw [Rat.mul_neg]; exact h3.neg⟩, h4.neg⟩
theorem Bd.add {L X L' X' : Nat} {q r : Rat} (h : Bd L X q) (g : Bd L' X' r) : Bd (L * L') (X + X') (q + r) := by
  obtain ⟨⟨K, h1, h2, h3⟩, h4⟩ := h
  obtain ⟨⟨M, g1, g2, g3⟩, g4⟩ := g
  refine ⟨⟨K * M, Nat.mul_pos h1 g1, Nat.mul_le_mul h2 g2, ?_⟩, ?_⟩
  · have e : ((K * M : Nat) : Rat) * (q + r) = (M : Rat) * ((K : Rat) * q) + (K : Rat) * ((M : Rat) * r) := by
      rw [Rat.natCast_mul]; grind
    rw [e]
    exact ((IsI.int (M : Int)).mul h3).add ((IsI.int (K : Int)).mul g3)
  · rw [Rat.natCast_add]; exact h4.add g4
theorem SB.row {N : Nat} {T G : Nat → Nat → Rat} (h : SB N T G) {x p : Nat} (hx : x < N) (hp : p < 35) : Bd 17576 110000 (T x p) := by
  obtain ⟨L, h1, h2, h3, h4⟩ := h.1
  exact ⟨⟨L, h1, h2, h3 x p hx hp⟩, h.2.1 x p hx hp⟩
theorem SB.gol0 {N : Nat} {T G : Nat → Nat → Rat} (h : SB N T G) {p : Nat} (hp : p < 35) : Bd 17576 210000 (G 0 p) := by
  obtain ⟨L, h1, h2, h3, h4⟩ := h.1
  exact ⟨⟨L, h1, h2, h4 p hp⟩, h.2.2.1 p hp⟩
theorem SB.gols {N : Nat} {T G : Nat → Nat → Rat} (h : SB N T G) {k p : Nat} (hk1 : 1 ≤ k) (hk : k < 7) (hp : p < 35) : Bd 256 3800000 (G k p) := by
  obtain ⟨L, h1, h2, h3⟩ := h.2.2.2.1
  exact ⟨⟨L, h1, h2, h3 k p hk1 hk hp⟩, h.2.2.2.2 k p hk1 hk hp⟩
