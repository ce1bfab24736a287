/-! The reference's way of choosing (the first column that helps, of several rows the least member) ends: no run of it is endless. Pure numbers, no machine. -/
def smq (f : Nat → Rat) : Nat → Rat
  | 0 => 0
  | n + 1 => smq f n + f n
theorem smq_cong {f g : Nat → Rat} : ∀ {n : Nat}, (∀ j, j < n → f j = g j) → smq f n = smq g n
  | 0, _ => rfl
  | n + 1, h => by
    show smq f n + f n = smq g n + g n
    rw [smq_cong (fun j hj => h j (by omega)), h n (by omega)]
theorem smq_add (f g : Nat → Rat) : ∀ n : Nat, smq (fun j => f j + g j) n = smq f n + smq g n
  | 0 => by show (0 : Rat) = 0 + 0; grind
  | n + 1 => by
    show smq (fun j => f j + g j) n + (f n + g n) = (smq f n + f n) + (smq g n + g n)
    rw [smq_add f g n]; grind
theorem smq_mul (a : Rat) (f : Nat → Rat) : ∀ n : Nat, smq (fun j => a * f j) n = a * smq f n
  | 0 => by show (0 : Rat) = a * 0; grind
  | n + 1 => by
    show smq (fun j => a * f j) n + a * f n = a * (smq f n + f n)
    rw [smq_mul a f n]; grind
theorem smq_zero {f : Nat → Rat} {n : Nat} (h : ∀ j, j < n → f j = 0) : smq f n = 0 := by
  induction n with
  | zero => rfl
  | succ n ih =>
    show smq f n + f n = 0
    rw [ih (fun j hj => h j (by omega)), h n (by omega)]; grind
theorem smq_single (a : Nat → Rat) (p : Nat) : ∀ n : Nat, smq (fun j => if p = j then a j else 0) n = if p < n then a p else 0
  | 0 => by rw [if_neg (by omega)]; rfl
  | n + 1 => by
    show smq (fun j => if p = j then a j else 0) n + (if p = n then a n else 0) = _
    rw [smq_single a p n]
    by_cases h : p = n
    · subst h
      rw [if_neg (by omega), if_pos rfl, if_pos (by omega)]; grind
    · rw [if_neg h]
      by_cases h2 : p < n
      · rw [if_pos h2, if_pos (by omega)]; grind
      · rw [if_neg h2, if_neg (by omega)]; grind
/-- rows' numbers, each at its own column -/
def spr (b : Nat → Nat) (y : Nat → Rat) (R q : Nat) : Rat := smq (fun x => if b x = q then y x else 0) R
theorem smq_spr (a : Nat → Rat) (b : Nat → Nat) (y : Nat → Rat) (n : Nat) : ∀ R : Nat, smq (fun j => a j * spr b y R j) n = smq (fun x => if b x < n then a (b x) * y x else 0) R
  | 0 => by
    show smq (fun j => a j * 0) n = 0
    exact smq_zero (fun j _ => by grind)
  | R + 1 => by
    show smq (fun j => a j * (spr b y R j + (if b R = j then y R else 0))) n = smq (fun x => if b x < n then a (b x) * y x else 0) R + (if b R < n then a (b R) * y R else 0)
    rw [← smq_spr a b y n R, ← smq_single (fun j => a j * y R) (b R) n, ← smq_add]
    refine smq_cong (fun j _ => ?_)
    by_cases h : b R = j
    · rw [if_pos h, if_pos h]; grind
    · rw [if_neg h, if_neg h]; grind
theorem spr_at {b : Nat → Nat} {y : Nat → Rat} {R x : Nat} (hi : ∀ i j, i < R → j < R → b i = b j → i = j) (hx : x < R) : spr b y R (b x) = y x := by
  show smq (fun z => if b z = b x then y z else 0) R = y x
  rw [smq_cong (g := fun z => if x = z then y z else 0) (fun z hz => by
    by_cases h : b z = b x
    · rw [if_pos h, if_pos (hi x z hx hz h.symm)]
    · rw [if_neg h, if_neg (fun q => h (by rw [q]))]), smq_single, if_pos hx]
theorem spr_no {b : Nat → Nat} {y : Nat → Rat} {R q : Nat} (h : ∀ x, x < R → b x ≠ q) : spr b y R q = 0 :=
  smq_zero (fun x hx => if_neg (h x hx))
/-! seven goals, the first that isn't 0 counts -/
def lng (c : Nat → Rat) : Prop := ∃ k, k < 7 ∧ (∀ q, q < k → c q = 0) ∧ c k < 0
theorem nn_at {c : Nat → Rat} (h : ¬ lng c) {k : Nat} (hk : k < 7) (hz : ∀ q, q < k → c q = 0) : 0 ≤ c k := by
  rcases Classical.em (0 ≤ c k) with h1 | h1
  · exact h1
  · exact absurd ⟨k, hk, hz, Rat.not_le.mp h1⟩ h
theorem nn_zeros {a b : Nat → Rat} (ha : ¬ lng a) (hb : ¬ lng b) {k : Nat} (hk : k ≤ 7) (hz : ∀ q, q < k → a q + b q = 0) : ∀ q, q < k → a q = 0 ∧ b q = 0 := by
  intro q
  induction q using Nat.strongRecOn with
  | ind q ih =>
    intro hq
    have h1 := nn_at ha (by omega : q < 7) (fun z hz => (ih z hz (by omega)).1)
    have h2 := nn_at hb (by omega : q < 7) (fun z hz => (ih z hz (by omega)).2)
    have h3 := hz q hq
    constructor <;> grind
theorem nn_add {a b : Nat → Rat} (ha : ¬ lng a) (hb : ¬ lng b) : ¬ lng (fun k => a k + b k) := by
  rintro ⟨k, hk, hz, hn⟩
  have hz' := nn_zeros ha hb (by omega : k ≤ 7) hz
  have h1 := nn_at ha hk (fun z hz => (hz' z hz).1)
  have h2 := nn_at hb hk (fun z hz => (hz' z hz).2)
  have hn : a k + b k < 0 := hn
  grind
theorem nn_mul {a : Nat → Rat} {x : Rat} (hx : 0 ≤ x) (ha : ¬ lng a) : ¬ lng (fun k => x * a k) := by
  rintro ⟨k, hk, hz, hn⟩
  have hn : x * a k < 0 := hn
  by_cases h0 : x = 0
  · rw [h0] at hn; grind
  · have hp : 0 < x := by grind
    have h1 := nn_at ha hk (fun z hq => by
      have := hz z hq
      have : x * a z = 0 := this
      rcases Rat.mul_eq_zero.mp this with h | h
      · exact absurd h h0
      · exact h)
    have := Rat.mul_nonneg hx h1
    grind
theorem nn_neg {a : Nat → Rat} {x : Rat} (hx : 0 ≤ x) (ha : lng a) : ¬ lng (fun k => -x * a k) := by
  rintro ⟨k, hk, hz, hn⟩
  obtain ⟨m, hm, hz2, hn2⟩ := ha
  have hn : -x * a k < 0 := hn
  by_cases h0 : x = 0
  · rw [h0] at hn; grind
  · have hp : 0 < x := by grind
    have hak : 0 < a k := by
      rcases Classical.em (0 < a k) with h | h
      · exact h
      · have : 0 ≤ x * -(a k) := Rat.mul_nonneg hx (by grind)
        grind
    have hzk : ∀ q, q < k → a q = 0 := fun q hq => by
      have : -x * a q = 0 := hz q hq
      rcases Rat.mul_eq_zero.mp this with h | h
      · exact absurd h (by grind)
      · exact h
    rcases Nat.lt_trichotomy k m with h | h | h
    · have := hz2 k h; grind
    · subst h; grind
    · have := hzk m h; grind
theorem nn_zero {a : Nat → Rat} (h : ∀ k, k < 7 → a k = 0) : ¬ lng a := by
  rintro ⟨k, hk, _, hn⟩
  have := h k hk
  grind
theorem nn_cong {a b : Nat → Rat} (h : ∀ k, k < 7 → a k = b k) (ha : ¬ lng a) : ¬ lng b := by
  rintro ⟨k, hk, hz, hn⟩
  exact ha ⟨k, hk, fun q hq => by rw [h q (by omega)]; exact hz q hq, by rw [h k hk]; exact hn⟩
theorem nn_smq {f : Nat → Nat → Rat} : ∀ {R : Nat}, (∀ x, x < R → ¬ lng (fun k => f k x)) → ¬ lng (fun k => smq (f k) R)
  | 0, _ => nn_zero (fun _ _ => rfl)
  | R + 1, h => nn_add (nn_smq (fun x hx => h x (by omega))) (h R (by omega))
