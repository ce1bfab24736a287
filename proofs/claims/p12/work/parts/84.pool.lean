/-! The rows that are tight, as rows of whole numbers; a determinant of them is the common denominator. -/
def yv (fr : Nat → Bool) (nd : Nat → Nat) (v : Nat → Rat) (ng n : Nat) : Rat := smq (fun g => if fr g = true ∧ nd g = n then v g else 0) ng
def nfs (fr : Nat → Bool) (nd : Nat → Nat) (v : Nat → Rat) (f : Nat → Rat) (ng : Nat) : Rat := smq (fun g => if fr g = true then 0 else f (nd g) * v g) ng
theorem sm_dec (fr : Nat → Bool) (nd : Nat → Nat) (v f : Nat → Rat) : ∀ n : Nat, (∀ g, g < n → nd g < 4) → smq (fun g => f (nd g) * v g) n = f 0 * yv fr nd v n 0 + f 1 * yv fr nd v n 1 + f 2 * yv fr nd v n 2 + f 3 * yv fr nd v n 3 + nfs fr nd v f n
  | 0, _ => by
    show (0 : Rat) = f 0 * 0 + f 1 * 0 + f 2 * 0 + f 3 * 0 + 0
    grind
  | n + 1, h => by
    have ih := sm_dec fr nd v f n (fun g hg => h g (by omega))
    have hn := h n (by omega)
    show smq (fun g => f (nd g) * v g) n + f (nd n) * v n = f 0 * (yv fr nd v n 0 + (if fr n = true ∧ nd n = 0 then v n else 0)) + f 1 * (yv fr nd v n 1 + (if fr n = true ∧ nd n = 1 then v n else 0)) + f 2 * (yv fr nd v n 2 + (if fr n = true ∧ nd n = 2 then v n else 0)) + f 3 * (yv fr nd v n 3 + (if fr n = true ∧ nd n = 3 then v n else 0)) + (nfs fr nd v f n + (if fr n = true then 0 else f (nd n) * v n))
    rw [ih]
    by_cases c : fr n = true
    · rw [if_pos c]
      rcases (show nd n = 0 ∨ nd n = 1 ∨ nd n = 2 ∨ nd n = 3 by omega) with e | e | e | e
      · simp [e, c]; grind
      · simp [e, c]; grind
      · simp [e, c]; grind
      · simp [e, c]; grind
    · rw [if_neg c, if_neg (fun z => c z.1), if_neg (fun z => c z.1), if_neg (fun z => c z.1), if_neg (fun z => c z.1)]; grind
theorem yv_no {fr : Nat → Bool} {nd : Nat → Nat} {v : Nat → Rat} {ng n : Nat} (h : ∀ g, g < ng → fr g = true → nd g ≠ n) : yv fr nd v ng n = 0 :=
  smq_zero (fun g hg => if_neg (fun z => h g hg z.1 z.2))
theorem yv_at {fr : Nat → Bool} {nd : Nat → Nat} {v : Nat → Rat} {ng g : Nat} (h : ∀ i, i < ng → fr i = true → nd i = nd g → i = g) (hg : g < ng) (hf : fr g = true) : yv fr nd v ng (nd g) = v g := by
  unfold yv
  rw [sm_one (j := g) (fun i hi hne => if_neg (fun z => hne (h i hi z.1 z.2))), if_pos hg, if_pos ⟨hf, rfl⟩]
theorem Ab.int {n : Int} {k : Nat} (h : n.natAbs ≤ k) : Ab (k : Rat) (n : Rat) := by
  constructor
  · show -((k : Int) : Rat) ≤ _
    rw [← Rat.intCast_neg]; exact ic_le.mpr (by omega)
  · show _ ≤ ((k : Int) : Rat)
    exact ic_le.mpr (by omega)
theorem Ab.dv {D : Int} {B y : Rat} (hD : D ≠ 0) (h : Ab B ((D : Rat) * y)) : Ab B y := by
  have hB : 0 ≤ B := by unfold Ab at h; grind
  have key : ∀ y : Rat, ∀ D : Int, 0 < D → Ab B ((D : Rat) * y) → y ≤ B := fun y D hD h => by
    refine Classical.byContradiction (fun hn => ?_)
    have h1 : (1 : Rat) ≤ (D : Rat) := ic_le (a := 1).mpr (by omega)
    have h2 := Rat.mul_nonneg (show 0 ≤ (D : Rat) - 1 by grind) (show 0 ≤ y by grind)
    have := h.2
    grind
  rcases Int.lt_or_gt_of_ne hD with q | q
  · have a1 := key (-y) (-D) (by omega) (by rw [Rat.intCast_neg]; rw [show -(D : Rat) * -y = (D : Rat) * y by grind]; exact h)
    have a2 := key y (-D) (by omega) (by rw [Rat.intCast_neg]; rw [show -(D : Rat) * y = -((D : Rat) * y) by grind]; exact h.neg)
    unfold Ab; grind
  · have a1 := key y D q h
    have a2 := key (-y) D q (by rw [show (D : Rat) * -y = -((D : Rat) * y) by grind]; exact h.neg)
    unfold Ab; grind
def PP (N ng : Nat) (nd : Nat → Nat) (F : Nat → Nat → Int) (b0 b : Nat → Nat) (fr : Nat → Bool) (a : I3) : Prop :=
  (∃ i, ng ≤ i ∧ i + 1 < N ∧ Tight N b0 b i ∧ a = frow F i) ∨ (a = (1, 0, 0) ∧ ∀ g, g < ng → fr g = true → nd g ≠ 1) ∨ (a = (0, 1, 0) ∧ ∀ g, g < ng → fr g = true → nd g ≠ 2) ∨ (a = (0, 0, 1) ∧ ∀ g, g < ng → fr g = true → nd g ≠ 3) ∨ (a = (1, 1, 1) ∧ (∀ g, g < ng → fr g = true → nd g ≠ 0) ∧ ¬ Mem N b (100 + (N - 1)))
section POOL
variable {N ng lam : Nat} {nd : Nat → Nat} {F : Nat → Nat → Int} {tau : Nat → Nat} {sg sd : Nat → Rat} {cost : Nat → Int} {T0 G0 T G : Nat → Nat → Rat} {b0 b : Nat → Nat} {fr : Nat → Bool}
theorem PP.pl {a : I3} (h : PP N ng nd F b0 b fr a) : Pl N ng F a := by
  rcases h with ⟨i, h1, h2, _, h3⟩ | h | h | h | h
  · exact Or.inl ⟨i, h1, h2, h3⟩
  · exact Or.inr (Or.inl h.1)
  · exact Or.inr (Or.inr (Or.inl h.1))
  · exact Or.inr (Or.inr (Or.inr (Or.inl h.1)))
  · exact Or.inr (Or.inr (Or.inr (Or.inr h.1)))
theorem dot_e1 (y : Q3) : dot3 (1, 0, 0) y = y.1 := by
  show ((1 : Int) : Rat) * y.1 + ((0 : Int) : Rat) * y.2.1 + ((0 : Int) : Rat) * y.2.2 = y.1
  rw [Rat.intCast_zero, Rat.intCast_one]; grind
theorem dot_e2 (y : Q3) : dot3 (0, 1, 0) y = y.2.1 := by
  show ((0 : Int) : Rat) * y.1 + ((1 : Int) : Rat) * y.2.1 + ((0 : Int) : Rat) * y.2.2 = y.2.1
  rw [Rat.intCast_zero, Rat.intCast_one]; grind
theorem dot_e3 (y : Q3) : dot3 (0, 0, 1) y = y.2.2 := by
  show ((0 : Int) : Rat) * y.1 + ((0 : Int) : Rat) * y.2.1 + ((1 : Int) : Rat) * y.2.2 = y.2.2
  rw [Rat.intCast_zero, Rat.intCast_one]; grind
theorem dot_e4 (y : Q3) : dot3 (1, 1, 1) y = y.1 + y.2.1 + y.2.2 := by
  show ((1 : Int) : Rat) * y.1 + ((1 : Int) : Rat) * y.2.1 + ((1 : Int) : Rat) * y.2.2 = _
  rw [Rat.intCast_one]; grind
theorem sy_det (hS : Sys N ng nd F tau sg sd lam cost T0 G0 b0) (hR : RI N T0 G0 b0 T G b) (hfr : ∀ g, fr g = true ↔ Mem N b g ∧ Mem N b (5 + g)) : ∃ a1 a2 a3, PP N ng nd F b0 b fr a1 ∧ PP N ng nd F b0 b fr a2 ∧ PP N ng nd F b0 b fr a3 ∧ d3 a1 a2 a3 ≠ 0 := by
  refine ex3 (fun z hz => ?_)
  have kn := hS.2.1
  have huq : ∀ g, g < ng → fr g = true → ∀ i, i < ng → fr i = true → nd i = nd g → i = g := fun g hg f1 i hi f2 e => sy_two hS hR hi hg ((hfr i).mp f2) ((hfr g).mp f1) e
  obtain ⟨Z, hZ⟩ : ∃ Z : Nat → Rat, ∀ n, Z n = if n = 0 then -(z.1 + z.2.1 + z.2.2) else if n = 1 then z.1 else if n = 2 then z.2.1 else z.2.2 := ⟨_, fun _ => rfl⟩
  have Z0 : Z 0 = -(z.1 + z.2.1 + z.2.2) := by rw [hZ, if_pos rfl]
  have Z1 : Z 1 = z.1 := by rw [hZ, if_neg (by decide), if_pos rfl]
  have Z2 : Z 2 = z.2.1 := by rw [hZ, if_neg (by decide), if_neg (by decide), if_pos rfl]
  have Z3 : Z 3 = z.2.2 := by rw [hZ, if_neg (by decide), if_neg (by decide), if_neg (by decide)]
  have hno : ∀ n, 1 ≤ n → n < 4 → (∀ g, g < ng → fr g = true → nd g ≠ n) → Z n = 0 := by
    intro n h1 h2 h
    rcases (show n = 1 ∨ n = 2 ∨ n = 3 by omega) with rfl | rfl | rfl
    · rw [Z1, ← dot_e1 z]; exact hz _ (Or.inr (Or.inl ⟨rfl, h⟩))
    · rw [Z2, ← dot_e2 z]; exact hz _ (Or.inr (Or.inr (Or.inl ⟨rfl, h⟩)))
    · rw [Z3, ← dot_e3 z]; exact hz _ (Or.inr (Or.inr (Or.inr (Or.inl ⟨rfl, h⟩))))
  obtain ⟨u, hu⟩ : ∃ u : Nat → Rat, ∀ g, u g = if fr g = true then Z (nd g) else 0 := ⟨_, fun _ => rfl⟩
  have hy : ∀ n, 1 ≤ n → n < 4 → yv fr nd u ng n = Z n := by
    intro n h1 h2
    rcases Classical.em (∃ g, g < ng ∧ fr g = true ∧ nd g = n) with ⟨g, hg, f1, rfl⟩ | hn
    · rw [yv_at (huq g hg f1) hg f1, hu, if_pos f1]
    · have hn' : ∀ g, g < ng → fr g = true → nd g ≠ n := fun g a1 a2 a3 => hn ⟨g, a1, a2, a3⟩
      rw [yv_no hn', hno n h1 h2 hn']
  have hnf : ∀ f, nfs fr nd u f ng = 0 := fun f => smq_zero (fun g _ => by
    by_cases c : fr g = true
    · rw [if_pos c]
    · rw [if_neg c, hu, if_neg c]; grind)
  have h0 := sy_free hS hR (u := u) (fun g _ hne => by
    refine (hfr g).mp (Classical.byContradiction (fun c => hne ?_))
    rw [hu, if_neg c]) (fun i h1 h2 ht => by
    rw [sm_dec fr nd u (fun n => (F i n : Rat)) ng kn, hnf, hy 1 (by decide) (by decide), hy 2 (by decide) (by decide), hy 3 (by decide) (by decide), hS.2.2.1 i, Z1, Z2, Z3, Rat.intCast_zero]
    have := hz (frow F i) (Or.inl ⟨i, h1, h2, ht, rfl⟩)
    have e : dot3 (frow F i) z = (F i 1 : Rat) * z.1 + (F i 2 : Rat) * z.2.1 + (F i 3 : Rat) * z.2.2 := rfl
    rw [e] at this
    grind) (fun hM => by
    rw [smq_cong (g := fun g => (fun _ => (1 : Rat)) (nd g) * u g) (fun g _ => by grind), sm_dec fr nd u (fun _ => 1) ng kn, hnf, hy 1 (by decide) (by decide), hy 2 (by decide) (by decide), hy 3 (by decide) (by decide), Z1, Z2, Z3]
    rcases Classical.em (∃ g, g < ng ∧ fr g = true ∧ nd g = 0) with ⟨g, hg, f1, e⟩ | hn
    · have a1 := yv_at (v := u) (huq g hg f1) hg f1
      rw [e] at a1
      rw [a1, hu, if_pos f1, e, Z0]; grind
    · have hn' : ∀ g, g < ng → fr g = true → nd g ≠ 0 := fun g a1 a2 a3 => hn ⟨g, a1, a2, a3⟩
      rw [yv_no hn']
      have a2 := hz _ (Or.inr (Or.inr (Or.inr (Or.inr ⟨rfl, hn', hM⟩))))
      rw [dot_e4] at a2
      grind)
  have hZz : ∀ n, 1 ≤ n → n < 4 → Z n = 0 := by
    intro n h1 h2
    rcases Classical.em (∃ g, g < ng ∧ fr g = true ∧ nd g = n) with ⟨g, hg, f1, rfl⟩ | hn
    · have := h0 g hg
      rwa [hu, if_pos f1] at this
    · exact hno n h1 h2 (fun g a1 a2 a3 => hn ⟨g, a1, a2, a3⟩)
  obtain ⟨z1, z2, z3⟩ := z
  have e1 : z1 = 0 := Z1.symm.trans (hZz 1 (by decide) (by decide))
  have e2 : z2 = 0 := Z2.symm.trans (hZz 2 (by decide) (by decide))
  have e3 : z3 = 0 := Z3.symm.trans (hZz 3 (by decide) (by decide))
  rw [e1, e2, e3]
end POOL
