/-! The tableau that is laid, by its meaning. -/
theorem smq_ext {f : Nat → Rat} {n : Nat} : ∀ k, (∀ g, n ≤ g → g < n + k → f g = 0) → smq f (n + k) = smq f n
  | 0, _ => rfl
  | k + 1, h => by
    show smq f (n + k) + f (n + k) = smq f n
    rw [smq_ext k (fun g h1 h2 => h g h1 (by omega)), h (n + k) (by omega) (by omega), Rat.add_zero]
theorem smq_five (f : Nat → Rat) : smq (fun j => if j < 5 then f j else 0) 35 = smq f 5 := by
  rw [show (35 : Nat) = 5 + 30 from rfl, smq_ext 30 (fun g h1 _ => if_neg (by omega))]
  exact smq_cong (fun j hj => if_pos hj)
theorem smq_swap (a : Nat → Nat → Rat) (v : Nat → Rat) (n : Nat) : ∀ r : Nat, smq (fun j => smq (fun i => a i j) r * v j) n = smq (fun i => smq (fun j => a i j * v j) n) r
  | 0 => smq_zero (fun j _ => by show (0 : Rat) * v j = 0; grind)
  | r + 1 => by
    show smq (fun j => (smq (fun i => a i j) r + a r j) * v j) n = smq (fun i => smq (fun j => a i j * v j) n) r + smq (fun j => a r j * v j) n
    rw [← smq_swap a v n r, ← smq_add]
    exact smq_cong (fun j _ => by grind)
theorem smq_opn (s : RS9) (v : Nat → Rat) : smq (fun j => opn s j * v j) 35 = smq (fun g => s.1 g * v g) 5 + s.2 * v 34 := by
  have e : ∀ j, j < 35 → opn s j * v j = (if j < 5 then s.1 j * v j else 0) + (if 34 = j then s.2 * v j else 0) := fun j hj => by
    unfold opn
    by_cases z : j < 5
    · rw [if_pos z, if_pos z, if_neg (by omega)]; grind
    · rw [if_neg z, if_neg z]
      by_cases z2 : j = 34
      · rw [if_pos z2, if_pos z2.symm]; grind
      · rw [if_neg z2, if_neg (fun q => z2 q.symm)]; grind
  rw [smq_cong e, smq_add, smq_five (fun g => s.1 g * v g), smq_single (fun j => s.2 * v j) 34 35, if_pos (by decide)]
theorem smq_rowS (s : RS9) (v : Nat → Rat) {i : Nat} (hi : i < 29) : smq (fun j => rowS s i j * v j) 35 = sgR s.2 * (smq (fun g => s.1 g * v g) 5 + v (5 + i) + s.2 * v 34) := by
  have e : ∀ j, j < 35 → rowS s i j * v j = sgR s.2 * (opn s j * v j + (if 5 + i = j then v j else 0)) := fun j hj => by
    unfold rowS
    by_cases z : j = 5 + i
    · rw [if_pos z, if_pos z.symm]
      have : opn s j = 0 := by unfold opn; rw [if_neg (by omega), if_neg (by omega)]
      rw [this]; grind
    · rw [if_neg z, if_neg (fun q => z q.symm)]; grind
  rw [smq_cong e, smq_mul, smq_add, smq_opn, smq_single (fun j => v j) (5 + i) 35, if_pos (by omega)]
  grind
theorem sgR_sq (x : Rat) : (sgR x = 1 ∧ ¬ x < 0) ∨ (sgR x = -1 ∧ x < 0) := by
  unfold sgR
  by_cases h : x < 0
  · rw [if_pos h]; exact Or.inr ⟨rfl, h⟩
  · rw [if_neg h]; exact Or.inl ⟨rfl, h⟩
def sgI (x : Rat) : Int := if x < 0 then -1 else 1
theorem sgI_c (x : Rat) : ((sgI x : Int) : Rat) = sgR x := by unfold sgI sgR; split <;> rfl
theorem sgI_v (x : Rat) : sgI x = 1 ∨ sgI x = -1 := by unfold sgI; split; exact Or.inr rfl; exact Or.inl rfl
section SYS2
variable {tl : Nat → Int} {nl n : Nat}
def rwL (tl : Nat → Int) (nl n : Nat) (bt : Int) (l : Nat) : I3 := rwI (lA tl nl n bt) (tl (5 + l)).toNat (tl (11 + l)).toNat
def rwc (a : I3) (m : Nat) : Int := match m with
  | 1 => a.1
  | 2 => a.2.1
  | 3 => a.2.2
  | _ => 0
theorem rwI_ng (l : List Int) (x y : Nat) : ng3 (rwI l x y) = rwI l y x := by
  unfold ng3 rwI
  simp only [Int.neg_sub]
theorem row_in (hN : NetL4 tl nl n) (hn3 : n ≤ 3) {bt : Int} {l : Nat} (hl : l < nl) (hb : (l : Int) ≠ bt) : InP (rA tl nl n bt) (rwL tl nl n bt l) := by
  obtain ⟨h1, h2, h3, h4, h5⟩ := hN l hl
  have hp : tl (5 + l) = 0 ∨ tl (5 + l) = 1 ∨ tl (5 + l) = 2 ∨ tl (5 + l) = 3 := by omega
  have hq : tl (11 + l) = 0 ∨ tl (11 + l) = 1 ∨ tl (11 + l) = 2 ∨ tl (11 + l) = 3 := by omega
  unfold rwL rA rwsI
  rcases hp with hp | hp | hp | hp <;> rcases hq with hq | hq | hq | hq <;> rw [hp, hq]
  · exact absurd (hp.trans hq.symm) h5
  · rw [show Nat.blt 0 (cnt tl bt 0 1 nl) = true from Nat.ble_eq_true_of_le (cnt_pos hb (Or.inl ⟨hp, hq⟩) nl hl)]
    exact Or.inl (List.mem_append.mpr (Or.inl (List.mem_singleton.mpr rfl)))
  · rw [show Nat.blt 0 (cnt tl bt 0 2 nl) = true from Nat.ble_eq_true_of_le (cnt_pos hb (Or.inl ⟨hp, hq⟩) nl hl)]
    exact Or.inl (List.mem_append.mpr (Or.inr (List.mem_append.mpr (Or.inl (List.mem_singleton.mpr rfl)))))
  · rw [show Nat.blt 0 (cnt tl bt 0 3 nl) = true from Nat.ble_eq_true_of_le (cnt_pos hb (Or.inl ⟨hp, hq⟩) nl hl)]
    exact Or.inl (List.mem_append.mpr (Or.inr (List.mem_append.mpr (Or.inr (List.mem_append.mpr (Or.inl (List.mem_singleton.mpr rfl)))))))
  · rw [show Nat.blt 0 (cnt tl bt 0 1 nl) = true from Nat.ble_eq_true_of_le (cnt_pos hb (Or.inr ⟨hp, hq⟩) nl hl)]
    exact Or.inr (by rw [rwI_ng]; exact List.mem_append.mpr (Or.inl (List.mem_singleton.mpr rfl)))
  · exact absurd (hp.trans hq.symm) h5
  · rw [show Nat.blt 0 (cnt tl bt 1 2 nl) = true from Nat.ble_eq_true_of_le (cnt_pos hb (Or.inl ⟨hp, hq⟩) nl hl)]
    exact Or.inl (List.mem_append.mpr (Or.inr (List.mem_append.mpr (Or.inr (List.mem_append.mpr (Or.inr (List.mem_append.mpr (Or.inl (List.mem_singleton.mpr rfl)))))))))
  · rw [show Nat.blt 0 (cnt tl bt 1 3 nl) = true from Nat.ble_eq_true_of_le (cnt_pos hb (Or.inl ⟨hp, hq⟩) nl hl)]
    exact Or.inl (List.mem_append.mpr (Or.inr (List.mem_append.mpr (Or.inr (List.mem_append.mpr (Or.inr (List.mem_append.mpr (Or.inr (List.mem_append.mpr (Or.inl (List.mem_singleton.mpr rfl)))))))))))
  · rw [show Nat.blt 0 (cnt tl bt 0 2 nl) = true from Nat.ble_eq_true_of_le (cnt_pos hb (Or.inr ⟨hp, hq⟩) nl hl)]
    exact Or.inr (by rw [rwI_ng]; exact List.mem_append.mpr (Or.inr (List.mem_append.mpr (Or.inl (List.mem_singleton.mpr rfl)))))
  · rw [show Nat.blt 0 (cnt tl bt 1 2 nl) = true from Nat.ble_eq_true_of_le (cnt_pos hb (Or.inr ⟨hp, hq⟩) nl hl)]
    exact Or.inr (by rw [rwI_ng]; exact List.mem_append.mpr (Or.inr (List.mem_append.mpr (Or.inr (List.mem_append.mpr (Or.inr (List.mem_append.mpr (Or.inl (List.mem_singleton.mpr rfl)))))))))
  · exact absurd (hp.trans hq.symm) h5
  · rw [show Nat.blt 0 (cnt tl bt 2 3 nl) = true from Nat.ble_eq_true_of_le (cnt_pos hb (Or.inl ⟨hp, hq⟩) nl hl)]
    exact Or.inl (List.mem_append.mpr (Or.inr (List.mem_append.mpr (Or.inr (List.mem_append.mpr (Or.inr (List.mem_append.mpr (Or.inr (List.mem_append.mpr (Or.inr (List.mem_singleton.mpr rfl)))))))))))
  · rw [show Nat.blt 0 (cnt tl bt 0 3 nl) = true from Nat.ble_eq_true_of_le (cnt_pos hb (Or.inr ⟨hp, hq⟩) nl hl)]
    exact Or.inr (by rw [rwI_ng]; exact List.mem_append.mpr (Or.inr (List.mem_append.mpr (Or.inr (List.mem_append.mpr (Or.inl (List.mem_singleton.mpr rfl)))))))
  · rw [show Nat.blt 0 (cnt tl bt 1 3 nl) = true from Nat.ble_eq_true_of_le (cnt_pos hb (Or.inr ⟨hp, hq⟩) nl hl)]
    exact Or.inr (by rw [rwI_ng]; exact List.mem_append.mpr (Or.inr (List.mem_append.mpr (Or.inr (List.mem_append.mpr (Or.inr (List.mem_append.mpr (Or.inr (List.mem_append.mpr (Or.inl (List.mem_singleton.mpr rfl)))))))))))
  · rw [show Nat.blt 0 (cnt tl bt 2 3 nl) = true from Nat.ble_eq_true_of_le (cnt_pos hb (Or.inr ⟨hp, hq⟩) nl hl)]
    exact Or.inr (by rw [rwI_ng]; exact List.mem_append.mpr (Or.inr (List.mem_append.mpr (Or.inr (List.mem_append.mpr (Or.inr (List.mem_append.mpr (Or.inr (List.mem_append.mpr (Or.inr (List.mem_singleton.mpr rfl)))))))))))
  · exact absurd (hp.trans hq.symm) h5

theorem row_le (hN : NetL4 tl nl n) (hn3 : n ≤ 3) {bt : Int} {l : Nat} (hl : l < nl) (hb : (l : Int) ≠ bt) (hr : rowsOK ((lA tl nl n bt).getD 0 0) (rA tl nl n bt) = true) (m : Nat) : (rwc (rwL tl nl n bt l) m).natAbs ≤ tA tl nl n bt := by
  have key : ∀ a ∈ rA tl nl n bt, a.1.natAbs ≤ tA tl nl n bt ∧ a.2.1.natAbs ≤ tA tl nl n bt ∧ a.2.2.natAbs ≤ tA tl nl n bt := fun a ha => by
    have := List.all_eq_true.mp hr a ha
    rw [Bool.and_eq_true, Bool.and_eq_true] at this
    exact ⟨Nat.le_of_ble_eq_true this.1, Nat.le_of_ble_eq_true this.2.1, Nat.le_of_ble_eq_true this.2.2⟩
  have h : (rwL tl nl n bt l).1.natAbs ≤ tA tl nl n bt ∧ (rwL tl nl n bt l).2.1.natAbs ≤ tA tl nl n bt ∧ (rwL tl nl n bt l).2.2.natAbs ≤ tA tl nl n bt := by
    rcases row_in hN hn3 hl hb with q | q
    · exact key _ q
    · have := key _ q
      unfold ng3 at this
      simp only [Int.natAbs_neg] at this
      exact this
  unfold rwc
  split
  · exact h.1
  · exact h.2.1
  · exact h.2.2
  · exact Nat.zero_le _
/-- the factors that are laid are whole over the net's denominator -/
theorem fac_t (hN : NetL4 tl nl n) (hn1 : 1 ≤ n) (hn3 : n ≤ 3) (h6 : nl ≤ 6) {bt : Int} (hC : CutOK tl nl bt n) {lo l m : Nat} (hl : l < nl) (hb : (l : Int) ≠ bt) (hm : m ≤ n) : ((tA tl nl n bt : Nat) : Rat) * facG tl bt nl n lo (n + 1) 0 (lo + 4 * l + m) = ((rwc (rwL tl nl n bt l) m : Int) : Rat) := by
  obtain ⟨-, e1, e2, e3, -⟩ := net_el hN hn1 hn3 h6 hC
  obtain ⟨h1, h2, h3, h4, h5⟩ := hN l hl
  have ht : ((tA tl nl n bt : Nat) : Rat) = (((lA tl nl n bt).getD 0 0 : Int) : Rat) := by
    show (((((lA tl nl n bt).getD 0 0).toNat : Nat) : Int) : Rat) = _
    rw [Int.toNat_of_nonneg (by omega)]
  unfold facG
  have d1 : (lo + 4 * l + m - lo) / 4 = l := by omega
  have d2 : (lo + 4 * l + m - lo) % 4 = m := by omega
  rw [d1, d2, ht]
  by_cases z : 1 ≤ m
  · rw [if_pos ⟨hl, hb, z, Or.inl (by omega)⟩]
    have a1 := e3 (m - 1) (by omega) _ h1 h2
    have a2 := e3 (m - 1) (by omega) _ h3 h4
    rw [show (((lA tl nl n bt).getD 0 0 : Int) : Rat) * (the tl bt nl n (m - 1) (tl (5 + l)) + -the tl bt nl n (m - 1) (tl (11 + l))) = (((lA tl nl n bt).getD 0 0 : Int) : Rat) * the tl bt nl n (m - 1) (tl (5 + l)) - (((lA tl nl n bt).getD 0 0 : Int) : Rat) * the tl bt nl n (m - 1) (tl (11 + l)) by grind, a1, a2, ← Rat.intCast_sub]
    have : m = 1 ∨ m = 2 ∨ m = 3 := by omega
    rcases this with rfl | rfl | rfl <;> rfl
  · obtain rfl : m = 0 := by omega
    rw [if_neg (by omega), Rat.mul_zero]
    rfl
theorem facG_z {bt : Int} {lo l m : Nat} (hm4 : m < 4) (h : ¬ (l < nl ∧ (l : Int) ≠ bt ∧ 1 ≤ m ∧ m ≤ n)) : facG tl bt nl n lo (n + 1) 0 (lo + 4 * l + m) = 0 := by
  unfold facG
  have d1 : (lo + 4 * l + m - lo) / 4 = l := by omega
  have d2 : (lo + 4 * l + m - lo) % 4 = m := by omega
  rw [d1, d2, if_neg (by omega)]
theorem facG_b (hN : NetL4 tl nl n) (hn1 : 1 ≤ n) (hn3 : n ≤ 3) (h6 : nl ≤ 6) {bt : Int} (hC : CutOK tl nl bt n) {lo j : Nat} (hj : lo ≤ j) : IsI (((tA tl nl n bt : Nat) : Rat) * facG tl bt nl n lo (n + 1) 0 j) ∧ Ab 1 (facG tl bt nl n lo (n + 1) 0 j) := by
  obtain ⟨-, e1, e2, -, e4⟩ := net_el hN hn1 hn3 h6 hC
  have ej : j = lo + 4 * ((j - lo) / 4) + (j - lo) % 4 := by omega
  by_cases z : (j - lo) / 4 < nl ∧ (((j - lo) / 4 : Nat) : Int) ≠ bt ∧ 1 ≤ (j - lo) % 4 ∧ (j - lo) % 4 ≤ n
  · have e := fac_t (lo := lo) hN hn1 hn3 h6 hC z.1 z.2.1 z.2.2.2
    rw [← ej] at e
    refine ⟨by rw [e]; exact IsI.int _, ?_⟩
    have hb := row_le hN hn3 z.1 z.2.1 e4 ((j - lo) % 4)
    have ht : 0 < tA tl nl n bt := by unfold tA; omega
    have ha : Ab ((tA tl nl n bt : Nat) : Rat) (((tA tl nl n bt : Nat) : Rat) * facG tl bt nl n lo (n + 1) 0 j) := by rw [e]; exact Ab.int hb
    have hq : (0 : Rat) < ((tA tl nl n bt : Nat) : Rat) := nat_q ht
    generalize ((tA tl nl n bt : Nat) : Rat) = t at *
    generalize facG tl bt nl n lo (n + 1) 0 j = y at *
    obtain ⟨a1, a2⟩ := ha
    have ti : 0 < t⁻¹ := Rat.inv_pos.mpr hq
    have tt : t * t⁻¹ = 1 := Rat.mul_inv_cancel t (by grind)
    constructor
    · have := Rat.mul_le_mul_of_nonneg_right a1 (Rat.le_of_lt ti)
      rw [show t * y * t⁻¹ = y * (t * t⁻¹) by grind, tt, show -t * t⁻¹ = -(t * t⁻¹) by grind, tt] at this
      grind
    · have := Rat.mul_le_mul_of_nonneg_right a2 (Rat.le_of_lt ti)
      rw [show t * y * t⁻¹ = y * (t * t⁻¹) by grind, tt] at this
      grind
  · rw [ej, facG_z (by omega) z, Rat.mul_zero]
    exact ⟨IsI.zero, by decide, by decide⟩
/-- what the rows stand for -/
def btO (ou : Int) (gr : Nat) : Int := if gr = 0 then -1 else ou
def tauF (tl : Nat → Int) (nl n ng : Nat) (ou : Int) (i : Nat) : Nat := if i < ng then 1 else match (fl ou nl)[i - ng]? with
  | some x => tA tl nl n (btO ou x.2.1)
  | none => 1
def FF (tl : Nat → Int) (nl n ng : Nat) (ou : Int) (S : Nat → RS9) (i m : Nat) : Int := if i < ng then 0 else match (fl ou nl)[i - ng]? with
  | some x => sgI (S i).2 * x.2.2 * rwc (rwL tl nl n (btO ou x.2.1) x.1) m
  | none => 0
/-- what is known when the rows have been laid -/
def Laid (tl dm lm em cp : Nat → Int) (nl n ng : Nat) (ou : Int) (fac : Nat → Rat) : Prop := NG tl nl n ou ∧ ng ≤ 5 ∧ (∀ g, g < ng → 0 ≤ tl (17 + g) ∧ tl (17 + g) ≤ (n : Int)) ∧ (∀ j, 0 ≤ dm j ∧ dm j ≤ 220) ∧ (∀ j, 0 ≤ lm j ∧ lm j ≤ 100001) ∧ (∀ j, 0 ≤ em j ∧ em j ≤ 100001) ∧ (∀ j, 0 ≤ cp j ∧ cp j ≤ 200) ∧ (∀ j, j < 24 → fac j = facG tl (-1) nl n 0 (n + 1) 0 j) ∧ (ou ≠ -1 → ∀ j, 24 ≤ j → j < 48 → fac j = facG tl ou nl n 24 (n + 1) 0 j)
theorem lam_ok {ou : Int} (h : NG tl nl n ou) : 0 < lamA tl nl n ou ∧ lamA tl nl n ou ≤ 256 ∧ tA tl nl n (-1) ∣ lamA tl nl n ou ∧ (ou ≠ -1 → tA tl nl n ou ∣ lamA tl nl n ou) ∧ 0 < tA tl nl n (-1) ∧ tA tl nl n (-1) ≤ 16 ∧ (ou ≠ -1 → 0 < tA tl nl n ou ∧ tA tl nl n ou ≤ 16) := by
  obtain ⟨hn1, hn3, h6, hN, hC, ho⟩ := h
  obtain ⟨-, a1, a2, -⟩ := net_el hN hn1 hn3 h6 hC
  have t1 : 0 < tA tl nl n (-1) ∧ tA tl nl n (-1) ≤ 16 := by unfold tA; omega
  unfold lamA
  by_cases z : ou = -1
  · rw [if_pos z]
    exact ⟨t1.1, by omega, Nat.dvd_refl _, fun q => absurd z q, t1.1, t1.2, fun q => absurd z q⟩
  · rw [if_neg z]
    obtain ⟨-, b1, b2, -⟩ := net_el hN hn1 hn3 h6 (ho.resolve_left z).2.2
    have t2 : 0 < tA tl nl n ou ∧ tA tl nl n ou ≤ 16 := by unfold tA; omega
    refine ⟨Nat.lcm_pos t1.1 t2.1, ?_, Nat.dvd_lcm_left _ _, fun _ => Nat.dvd_lcm_right _ _, t1.1, t1.2, fun _ => t2⟩
    have := Nat.le_of_dvd (Nat.mul_pos t1.1 t2.1) (Nat.lcm_dvd_mul (tA tl nl n (-1)) (tA tl nl n ou))
    have : tA tl nl n (-1) * tA tl nl n ou ≤ 16 * 16 := Nat.mul_le_mul t1.2 t2.2
    omega
theorem isI_dvd {a b : Nat} {q : Rat} (h : a ∣ b) (hq : IsI ((a : Rat) * q)) : IsI ((b : Rat) * q) := by
  obtain ⟨c, rfl⟩ := h
  rw [Rat.natCast_mul, show (a : Rat) * (c : Rat) * q = (c : Rat) * ((a : Rat) * q) by grind]
  exact (IsI.int (c : Int)).mul hq
theorem laid_F {dm lm em cp : Nat → Int} {ng : Nat} {ou : Int} {fac : Nat → Rat} (h : Laid tl dm lm em cp nl n ng ou fac) : (∀ j, j < 24 → IsI ((lamA tl nl n ou : Rat) * fac j) ∧ Ab 1 (fac j)) ∧ (ou ≠ -1 → ∀ j, 24 ≤ j → j < 48 → IsI ((lamA tl nl n ou : Rat) * fac j) ∧ Ab 1 (fac j)) := by
  obtain ⟨hG, -, -, -, -, -, -, f0, f1⟩ := h
  have hl := lam_ok hG
  obtain ⟨hn1, hn3, h6, hN, hC, ho⟩ := hG
  refine ⟨fun j hj => ?_, fun z j h1 h2 => ?_⟩
  · rw [f0 j hj]
    have := facG_b hN hn1 hn3 h6 hC (lo := 0) (j := j) (by omega)
    exact ⟨isI_dvd hl.2.2.1 this.1, this.2⟩
  · rw [f1 z j h1 h2]
    have := facG_b hN hn1 hn3 h6 (ho.resolve_left z).2.2 (lo := 24) (j := j) h1
    exact ⟨isI_dvd (hl.2.2.2.1 z) this.1, this.2⟩
end SYS2
