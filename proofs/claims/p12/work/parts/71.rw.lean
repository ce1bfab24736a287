/-! The reference's object (cell 124) and its arrays; what a method leaves alone; the tableau. -/
def RWT : List (Nat × Nat × Nat × Nat) := [(1, 125, 32, 46), (2, 126, 32, 46), (3, 127, 32, 39), (4, 128, 32, 39), (5, 129, 32, 390), (9, 130, 32, 700), (16, 131, 33, 48), (17, 132, 33, 48), (18, 133, 33, 12), (19, 134, 33, 12), (20, 135, 32, 4), (21, 136, 32, 6), (22, 137, 32, 6), (23, 138, 32, 5), (25, 139, 33, 1295), (26, 140, 33, 1295), (27, 141, 32, 30), (31, 142, 33, 5), (32, 143, 33, 5), (33, 144, 33, 4), (34, 145, 33, 4)]
def RW (hs : List CE) : Prop := shp hs 124 = some (9, 39) ∧ ∀ q ∈ RWT, rd hs 124 q.1 = .ref q.2.1 ∧ shp hs q.2.1 = some (q.2.2.1, q.2.2.2)
theorem RW.wr {hs : List CE} (h : RW hs) {k j : Nat} {v : Value} (hw : k ≠ 124 ∨ ∀ q ∈ RWT, q.1 ≠ j) : RW (wr hs k j v) := by
  refine ⟨by rw [shp_wr]; exact h.1, fun q hq => ⟨?_, by rw [shp_wr]; exact (h.2 q hq).2⟩⟩
  rw [rd_ne _ _ (by
    rcases hw with w | w
    · exact Or.inl (fun z => w z.symm)
    · exact Or.inr (w q hq))]
  exact (h.2 q hq).1
def FrS (W : Nat → Nat → Prop) (hs h2 : List CE) : Prop := h2.length = hs.length ∧ (∀ k, shp h2 k = shp hs k) ∧ ∀ k j, ¬ W k j → rd h2 k j = rd hs k j
theorem FrS.rf (W : Nat → Nat → Prop) (hs : List CE) : FrS W hs hs := ⟨rfl, fun _ => rfl, fun _ _ _ => rfl⟩
theorem FrS.tr {W : Nat → Nat → Prop} {a b c : List CE} (h1 : FrS W a b) (h2 : FrS W b c) : FrS W a c := ⟨h2.1.trans h1.1, fun k => (h2.2.1 k).trans (h1.2.1 k), fun k j hw => (h2.2.2 k j hw).trans (h1.2.2 k j hw)⟩
theorem FrS.wr {W : Nat → Nat → Prop} {hs h2 : List CE} (h : FrS W hs h2) {k j : Nat} (v : Value) (hw : W k j) : FrS W hs (wr h2 k j v) :=
  ⟨(wr_len _ _ _ _).trans h.1, fun k2 => (shp_wr _ _ _ _ _).trans (h.2.1 k2), fun k2 j2 hn => (rd_ne _ _ (by
    by_cases q1 : k2 = k
    · exact Or.inr (fun q2 => hn (by rw [q1, q2]; exact hw))
    · exact Or.inl q1)).trans (h.2.2 k2 j2 hn)⟩
theorem FrS.mono {W W2 : Nat → Nat → Prop} {hs h2 : List CE} (h : FrS W hs h2) (hw : ∀ k j, W k j → W2 k j) : FrS W2 hs h2 := ⟨h.1, h.2.1, fun k j hn => h.2.2 k j (fun q => hn (hw k j q))⟩
theorem RW.fr {W : Nat → Nat → Prop} {hs h2 : List CE} (h : RW hs) (f : FrS W hs h2) (hw : ∀ q ∈ RWT, ¬ W 124 q.1) : RW h2 :=
  ⟨(f.2.1 124).trans h.1, fun q hq => ⟨(f.2.2 124 q.1 (hw q hq)).trans (h.2 q hq).1, (f.2.1 _).trans (h.2 q hq).2⟩⟩
/-- what the tableau's methods write -/
def W1 (k j : Nat) : Prop := k = 139 ∨ k = 140 ∨ (k = 124 ∧ (j = 7 ∨ j = 8))
theorem W1_rw : ∀ q ∈ RWT, ¬ W1 124 q.1 := by
  intro q hq
  have : q.1 ≠ 7 ∧ q.1 ≠ 8 := by revert q; decide
  unfold W1
  omega
def TabR (hs : List CE) (T : Nat → Rat) : Prop := ∀ i : Nat, i < 1295 → ∃ t w : Int64, rd hs 139 i = .long t ∧ rd hs 140 i = .long w ∧ FR t w (T i)
theorem TabR.fr {hs h2 : List CE} {T : Nat → Rat} (h : TabR hs T) (f : ∀ k j, (k = 139 ∨ k = 140) → rd h2 k j = rd hs k j) : TabR h2 T := fun i hi => by
  obtain ⟨t, w, h1, h2', h3⟩ := h i hi
  exact ⟨t, w, (f 139 i (Or.inl rfl)).trans h1, (f 140 i (Or.inr rfl)).trans h2', h3⟩
def upQ (T : Nat → Rat) (i : Nat) (q : Rat) : Nat → Rat := fun j => if j = i then q else T j
theorem TabR.put {hs : List CE} {T : Nat → Rat} (h : TabR hs T) (hr : RW hs) {i : Nat} {t w : Int64} {q : Rat} (hq : FR t w q) : TabR (wr (wr hs 139 i (.long t)) 140 i (.long w)) (upQ T i q) := fun j hj => by
  have s1 := (hr.2 (25, 139, 33, 1295) (by decide)).2
  have s2 := (hr.2 (26, 140, 33, 1295) (by decide)).2
  have e1 : rd (wr (wr hs 139 i (.long t)) 140 i (.long w)) 139 j = if j = i then .long t else rd hs 139 j := by
    rw [rd_ne _ _ (Or.inl (by decide)), rd_if s1]
    by_cases z : j = i
    · rw [if_pos ⟨rfl, z⟩, if_pos z]
    · rw [if_neg (fun q => z q.2), if_neg z]
  have e2 : rd (wr (wr hs 139 i (.long t)) 140 i (.long w)) 140 j = if j = i then .long w else rd hs 140 j := by
    rw [rd_if (show shp (wr hs 139 i (.long t)) 140 = some (33, 1295) by rw [shp_wr]; exact s2), rd_ne _ _ (Or.inl (by decide))]
    by_cases z : j = i
    · rw [if_pos ⟨rfl, z⟩, if_pos z]
    · rw [if_neg (fun q => z q.2), if_neg z]
  rw [e1, e2]
  unfold upQ
  by_cases z : j = i
  · rw [if_pos z, if_pos z, if_pos z]
    exact ⟨t, w, rfl, rfl, hq⟩
  · rw [if_neg z, if_neg z, if_neg z]
    exact h j hj
theorem idx35 {r c : Int32} {R C : Nat} (hr : r.toInt = (R : Int)) (hc : c.toInt = (C : Int)) (h : 35 * R + C < 1295) : ((35 : Int32) * r + c).toInt = ((35 * R + C : Nat) : Int) := by
  have e0 : (35 : Int32).toInt = 35 := by decide
  have e1 : ((35 : Int32) * r).toInt = 35 * r.toInt := by rw [i_mul (by rw [e0, hr]; omega) (by rw [e0, hr]; omega), e0]
  rw [i_add (by rw [e1, hr, hc]; omega) (by rw [e1, hr, hc]; omega), e1, hr, hc]
  omega
