/-! What the tableau holds while its rows are laid. -/
def sgR (x : Rat) : Rat := if x < 0 then -1 else 1
abbrev RS9 : Type := (Nat → Rat) × Rat
def opn (s : RS9) (j : Nat) : Rat := if j < 5 then s.1 j else if j = 34 then s.2 else 0
def rowS (s : RS9) (i j : Nat) : Rat := sgR s.2 * (if j = 5 + i then 1 else opn s j)
def TIr (T : Nat → Rat) (bz : Nat → Int) (r : Nat) (S : Nat → RS9) (gd : Nat) (ct : Nat → Rat) : Prop :=
  (∀ i j, i < r → j < 35 → T (35 * i + j) = rowS (S i) i j) ∧ (∀ j, j < 35 → T (1050 + j) = -smq (fun i => if (S i).2 < 0 then rowS (S i) i j else 0) r) ∧
  (∀ j, j < 35 → T (1085 + j) = if j < gd then ct j else 0) ∧ (∀ k j, k < 5 → j < 35 → T (35 * (32 + k) + j) = if j = k ∧ k < gd then 1 else 0) ∧ (∀ i, i < r → bz i = if (S i).2 < 0 then 100 + (i : Int) else 5 + (i : Int))
/-- r rows are closed -/
def TI (T : Nat → Rat) (bz : Nat → Int) (r : Nat) (S : Nat → RS9) (gd : Nat) (ct : Nat → Rat) : Prop := TIr T bz r S gd ct ∧ ∀ i j, r ≤ i → i < 30 → j < 35 → T (35 * i + j) = 0
/-- one more is open -/
def TIo (T : Nat → Rat) (bz : Nat → Int) (r : Nat) (S : Nat → RS9) (gd : Nat) (ct : Nat → Rat) : Prop := TIr T bz r S gd ct ∧ (∀ j, j < 35 → T (35 * r + j) = opn (S r) j) ∧ ∀ i j, r < i → i < 30 → j < 35 → T (35 * i + j) = 0
theorem cls2_at {T : Nat → Rat} {r j : Nat} (hr : r < 29) (hj : j < 35) (tr : Bool) : cls2 T r tr false (35 * r + j) = (bif tr then -1 else 1) * (if j = 5 + r then 1 else T (35 * r + j)) := by
  unfold cls2
  show upQ _ (35 * r + (5 + r)) _ (35 * r + j) = _
  unfold upQ
  by_cases z : j = 5 + r
  · rw [if_pos (by omega), if_pos z]
    cases tr
    · show (1 : Rat) = 1 * 1; grind
    · show (-1 : Rat) = -1 * 1; grind
  · rw [if_neg (by omega), if_neg z]
    cases tr
    · show T (35 * r + j) = 1 * T (35 * r + j); grind
    · show ngT T r 35 (35 * r + j) = -1 * T (35 * r + j)
      unfold ngT
      rw [if_pos (by omega)]
      grind
theorem clsT_lo {T : Nat → Rat} {r i : Nat} {tr eq : Bool} (h : i < 1050) : clsT T r tr eq i = cls2 T r tr eq i := by
  unfold clsT
  cases hb : (tr || eq) with
  | true => show adT _ r 35 i = _; unfold adT; rw [if_neg (by omega)]
  | false => rfl
theorem clsT_hi {T : Nat → Rat} {r i : Nat} {tr eq : Bool} (hr : r < 29) (h : 1085 ≤ i) : clsT T r tr eq i = T i := by
  unfold clsT
  cases hb : (tr || eq) with
  | true => show adT _ r 35 i = _; unfold adT; rw [if_neg (by omega)]; exact cls2_g hr _ _ (Or.inr (by omega))
  | false => exact cls2_g hr _ _ (Or.inr (by omega))
theorem clsT_30 {T : Nat → Rat} {r j : Nat} {tr eq : Bool} (hr : r < 29) (hj : j < 35) : clsT T r tr eq (1050 + j) = bif tr || eq then T (1050 + j) + -cls2 T r tr eq (35 * r + j) else T (1050 + j) := by
  unfold clsT
  cases hb : (tr || eq) with
  | true => show adT _ r 35 (1050 + j) = _; unfold adT; rw [if_pos (by omega), cls2_g hr _ _ (Or.inr (by omega)), Nat.add_sub_cancel_left]; rfl
  | false => exact cls2_g hr _ _ (Or.inr (by omega))
theorem sgR_b {x : Rat} {tr : Bool} (h : tr = true ↔ x < 0) : (bif tr then (-1 : Rat) else 1) = sgR x := by
  unfold sgR
  cases tr with
  | true => rw [if_pos (h.mp rfl)]; rfl
  | false => rw [if_neg (fun z => by cases h.mpr z)]; rfl
theorem TIo.close {T : Nat → Rat} {bz : Nat → Int} {r gd : Nat} {S : Nat → RS9} {ct : Nat → Rat} (h : TIo T bz r S gd ct) (hr : r < 29) {tr : Bool} (htr : tr = true ↔ (S r).2 < 0) : TI (clsT T r tr false) (upI bz r (bif tr || false then 100 + (r : Int) else 5 + (r : Int))) (r + 1) S gd ct := by
  obtain ⟨⟨h1, h2, h3, h4, h5⟩, h6, h7⟩ := h
  have hrow : ∀ j, j < 35 → clsT T r tr false (35 * r + j) = rowS (S r) r j := fun j hj => by
    rw [clsT_lo (by omega), cls2_at hr hj, sgR_b htr, h6 j hj]
    rfl
  have hcond : (bif tr || false then (100 + (r : Int)) else 5 + (r : Int)) = if (S r).2 < 0 then 100 + (r : Int) else 5 + (r : Int) := by
    cases tr with
    | true => rw [if_pos (htr.mp rfl)]; rfl
    | false => rw [if_neg (fun z => by cases htr.mpr z)]; rfl
  refine ⟨⟨fun i j hi hj => ?_, fun j hj => ?_, fun j hj => ?_, fun k j hk hj => ?_, fun i hi => ?_⟩, fun i j hi h30 hj => ?_⟩
  · by_cases z : i = r
    · subst z; exact hrow j hj
    · rw [clsT_lo (by omega), cls2_g hr _ _ (by omega)]
      exact h1 i j (by omega) hj
  · rw [clsT_30 hr hj, h2 j hj]
    show _ = -(smq (fun i => if (S i).2 < 0 then rowS (S i) i j else 0) r + if (S r).2 < 0 then rowS (S r) r j else 0)
    have hr2 := hrow j hj
    rw [clsT_lo (by omega)] at hr2
    cases tr with
    | true =>
      rw [if_pos (htr.mp rfl)]
      show _ + -cls2 T r true false (35 * r + j) = _
      rw [hr2]
      grind
    | false =>
      rw [if_neg (fun z => by cases htr.mpr z)]
      show -smq _ r = _
      grind
  · rw [clsT_hi hr (by omega)]; exact h3 j hj
  · rw [clsT_hi hr (by omega)]; exact h4 k j hk hj
  · unfold upI
    by_cases z : i = r
    · subst z; rw [if_pos rfl]; exact hcond
    · rw [if_neg z]; exact h5 i (by omega)
  · rw [clsT_lo (by omega), cls2_g hr _ _ (by omega)]
    exact h7 i j (by omega) h30 hj
/-- all rows, the last one an equation -/
def TIf (T : Nat → Rat) (bz : Nat → Int) (r : Nat) (S : Nat → RS9) (gd : Nat) (ct : Nat → Rat) : Prop :=
  (∀ i j, i < r → j < 35 → T (35 * i + j) = rowS (S i) i j) ∧ (∀ j, j < 35 → T (35 * r + j) = opn (S r) j) ∧ (∀ j, j < 35 → T (1050 + j) = -(smq (fun i => if (S i).2 < 0 then rowS (S i) i j else 0) r + opn (S r) j)) ∧
  (∀ j, j < 35 → T (1085 + j) = if j < gd then ct j else 0) ∧ (∀ k j, k < 5 → j < 35 → T (35 * (32 + k) + j) = if j = k ∧ k < gd then 1 else 0) ∧ (∀ i, i < r → bz i = if (S i).2 < 0 then 100 + (i : Int) else 5 + (i : Int)) ∧ bz r = 100 + (r : Int)
theorem TIo.last {T : Nat → Rat} {bz : Nat → Int} {r gd : Nat} {S : Nat → RS9} {ct : Nat → Rat} (h : TIo T bz r S gd ct) (hr : r < 29) : TIf (clsT T r false true) (upI bz r (bif false || true then 100 + (r : Int) else 5 + (r : Int))) r S gd ct := by
  obtain ⟨⟨h1, h2, h3, h4, h5⟩, h6, h7⟩ := h
  refine ⟨fun i j hi hj => ?_, fun j hj => ?_, fun j hj => ?_, fun j hj => ?_, fun k j hk hj => ?_, fun i hi => ?_, ?_⟩
  · rw [clsT_lo (by omega)]; exact h1 i j hi hj
  · rw [clsT_lo (by omega)]; exact h6 j hj
  · rw [clsT_30 hr hj, h2 j hj]
    show _ + -T (35 * r + j) = _
    rw [h6 j hj]
    grind
  · rw [clsT_hi hr (by omega)]; exact h3 j hj
  · rw [clsT_hi hr (by omega)]; exact h4 k j hk hj
  · unfold upI; rw [if_neg (by omega)]; exact h5 i hi
  · unfold upI; rw [if_pos rfl]; rfl
theorem TIr.cong {T : Nat → Rat} {bz : Nat → Int} {r gd : Nat} {S S' : Nat → RS9} {ct : Nat → Rat} (h : TIr T bz r S gd ct) (e : ∀ i, i < r → S i = S' i) : TIr T bz r S' gd ct := by
  obtain ⟨h1, h2, h3, h4, h5⟩ := h
  refine ⟨fun i j hi hj => ?_, fun j hj => ?_, h3, h4, fun i hi => ?_⟩
  · rw [← e i hi]; exact h1 i j hi hj
  · rw [h2 j hj]
    refine congrArg (fun z => -z) (smq_cong (fun i hi => ?_))
    rw [e i hi]
  · rw [← e i hi]; exact h5 i hi
theorem TI.cong {T : Nat → Rat} {bz : Nat → Int} {r gd : Nat} {S S' : Nat → RS9} {ct : Nat → Rat} (h : TI T bz r S gd ct) (e : ∀ i, i < r → S i = S' i) : TI T bz r S' gd ct := ⟨h.1.cong e, h.2⟩
/-- a tableau whose open row is written -/
theorem TI.opens {T T' : Nat → Rat} {bz : Nat → Int} {r gd gd' : Nat} {S : Nat → RS9} {ct : Nat → Rat} (h : TI T bz r S gd ct) (hr : r < 29) (h1 : ∀ j, j < 35 → T' (35 * r + j) = opn (S r) j) (h2 : ∀ i, i < 1085 → i / 35 ≠ r → T' i = T i) (h3 : ∀ j, j < 35 → T' (1085 + j) = if j < gd' then ct j else 0) (h4 : ∀ k j, k < 5 → j < 35 → T' (35 * (32 + k) + j) = if j = k ∧ k < gd' then 1 else 0) : TIo T' bz r S gd' ct := by
  obtain ⟨⟨q1, q2, q3, q4, q5⟩, q6⟩ := h
  refine ⟨⟨fun i j hi hj => ?_, fun j hj => ?_, h3, h4, q5⟩, h1, fun i j hi h30 hj => ?_⟩
  · rw [h2 _ (by omega) (by omega)]; exact q1 i j hi hj
  · rw [h2 _ (by omega) (by omega)]; exact q2 j hj
  · rw [h2 _ (by omega) (by omega)]; exact q6 i j (by omega) h30 hj
/-- the same where the goals stay -/
theorem TI.opens2 {T T' : Nat → Rat} {bz : Nat → Int} {r gd : Nat} {S : Nat → RS9} {ct : Nat → Rat} (h : TI T bz r S gd ct) (hr : r < 29) (h1 : ∀ j, j < 35 → T' (35 * r + j) = opn (S r) j) (h2 : ∀ i, i < 1295 → i / 35 ≠ r → T' i = T i) : TIo T' bz r S gd ct :=
  h.opens hr h1 (fun i hi => h2 i (by omega)) (fun j hj => by rw [h2 _ (by omega) (by omega)]; exact h.1.2.2.1 j hj) (fun k j hk hj => by rw [h2 _ (by omega) (by omega)]; exact h.1.2.2.2.1 k j hk hj)
/-- the sides and the goals' numbers are small -/
def SmS (lam : Nat) (s : RS9) : Prop := (∀ g, g < 5 → IsI ((lam : Rat) * s.1 g) ∧ Ab 1 (s.1 g)) ∧ IsI ((lam : Rat) * s.2) ∧ Ab 101000 s.2 ∧ (s.2 < 0 → Ab 1000 s.2)
theorem sml_of {lam X : Nat} {q : Rat} (h0 : 0 < lam) (hl : lam ≤ 256) (h1 : IsI ((lam : Rat) * q)) (h2 : Ab ((X : Nat) : Rat) q) (hX : X ≤ 1000000) : Sml q := by
  have a := den_le h0 h1
  have b := num_le h0 h1 h2
  have c : X * lam ≤ 1000000 * 256 := Nat.mul_le_mul hX hl
  exact ⟨by omega, by omega⟩
theorem opn_sm {lam : Nat} {s : RS9} (h0 : 0 < lam) (hl : lam ≤ 256) (h : SmS lam s) (j : Nat) : Sml (opn s j) := by
  unfold opn
  split
  · exact sml_of (X := 1) h0 hl (h.1 j (by omega)).1 (h.1 j (by omega)).2 (by decide)
  · split
    · exact sml_of (X := 101000) h0 hl h.2.1 h.2.2.1 (by decide)
    · exact sml0
theorem rowS_I {lam : Nat} {s : RS9} (h : SmS lam s) (i j : Nat) : IsI ((lam : Rat) * rowS s i j) := by
  have hs : IsI (sgR s.2) := by unfold sgR; split; exact IsI.int (-1); exact IsI.int 1
  unfold rowS
  rw [show (lam : Rat) * (sgR s.2 * (if j = 5 + i then 1 else opn s j)) = sgR s.2 * ((lam : Rat) * (if j = 5 + i then 1 else opn s j)) by grind]
  refine hs.mul ?_
  split
  · exact (IsI.int (lam : Int)).mul IsI.one
  · unfold opn
    split
    · exact (h.1 j (by omega)).1
    · split
      · exact h.2.1
      · rw [Rat.mul_zero]; exact IsI.zero
theorem rowS_ab {lam : Nat} {s : RS9} (h : SmS lam s) (hn : s.2 < 0) (i j : Nat) : Ab 1000 (rowS s i j) := by
  have h1 : Ab 1000 (if j = 5 + i then (1 : Rat) else opn s j) := by
    split
    · exact ⟨by decide, by decide⟩
    · unfold opn
      split
      · exact (h.1 j (by omega)).2.le (by decide)
      · split
        · exact h.2.2.2 hn
        · exact ⟨by decide, by decide⟩
  unfold rowS sgR
  rw [if_pos hn]
  have := h1.neg
  rw [show -1 * (if j = 5 + i then (1 : Rat) else opn s j) = -(if j = 5 + i then (1 : Rat) else opn s j) by grind]
  exact this
theorem gol_sm {lam r : Nat} {S : Nat → RS9} {T : Nat → Rat} {bz : Nat → Int} {gd : Nat} {ct : Nat → Rat} (h0 : 0 < lam) (hl : lam ≤ 256) (hr : r ≤ 29) (hS : ∀ i, i < r → SmS lam (S i)) (h : TIr T bz r S gd ct) : ∀ j, j < 35 → Sml (T (1050 + j)) := fun j hj => by
  rw [h.2.1 j hj]
  have hI : IsI ((lam : Rat) * -smq (fun i => if (S i).2 < 0 then rowS (S i) i j else 0) r) := by
    rw [Rat.mul_neg, ← smq_mul]
    refine (IsI.sm (fun i hi => ?_)).neg
    split
    · exact rowS_I (hS i hi) i j
    · rw [Rat.mul_zero]; exact IsI.zero
  have hA : Ab ((r : Rat) * 1000) (smq (fun i => if (S i).2 < 0 then rowS (S i) i j else 0) r) := Ab.sm (fun i hi => by
    split
    · next q => exact rowS_ab (hS i hi) q i j
    · exact ⟨by decide, by decide⟩)
  have hA : Ab (((r * 1000 : Nat)) : Rat) (-smq (fun i => if (S i).2 < 0 then rowS (S i) i j else 0) r) := by
    rw [Rat.natCast_mul]
    exact hA.neg
  exact sml_of h0 hl hI hA (by omega)
