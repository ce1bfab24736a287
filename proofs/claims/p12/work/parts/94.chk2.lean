/-! The checker: typed cells, bounds, entailment, linear forms. -/
def HTy (K : KX) (R : List Nat) (hs : List CE) : Prop :=
  R.length = hs.length ∧ (∀ k r : Nat, R[k]? = some r → r ≠ 0 → shp hs k = some (kdK K r, lnK K r) ∧ ∀ j, j < lnK K r → VT K R (ftK K r j) (rd hs k j)) ∧
  ∀ q ∈ K.2.2, q.1 ≠ 0 ∧ R[q.2.1]? = some q.1 ∧ ∀ k : Nat, R[k]? = some q.1 → k = q.2.1
/-- what roles from 400 on hold -/
def StI (K : KX) (Inv : List Nat → List CE → Prop) : Prop := ∀ (R : List Nat) (hs : List CE) (R' : List Nat) (hs' : List CE), Inv R hs → (∀ k r : Nat, R[k]? = some r → r ≠ 0 → R'[k]? = some r) → (∀ k r : Nat, R[k]? = some r → 400 ≤ r → hs'[k]? = hs[k]?) → (∀ k r : Nat, r = 5 ∨ 400 ≤ r → R'[k]? = some r → R[k]? = some r) → (∀ k r j : Nat, R[k]? = some r → r ≠ 0 → j < lnK K r → 6 ≤ (ftK K r j).1 → rd hs' k j = rd hs k j ∨ ((ftK K r j).1 = 8 ∧ ∃ x : Int32, rd hs' k j = .int x ∧ 1 ≤ x.toInt)) → Inv R' hs'
def HX (K : KX) (Inv : List Nat → List CE → Prop) (R0 : List Nat) (hs0 : List CE) (R : List Nat) (hs : List CE) : Prop :=
  HTy K R hs ∧ (∀ k r : Nat, R0[k]? = some r → R[k]? = some r) ∧ (∀ k r : Nat, R0[k]? = some r → froz r = true → hs[k]? = hs0[k]?) ∧ Inv R hs
theorem wr_ne {hs : List CE} {k k' j : Nat} {v : Value} (h : k ≠ k') : (wr hs k j v)[k']? = hs[k']? := by
  unfold wr
  split
  · rw [List.getElem?_set_ne h]
  · rfl
theorem shp_app {hs : List CE} {c : CE} {k : Nat} (h : k < hs.length) : shp (hs ++ [c]) k = shp hs k := by
  unfold shp
  rw [List.getElem?_append_left h]
theorem rd_app {hs : List CE} {c : CE} {k j : Nat} (h : k < hs.length) : rd (hs ++ [c]) k j = rd hs k j := by
  unfold rd
  rw [List.getElem?_append_left h]
theorem HTy.wr {K : KX} {R : List Nat} {hs : List CE} (h : HTy K R hs) {k r j : Nat} {v : Value} (hk : R[k]? = some r) (hr : r ≠ 0) (hv : VT K R (ftK K r j) v) : HTy K R (wr hs k j v) := by
  refine ⟨by rw [wr_len]; exact h.1, fun k' r' hk' hr' => ?_, h.2.2⟩
  obtain ⟨q1, q2⟩ := h.2.1 k' r' hk' hr'
  refine ⟨by rw [shp_wr]; exact q1, fun j' hj' => ?_⟩
  rw [rd_if (h.2.1 k r hk hr).1]
  split
  · rename_i q
    obtain ⟨rfl, rfl⟩ := q
    rw [hk] at hk'
    cases hk'
    exact hv
  · exact q2 j' hj'
theorem HX.wr {K : KX} {Inv : List Nat → List CE → Prop} {R0 : List Nat} {hs0 : List CE} {R : List Nat} {hs : List CE} (hI : StI K Inv) (h : HX K Inv R0 hs0 R hs) {k r j : Nat} {v : Value} (hk : R[k]? = some r) (hr : r ≠ 0) (h4 : r < 400) (hv : VW K R (ftK K r j) v) : HX K Inv R0 hs0 R (wr hs k j v) := by
  obtain ⟨q1, q2, q3, q4⟩ := h
  have hne : ∀ k' r' : Nat, R[k']? = some r' → r' ≠ r → k ≠ k' := fun k' r' h1 h2 q => by subst q; rw [hk] at h1; cases h1; exact h2 rfl
  refine ⟨q1.wr hk hr hv.1, q2, fun k' r' h1 h2 => ?_, hI R hs R _ q4 (fun _ _ h _ => h) (fun k' r' h1 h2 => wr_ne (hne k' r' h1 (by omega))) (fun _ _ _ h => h) (fun k' r' j' h1 h2 h5 h6 => ?_)⟩
  rotate_left
  · rw [rd_if (q1.2.1 k r hk hr).1]
    split
    · rename_i q
      obtain ⟨rfl, rfl⟩ := q
      rw [hk] at h1
      cases h1
      refine Or.inr (hv.2.resolve_left (by omega))
    · exact Or.inl rfl
  have : r' ≠ r := by
    intro q
    subst q
    unfold froz at h2
    cases h3 : Nat.beq r' 0 with
    | true => exact hr (Nat.eq_of_beq_eq_true h3)
    | false =>
      rw [h3] at h2
      have := Nat.le_of_ble_eq_true h2
      omega
  rw [wr_ne (hne k' r' (q2 _ _ h1) this)]
  exact q3 k' r' h1 h2
theorem HTy.app0 {K : KX} {R : List Nat} {hs : List CE} (h : HTy K R hs) (c : CE) : HTy K (R ++ [0]) (hs ++ [c]) := by
  have ha : ∀ k r : Nat, R[k]? = some r → (R ++ [0])[k]? = some r := fun k r h => by
    rw [List.getElem?_append_left (List.getElem?_eq_some_iff.mp h).1]; exact h
  have hb : ∀ k r : Nat, (R ++ [0])[k]? = some r → r ≠ 0 → R[k]? = some r := fun k r h1 h2 => by
    rcases Nat.lt_trichotomy k R.length with q | q | q
    · rwa [List.getElem?_append_left q] at h1
    · subst q
      rw [List.getElem?_append_right (Nat.le_refl _), Nat.sub_self] at h1
      cases h1
      exact absurd rfl h2
    · rw [List.getElem?_eq_none (by rw [List.length_append]; exact q)] at h1
      cases h1
  refine ⟨by rw [List.length_append, List.length_append, h.1]; rfl, fun k r h1 h2 => ?_, fun q hq => ?_⟩
  · have h3 := hb k r h1 h2
    have h4 : k < hs.length := by rw [← h.1]; exact (List.getElem?_eq_some_iff.mp h3).1
    obtain ⟨q1, q2⟩ := h.2.1 k r h3 h2
    refine ⟨by rw [shp_app h4]; exact q1, fun j hj => ?_⟩
    rw [rd_app h4]
    exact (q2 j hj).mono (fun k r h _ => ha k r h)
  · obtain ⟨w1, w2, w3⟩ := h.2.2 q hq
    exact ⟨w1, ha _ _ w2, fun k hk => w3 k (hb k _ hk w1)⟩
theorem HX.app0 {K : KX} {Inv : List Nat → List CE → Prop} {R0 : List Nat} {hs0 : List CE} {R : List Nat} {hs : List CE} (hI : StI K Inv) (h : HX K Inv R0 hs0 R hs) (c : CE) : HX K Inv R0 hs0 (R ++ [0]) (hs ++ [c]) := by
  obtain ⟨q1, q2, q3, q4⟩ := h
  have ha : ∀ k r : Nat, R[k]? = some r → (R ++ [0])[k]? = some r := fun k r h => by
    rw [List.getElem?_append_left (List.getElem?_eq_some_iff.mp h).1]; exact h
  have hb : ∀ k r : Nat, R[k]? = some r → (hs ++ [c])[k]? = hs[k]? := fun k r h => by
    rw [List.getElem?_append_left (by rw [← q1.1]; exact (List.getElem?_eq_some_iff.mp h).1)]
  refine ⟨q1.app0 c, fun k r h => ha _ _ (q2 k r h), fun k r h1 h2 => (hb k r (q2 _ _ h1)).trans (q3 k r h1 h2), hI R hs _ _ q4 (fun k r h _ => ha k r h) (fun k r h _ => hb k r h) (fun k r9 hr9 h => ?_) (fun k r j h _ _ _ => Or.inl (by unfold rd; rw [hb k r h]))⟩
  rcases Nat.lt_trichotomy k R.length with q | q | q
  · rwa [List.getElem?_append_left q] at h
  · subst q
    rw [List.getElem?_append_right (Nat.le_refl _), Nat.sub_self] at h
    cases h
    exact absurd hr9 (by decide)
  · rw [List.getElem?_eq_none (by rw [List.length_append]; exact q)] at h
    cases h
theorem SBx.app0 {K : KX} {R : List Nat} {hs : List CE} (h : HTy K R hs) (c : CE) : SBx R hs (R ++ [0]) (hs ++ [c]) :=
  ⟨fun k r h => by rw [List.getElem?_append_left (List.getElem?_eq_some_iff.mp h).1]; exact h, fun k hk => List.getElem?_append_left (by rw [← h.1]; exact (List.getElem?_eq_some_iff.mp hk).1)⟩
theorem SBx.wr {R : List Nat} {hs : List CE} {k r j : Nat} {v : Value} (hk : R[k]? = some r) (hr : r ≠ 0) : SBx R hs R (wr hs k j v) := ⟨fun _ _ h => h, fun k' h' => wr_ne (fun z => by subst z; rw [hk] at h'; cases h'; exact hr rfl)⟩
/-- a register is written, read -/
def upR : List (Nat × Nat × Nat) → List AV → Nat → Nat → AV → List AV
  | q :: qs, b :: bs, r, j, a => (bif Nat.beq q.1 r && Nat.beq q.2.2 j then a else b) :: upR qs bs r j a
  | _, _, _, _, _ => []
def gtR : List (Nat × Nat × Nat) → List AV → Nat → Nat → Option AV
  | q :: qs, b :: bs, r, j => bif Nat.beq q.1 r && Nat.beq q.2.2 j then some b else gtR qs bs r j
  | _, _, _, _ => none
theorem upR_t {r j : Nat} {a : AV} : ∀ {qs : List (Nat × Nat × Nat)} {bs : List AV} {i : Nat} {q : Nat × Nat × Nat} {b : AV}, qs[i]? = some q → (upR qs bs r j a)[i]? = some b → (q.1 = r ∧ q.2.2 = j ∧ b = a) ∨ (¬ (q.1 = r ∧ q.2.2 = j) ∧ bs[i]? = some b)
  | [], _, _, _, _, h, _ => by cases h
  | _ :: _, [], _, _, _, _, h => by cases h
  | q0 :: qs, b0 :: bs, 0, q, b, h1, h2 => by
    have h1 : q = q0 := (Option.some.inj h1).symm
    subst h1
    have h2 : some (bif Nat.beq q.1 r && Nat.beq q.2.2 j then a else b0) = some b := h2
    cases h : Nat.beq q.1 r && Nat.beq q.2.2 j with
    | true =>
      rw [h] at h2
      cases h2
      rw [Bool.and_eq_true] at h
      exact Or.inl ⟨Nat.eq_of_beq_eq_true h.1, Nat.eq_of_beq_eq_true h.2, rfl⟩
    | false =>
      rw [h] at h2
      cases h2
      refine Or.inr ⟨fun ⟨e1, e2⟩ => ?_, rfl⟩
      subst e1
      subst e2
      rw [Nat.beq_refl, Nat.beq_refl] at h
      cases h
  | _ :: qs, _ :: bs, i + 1, q, b, h1, h2 => upR_t (qs := qs) (bs := bs) (i := i) h1 h2
theorem gtR_t {r j : Nat} {a : AV} : ∀ {qs : List (Nat × Nat × Nat)} {bs : List AV}, gtR qs bs r j = some a → ∃ (i : Nat) (q : Nat × Nat × Nat), qs[i]? = some q ∧ bs[i]? = some a ∧ q.1 = r ∧ q.2.2 = j
  | [], _, h => by cases h
  | _ :: _, [], h => by cases h
  | q0 :: qs, b0 :: bs, h => by
    have h : (bif Nat.beq q0.1 r && Nat.beq q0.2.2 j then some b0 else gtR qs bs r j) = some a := h
    cases h3 : Nat.beq q0.1 r && Nat.beq q0.2.2 j with
    | true =>
      rw [h3] at h
      cases h
      rw [Bool.and_eq_true] at h3
      exact ⟨0, q0, rfl, rfl, Nat.eq_of_beq_eq_true h3.1, Nat.eq_of_beq_eq_true h3.2⟩
    | false =>
      rw [h3] at h
      obtain ⟨i, q, w1, w2, w3⟩ := gtR_t (qs := qs) (bs := bs) h
      exact ⟨i + 1, q, w1, w2, w3⟩
/-- groups -/
def subG (K : KX) (g g' : Nat) : Bool := Nat.beq g g' || (Nat.blt g 1000 && inG K g' g)
theorem subG_t {K : KX} {g g' r : Nat} (h : subG K g g' = true) (hr : inG K g r = true) : inG K g' r = true := by
  unfold subG at h
  rw [Bool.or_eq_true] at h
  rcases h with h | h
  · rw [← Nat.eq_of_beq_eq_true h]; exact hr
  · rw [Bool.and_eq_true] at h
    have h1 : g + 1 ≤ 1000 := Nat.le_of_ble_eq_true h.1
    have h2 : Nat.ble 1000 g = false := by
      cases hb : Nat.ble 1000 g with
      | true => have := Nat.le_of_ble_eq_true hb; omega
      | false => rfl
    unfold inG at hr
    rw [h2] at hr
    have hr : Nat.beq g r = true := hr
    rw [← Nat.eq_of_beq_eq_true hr]
    exact h.2
theorem ofG.sub {K : KX} {R : List Nat} {g g' : Nat} {v : Value} (h : ofG K R g v) (hg : subG K g g' = true) : ofG K R g' v := by
  obtain ⟨k, r, h1, h2, h3, h4⟩ := h
  exact ⟨k, r, h1, h2, h3, subG_t hg h4⟩
theorem ofG.one {K : KX} {R : List Nat} {g : Nat} {v : Value} (h : ofG K R g v) (hg : Nat.blt g 1000 = true) : ∃ k : Nat, v = .ref k ∧ R[k]? = some g ∧ g ≠ 0 := by
  obtain ⟨k, r, h1, h2, h3, h4⟩ := h
  have h5 : g + 1 ≤ 1000 := Nat.le_of_ble_eq_true hg
  have h6 : Nat.ble 1000 g = false := by
    cases hb : Nat.ble 1000 g with
    | true => have := Nat.le_of_ble_eq_true hb; omega
    | false => rfl
  unfold inG at h4
  rw [h6] at h4
  have h4 : Nat.beq g r = true := h4
  have := Nat.eq_of_beq_eq_true h4
  subst this
  exact ⟨k, h1, h2, h3⟩
/-- a value fits a place -/
def tyA (K : KX) (E : List EV) (a : AV) (t : FT) : Bool :=
  Nat.beq t.1 0 || (Nat.beq t.1 1 && Nat.beq a.1 1 && decide (t.2.2.1 ≤ (evg E a.2.1).1 + a.2.2.2) && decide ((evg E a.2.1).2.1 + a.2.2.2 ≤ t.2.2.2)) ||
  (Nat.beq t.1 2 && Nat.beq a.1 2 && decide (t.2.2.1 ≤ (evg E a.2.1).1) && decide ((evg E a.2.1).2.1 ≤ t.2.2.2) && (!(Nat.beq t.2.1 1) || ((evg E a.2.1).2.2 || (decide (0 < (evg E a.2.1).1) || decide ((evg E a.2.1).2.1 < 0))))) || (Nat.beq t.1 3 && Nat.beq a.1 3 && subG K a.2.1 t.2.1) ||
  (Nat.beq t.1 4 && (Nat.beq a.1 5 || ((Nat.beq a.1 3 || Nat.beq a.1 4) && subG K a.2.1 t.2.1))) ||
  (Nat.beq t.1 8 && Nat.beq a.1 1 && decide (t.2.2.1 ≤ (evg E a.2.1).1 + a.2.2.2) && decide ((evg E a.2.1).2.1 + a.2.2.2 ≤ t.2.2.2) && decide (1 ≤ (evg E a.2.1).1 + a.2.2.2))
theorem tyA_t {K : KX} {n0 : Nat} {hs : List CE} {R : List Nat} {E : List EV} {σ : Nat → Int} {a : AV} {t : FT} {v : Value} (hE : EM E σ) (h : tyA K E a t = true) (hv : VM K n0 hs R E.length σ a v) : VW K R t v := by
  unfold tyA at h
  simp only [Bool.or_eq_true, Bool.and_eq_true, decide_eq_true_eq] at h
  rcases h with ((((h | h) | h) | h) | h) | h
  · exact vw_of (Or.inl (Nat.eq_of_beq_eq_true h)) (by rw [Nat.eq_of_beq_eq_true h]; decide)
  · obtain ⟨⟨⟨h1, h2⟩, h3⟩, h4⟩ := h
    obtain ⟨x, rfl, w1, w2⟩ := hv.int (Nat.eq_of_beq_eq_true h2)
    have := hE _ w1
    exact vw_of (Or.inr (Or.inl ⟨Nat.eq_of_beq_eq_true h1, x, rfl, by omega, by omega⟩)) (by rw [Nat.eq_of_beq_eq_true h1]; decide)
  · obtain ⟨⟨⟨⟨h1, h2⟩, h3⟩, h4⟩, h5⟩ := h
    obtain ⟨x, rfl, w1, w2⟩ := hv.lng (Nat.eq_of_beq_eq_true h2)
    have := hE _ w1
    refine vw_of (Or.inr (Or.inr (Or.inl ⟨Nat.eq_of_beq_eq_true h1, x, rfl, by omega, by omega, fun z => ?_⟩))) (by rw [Nat.eq_of_beq_eq_true h1]; decide)
    rw [z] at h5
    rcases h5 with h5 | h5 | h5 | h5
    · exact absurd h5 (by decide)
    · have := this.2.2 h5
      omega
    · omega
    · omega
  · obtain ⟨⟨h1, h2⟩, h3⟩ := h
    exact vw_of (Or.inr (Or.inr (Or.inr (Or.inl ⟨Nat.eq_of_beq_eq_true h1, (hv.rf3 (Nat.eq_of_beq_eq_true h2)).sub h3⟩)))) (by rw [Nat.eq_of_beq_eq_true h1]; decide)
  · obtain ⟨h1, h2⟩ := h
    refine vw_of (Or.inr (Or.inr (Or.inr (Or.inr (Or.inl ⟨Nat.eq_of_beq_eq_true h1, ?_⟩))))) (by rw [Nat.eq_of_beq_eq_true h1]; decide)
    rcases h2 with h2 | ⟨h2 | h2, h3⟩
    · exact Or.inl (hv.nul (Nat.eq_of_beq_eq_true h2))
    · exact Or.inr ((hv.rf3 (Nat.eq_of_beq_eq_true h2)).sub h3)
    · rcases hv.rf4 (Nat.eq_of_beq_eq_true h2) with q | q
      · exact Or.inl q
      · exact Or.inr (q.sub h3)
  · obtain ⟨⟨⟨⟨h1, h2⟩, h3⟩, h4⟩, h5⟩ := h
    obtain ⟨x, rfl, w1, w2⟩ := hv.int (Nat.eq_of_beq_eq_true h2)
    have := hE _ w1
    exact ⟨Or.inr (Or.inr (Or.inr (Or.inr (Or.inr (Or.inl ⟨Or.inr (Nat.eq_of_beq_eq_true h1), x, rfl, by omega, by omega⟩))))), Or.inr ⟨Nat.eq_of_beq_eq_true h1, x, rfl, by omega⟩⟩
/-- bounds after a comparison -/
def mnI (a b : Int) : Int := bif decide (a ≤ b) then a else b
def mxI (a b : Int) : Int := bif decide (a ≤ b) then b else a
theorem mnI_t {a b x : Int} (h1 : x ≤ a) (h2 : x ≤ b) : x ≤ mnI a b := by
  unfold mnI
  cases decide (a ≤ b) <;> assumption
theorem mxI_t {a b x : Int} (h1 : a ≤ x) (h2 : b ≤ x) : mxI a b ≤ x := by
  unfold mxI
  cases decide (a ≤ b) <;> assumption
def rLe (E : List EV) (s1 s2 : Nat) (d : Int) : List EV :=
  (E.set s1 ((evg E s1).1, mnI (evg E s1).2.1 ((evg E s2).2.1 - d), (evg E s1).2.2)).set s2 (mxI (evg E s2).1 ((evg E s1).1 + d), bif Nat.beq s1 s2 then mnI (evg E s1).2.1 ((evg E s2).2.1 - d) else (evg E s2).2.1, (evg E s2).2.2)
theorem rLe_len (E : List EV) (s1 s2 : Nat) (d : Int) : (rLe E s1 s2 d).length = E.length := by
  unfold rLe
  rw [List.length_set, List.length_set]
theorem EM.rle {E : List EV} {σ : Nat → Int} (h : EM E σ) {s1 s2 : Nat} {d : Int} (h1 : s1 < E.length) (h2 : s2 < E.length) (hd : σ s1 + d ≤ σ s2) : EM (rLe E s1 s2 d) σ := by
  obtain ⟨a1, a2, a3⟩ := h s1 h1
  obtain ⟨b1, b2, b3⟩ := h s2 h2
  unfold rLe
  have hx : EM (E.set s1 ((evg E s1).1, mnI (evg E s1).2.1 ((evg E s2).2.1 - d), (evg E s1).2.2)) σ := EM.set h a1 (mnI_t a2 (by omega)) a3
  refine EM.set hx (mxI_t b1 (by omega)) ?_ b3
  cases hb : Nat.beq s1 s2 with
  | true =>
    have := Nat.eq_of_beq_eq_true hb
    subst this
    exact mnI_t a2 (by omega)
  | false => exact b2
def rN1 (e : EV) (c : Int) : EV := (bif decide (e.1 = c) then e.1 + 1 else e.1, bif decide (e.2.1 = c) then e.2.1 - 1 else e.2.1, e.2.2 || decide (c = 0))
def rNe (E : List EV) (s1 s2 : Nat) (d : Int) : List EV :=
  bif decide ((evg E s2).1 = (evg E s2).2.1) then E.set s1 (rN1 (evg E s1) ((evg E s2).1 - d)) else bif decide ((evg E s1).1 = (evg E s1).2.1) then E.set s2 (rN1 (evg E s2) ((evg E s1).1 + d)) else E
theorem rNe_len (E : List EV) (s1 s2 : Nat) (d : Int) : (rNe E s1 s2 d).length = E.length := by
  unfold rNe
  cases decide ((evg E s2).1 = (evg E s2).2.1)
  · cases decide ((evg E s1).1 = (evg E s1).2.1)
    · rfl
    · exact List.length_set ..
  · exact List.length_set ..
theorem EM.rn1 {E : List EV} {σ : Nat → Int} (h : EM E σ) {s : Nat} {c : Int} (h1 : s < E.length) (hd : σ s ≠ c) : EM (E.set s (rN1 (evg E s) c)) σ := by
  obtain ⟨a1, a2, a3⟩ := h s h1
  refine h.set ?_ ?_ ?_
  · show (bif decide ((evg E s).1 = c) then (evg E s).1 + 1 else (evg E s).1) ≤ _
    cases hb : decide ((evg E s).1 = c) with
    | true => have := of_decide_eq_true hb; show (evg E s).1 + 1 ≤ _; omega
    | false => exact a1
  · show _ ≤ (bif decide ((evg E s).2.1 = c) then (evg E s).2.1 - 1 else (evg E s).2.1)
    cases hb : decide ((evg E s).2.1 = c) with
    | true => have := of_decide_eq_true hb; show _ ≤ (evg E s).2.1 - 1; omega
    | false => exact a2
  · intro q
    have q : ((evg E s).2.2 || decide (c = 0)) = true := q
    rw [Bool.or_eq_true] at q
    rcases q with q | q
    · exact a3 q
    · have := of_decide_eq_true q; omega
theorem EM.rne {E : List EV} {σ : Nat → Int} (h : EM E σ) {s1 s2 : Nat} {d : Int} (h1 : s1 < E.length) (h2 : s2 < E.length) (hd : σ s1 + d ≠ σ s2) : EM (rNe E s1 s2 d) σ := by
  unfold rNe
  obtain ⟨a1, a2, a3⟩ := h s1 h1
  obtain ⟨b1, b2, b3⟩ := h s2 h2
  cases hb : decide ((evg E s2).1 = (evg E s2).2.1) with
  | true => have := of_decide_eq_true hb; exact h.rn1 h1 (by omega)
  | false =>
    cases hc : decide ((evg E s1).1 = (evg E s1).2.1) with
    | true => have := of_decide_eq_true hc; exact h.rn1 h2 (by omega)
    | false => exact h
/-- 0 =, 1 ≠, 2 <, 3 ≥, 4 >, 5 ≤ -/
def hold (c : Nat) (x y : Int) : Prop := (c = 0 ∧ x = y) ∨ (c = 1 ∧ x ≠ y) ∨ (c = 2 ∧ x < y) ∨ (c = 3 ∧ y ≤ x) ∨ (c = 4 ∧ y < x) ∨ (c = 5 ∧ x ≤ y)
def rfn (E : List EV) (c s1 : Nat) (δ1 : Int) (s2 : Nat) (δ2 : Int) : List EV :=
  bif Nat.beq c 0 then rLe (rLe E s1 s2 (δ1 - δ2)) s2 s1 (δ2 - δ1) else bif Nat.beq c 1 then rNe E s1 s2 (δ1 - δ2) else bif Nat.beq c 2 then rLe E s1 s2 (δ1 - δ2 + 1) else bif Nat.beq c 3 then rLe E s2 s1 (δ2 - δ1) else bif Nat.beq c 4 then rLe E s2 s1 (δ2 - δ1 + 1) else rLe E s1 s2 (δ1 - δ2)
theorem rfn_len (E : List EV) (c s1 : Nat) (δ1 : Int) (s2 : Nat) (δ2 : Int) : (rfn E c s1 δ1 s2 δ2).length = E.length := by
  unfold rfn
  cases Nat.beq c 0 <;> cases Nat.beq c 1 <;> cases Nat.beq c 2 <;> cases Nat.beq c 3 <;> cases Nat.beq c 4 <;> simp only [cond_true, cond_false, rLe_len, rNe_len]
theorem EM.rfx {E : List EV} {σ : Nat → Int} (h : EM E σ) {c s1 s2 : Nat} {δ1 δ2 : Int} (h1 : s1 < E.length) (h2 : s2 < E.length) (hd : hold c (σ s1 + δ1) (σ s2 + δ2)) : EM (rfn E c s1 δ1 s2 δ2) σ := by
  unfold rfn
  rcases hd with ⟨rfl, q⟩ | ⟨rfl, q⟩ | ⟨rfl, q⟩ | ⟨rfl, q⟩ | ⟨rfl, q⟩ | ⟨rfl, q⟩
  · exact (h.rle h1 h2 (d := δ1 - δ2) (by omega)).rle (by rw [rLe_len]; exact h2) (by rw [rLe_len]; exact h1) (by omega)
  · exact h.rne h1 h2 (by omega)
  · exact h.rle h1 h2 (by omega)
  · exact h.rle h2 h1 (by omega)
  · exact h.rle h2 h1 (by omega)
  · exact h.rle h1 h2 (by omega)
def ngc (c : Nat) : Nat := bif Nat.beq c 0 then 1 else bif Nat.beq c 1 then 0 else bif Nat.beq c 2 then 3 else bif Nat.beq c 3 then 2 else bif Nat.beq c 4 then 5 else 4
def badE (E : List EV) (s : Nat) : Bool := decide ((evg E s).2.1 < (evg E s).1)
theorem badE_t {E : List EV} {σ : Nat → Int} (h : EM E σ) {s : Nat} (hs : s < E.length) : badE E s = false := by
  obtain ⟨a1, a2, -⟩ := h s hs
  exact decide_eq_false (by omega)
def br1 (E : List EV) (c s1 : Nat) (δ1 : Int) (s2 : Nat) (δ2 : Int) (k : List EV → Bool) : Bool := badE (rfn E c s1 δ1 s2 δ2) s1 || (badE (rfn E c s1 δ1 s2 δ2) s2 || k (rfn E c s1 δ1 s2 δ2))
theorem br1_t {E : List EV} {σ : Nat → Int} (h : EM E σ) {c s1 s2 : Nat} {δ1 δ2 : Int} {k : List EV → Bool} (h1 : s1 < E.length) (h2 : s2 < E.length) (hd : hold c (σ s1 + δ1) (σ s2 + δ2)) (hb : br1 E c s1 δ1 s2 δ2 k = true) : k (rfn E c s1 δ1 s2 δ2) = true ∧ EM (rfn E c s1 δ1 s2 δ2) σ := by
  have hE := h.rfx h1 h2 hd
  unfold br1 at hb
  rw [badE_t hE (by rw [rfn_len]; exact h1), badE_t hE (by rw [rfn_len]; exact h2)] at hb
  exact ⟨hb, hE⟩
/-- entailment: the point's numbers from k on are had from the state's -/
def incl (e f : EV) (δ : Int) : Bool := decide (e.1 ≤ f.1 + δ) && (decide (f.2.1 + δ ≤ e.2.1) && (!e.2.2 || (decide (0 < f.1 + δ) || (decide (f.2.1 + δ < 0) || (f.2.2 && decide (δ = 0))))))
theorem incl_t {e f : EV} {δ x : Int} (h : incl e f δ = true) (h1 : f.1 ≤ x) (h2 : x ≤ f.2.1) (h3 : f.2.2 = true → x ≠ 0) : e.1 ≤ x + δ ∧ x + δ ≤ e.2.1 ∧ (e.2.2 = true → x + δ ≠ 0) := by
  unfold incl at h
  simp only [Bool.or_eq_true, Bool.and_eq_true, decide_eq_true_eq, Bool.not_eq_true'] at h
  obtain ⟨w1, w2, w3⟩ := h
  refine ⟨by omega, by omega, fun q => ?_⟩
  rcases w3 with w | w | w | ⟨w, w'⟩
  · rw [w] at q; cases q
  · omega
  · omega
  · have := h3 w; omega
def okA (K : KX) (p c : AV) : Bool :=
  (Nat.beq p.1 1 && Nat.beq c.1 1 && Nat.beq p.2.1 c.2.1 && decide (p.2.2.2 = c.2.2.2)) || (Nat.beq p.1 2 && Nat.beq c.1 2 && Nat.beq p.2.1 c.2.1) || (Nat.beq p.1 3 && Nat.beq c.1 3 && subG K c.2.1 p.2.1) ||
  (Nat.beq p.1 4 && (Nat.beq c.1 5 || ((Nat.beq c.1 3 || Nat.beq c.1 4) && subG K c.2.1 p.2.1))) || (Nat.beq p.1 5 && Nat.beq c.1 5) || (Nat.beq p.1 7 && Nat.beq c.1 7 && (Nat.beq p.2.1 0 || Nat.beq c.2.1 1)) || (Nat.beq p.1 9 && Nat.beq c.1 9 && Nat.beq p.2.1 0)
def ent (K : KX) (m : Nat) (Ep Ec : List EV) : Nat → List AV → List AV → Option (List (Nat × Int))
  | _, [], [] => some []
  | k, p :: ps, c :: cs =>
    bif Nat.beq p.1 0 then ent K m Ep Ec k ps cs
    else bif Nat.beq p.1 1 && Nat.ble m p.2.1 then
      (bif Nat.beq c.1 1 && (Nat.beq p.2.1 k && (decide (p.2.2.2 = 0) && incl (evg Ep k) (evg Ec c.2.1) c.2.2.2)) then (ent K m Ep Ec (k + 1) ps cs).map (fun t => (c.2.1, c.2.2.2) :: t) else none)
    else bif Nat.beq p.1 2 && Nat.ble m p.2.1 then
      (bif Nat.beq c.1 2 && (Nat.beq p.2.1 k && incl (evg Ep k) (evg Ec c.2.1) 0) then (ent K m Ep Ec (k + 1) ps cs).map (fun t => (c.2.1, 0) :: t) else none)
    else bif okA K p c then ent K m Ep Ec k ps cs else none
  | _, _, _ => none
theorem okA_t {K : KX} {n0 n0' : Nat} {hs hs' : List CE} {R : List Nat} {n n' : Nat} {σ σ' : Nat → Int} {p c : AV} {v : Value} {m : Nat} (h : okA K p c = true) (hm : p.1 = 1 ∨ p.1 = 2 → p.2.1 < m) (hn : m ≤ n') (hσ : ∀ s, s < m → σ' s = σ s) (hv : VM K n0 hs R n σ c v) : c.1 ≠ 0 ∧ VM K n0' hs' R n' σ' p v := by
  obtain ⟨pt, ps, pb, pd⟩ := p
  obtain ⟨ct, cs, cb, cd⟩ := c
  unfold okA at h
  simp only [Bool.or_eq_true, Bool.and_eq_true, decide_eq_true_eq, Nat.beq_eq] at h
  rcases h with (((((h | h) | h) | h) | h) | h) | h
  · obtain ⟨⟨⟨rfl, rfl⟩, rfl⟩, rfl⟩ := h
    obtain ⟨x, rfl, w1, w2⟩ := hv.int rfl
    have := hm (Or.inl rfl)
    exact ⟨(by show (1 : Nat) ≠ 0; decide), VM.mkI (Nat.lt_of_lt_of_le this hn) (by rw [hσ _ this]; exact w2)⟩
  · obtain ⟨⟨rfl, rfl⟩, rfl⟩ := h
    obtain ⟨x, rfl, w1, w2⟩ := hv.lng rfl
    have := hm (Or.inr rfl)
    exact ⟨(by show (2 : Nat) ≠ 0; decide), VM.mkL (Nat.lt_of_lt_of_le this hn) (by rw [hσ _ this]; exact w2)⟩
  · obtain ⟨⟨rfl, rfl⟩, h⟩ := h
    exact ⟨(by show (3 : Nat) ≠ 0; decide), VM.mk3 ((hv.rf3 rfl).sub h)⟩
  · obtain ⟨rfl, h⟩ := h
    rcases h with rfl | ⟨rfl | rfl, h⟩
    · exact ⟨(by show (5 : Nat) ≠ 0; decide), VM.mk4 (Or.inl (hv.nul rfl))⟩
    · exact ⟨(by show (3 : Nat) ≠ 0; decide), VM.mk4 (Or.inr ((hv.rf3 rfl).sub h))⟩
    · refine ⟨(by show (4 : Nat) ≠ 0; decide), VM.mk4 ?_⟩
      rcases hv.rf4 rfl with q | q
      · exact Or.inl q
      · exact Or.inr (q.sub h)
  · obtain ⟨rfl, rfl⟩ := h
    have := hv.nul rfl
    subst this
    exact ⟨(by show (5 : Nat) ≠ 0; decide), VM.mk5⟩
  · obtain ⟨⟨rfl, rfl⟩, h⟩ := h
    obtain ⟨k, rfl, hk⟩ := hv.opq rfl
    refine ⟨(by show (7 : Nat) ≠ 0; decide), VM.mk7 (fun z => hk ?_)⟩
    rcases h with h | h
    · rw [z] at h; cases h
    · exact h
  · obtain ⟨⟨rfl, rfl⟩, rfl⟩ := h
    obtain ⟨x, rfl, -⟩ := hv.dbl rfl
    exact ⟨(by show (9 : Nat) ≠ 0; decide), VM.mk9 (DPr.zero x)⟩
theorem ent_t {K : KX} {m n0 n0' : Nat} {Ep Ec : List EV} {hs hs' : List CE} {R : List Nat} {n' : Nat} {σ σ' : Nat → Int} (hE : EM Ec σ) (hσ : ∀ s, s < m → σ' s = σ s) (hm : m ≤ n') : ∀ {ps cs : List AV} {k : Nat} {sub : List (Nat × Int)}, ent K m Ep Ec k ps cs = some sub → (∀ (i : Nat) (x : Nat × Int), sub[i]? = some x → σ' (k + i) = σ x.1 + x.2) → k + sub.length ≤ n' →
    ps.length = cs.length ∧ (∀ (i : Nat) (p : AV), ps[i]? = some p → ∃ c : AV, cs[i]? = some c ∧ ∀ v : Value, VM K n0 hs R Ec.length σ c v → (p.1 ≠ 0 → c.1 ≠ 0) ∧ VM K n0' hs' R n' σ' p v)
  | [], [], _, _, _, _, _ => ⟨rfl, fun i p h => by cases h⟩
  | [], _ :: _, _, _, h, _, _ => by cases h
  | _ :: _, [], _, _, h, _, _ => by cases h
  | p :: ps, c :: cs, k, sub, h, hs1, hk => by
    have fin : ∀ {k' : Nat} {sub' : List (Nat × Int)}, ent K m Ep Ec k' ps cs = some sub' → (∀ (i : Nat) (x : Nat × Int), sub'[i]? = some x → σ' (k' + i) = σ x.1 + x.2) → k' + sub'.length ≤ n' → (∀ v : Value, VM K n0 hs R Ec.length σ c v → (p.1 ≠ 0 → c.1 ≠ 0) ∧ VM K n0' hs' R n' σ' p v) → (p :: ps).length = (c :: cs).length ∧ (∀ (i : Nat) (p' : AV), (p :: ps)[i]? = some p' → ∃ c' : AV, (c :: cs)[i]? = some c' ∧ ∀ v : Value, VM K n0 hs R Ec.length σ c' v → (p'.1 ≠ 0 → c'.1 ≠ 0) ∧ VM K n0' hs' R n' σ' p' v) := by
      intro k' sub' w1 w2 w3 w4
      obtain ⟨z1, z2⟩ := ent_t hE hσ hm w1 w2 w3 (n0 := n0) (n0' := n0') (hs := hs) (hs' := hs') (R := R)
      refine ⟨by rw [List.length_cons, List.length_cons, z1], fun i p' hp => ?_⟩
      match i, hp with
      | 0, hp => cases hp; exact ⟨c, rfl, w4⟩
      | i + 1, hp => exact z2 i p' hp
    unfold ent at h
    cases h0 : Nat.beq p.1 0 with
    | true =>
      rw [h0] at h
      have e0 := Nat.eq_of_beq_eq_true h0
      exact fin h hs1 hk (fun v hv => ⟨fun q => absurd e0 q, Or.inl e0⟩)
    | false =>
      rw [h0] at h
      cases h1 : Nat.beq p.1 1 && Nat.ble m p.2.1 with
      | true =>
        rw [h1] at h
        rw [Bool.and_eq_true] at h1
        have e1 := Nat.eq_of_beq_eq_true h1.1
        cases h2 : Nat.beq c.1 1 && (Nat.beq p.2.1 k && (decide (p.2.2.2 = 0) && incl (evg Ep k) (evg Ec c.2.1) c.2.2.2)) with
        | false => rw [h2] at h; cases h
        | true =>
          rw [h2] at h
          simp only [Bool.and_eq_true, decide_eq_true_eq] at h2
          obtain ⟨w1, w2, w3, w4⟩ := h2
          have w1 := Nat.eq_of_beq_eq_true w1
          have w2 := Nat.eq_of_beq_eq_true w2
          have h : (ent K m Ep Ec (k + 1) ps cs).map (fun t => (c.2.1, c.2.2.2) :: t) = some sub := h
          cases h5 : ent K m Ep Ec (k + 1) ps cs with
          | none => rw [h5] at h; cases h
          | some t =>
            rw [h5] at h
            cases h
            refine fin h5 (fun i x hx => ?_) (by rw [List.length_cons] at hk; omega) (fun v hv => ?_)
            · have := hs1 (i + 1) x hx
              rwa [show k + (i + 1) = k + 1 + i by omega] at this
            · obtain ⟨x, rfl, z1, z2⟩ := hv.int w1
              have hk0 : σ' k = σ c.2.1 + c.2.2.2 := hs1 0 _ rfl
              obtain ⟨pt, ps', pb, pd⟩ := p
              have e1 : pt = 1 := e1
              have w2 : ps' = k := w2
              have w3 : pd = 0 := w3
              subst e1
              subst w2
              subst w3
              exact ⟨fun _ => by rw [w1]; decide, VM.mkI (by rw [List.length_cons] at hk; omega) (by rw [hk0, z2]; omega)⟩
      | false =>
        rw [h1] at h
        cases h3 : Nat.beq p.1 2 && Nat.ble m p.2.1 with
        | true =>
          rw [h3] at h
          rw [Bool.and_eq_true] at h3
          have e1 := Nat.eq_of_beq_eq_true h3.1
          cases h2 : Nat.beq c.1 2 && (Nat.beq p.2.1 k && incl (evg Ep k) (evg Ec c.2.1) 0) with
          | false => rw [h2] at h; cases h
          | true =>
            rw [h2] at h
            simp only [Bool.and_eq_true] at h2
            obtain ⟨w1, w2, w4⟩ := h2
            have w1 := Nat.eq_of_beq_eq_true w1
            have w2 := Nat.eq_of_beq_eq_true w2
            have h : (ent K m Ep Ec (k + 1) ps cs).map (fun t => (c.2.1, 0) :: t) = some sub := h
            cases h5 : ent K m Ep Ec (k + 1) ps cs with
            | none => rw [h5] at h; cases h
            | some t =>
              rw [h5] at h
              cases h
              refine fin h5 (fun i x hx => ?_) (by rw [List.length_cons] at hk; omega) (fun v hv => ?_)
              · have := hs1 (i + 1) x hx
                rwa [show k + (i + 1) = k + 1 + i by omega] at this
              · obtain ⟨x, rfl, z1, z2⟩ := hv.lng w1
                have hk0 : σ' k = σ c.2.1 + 0 := hs1 0 _ rfl
                obtain ⟨pt, ps', pb, pd⟩ := p
                have e1 : pt = 2 := e1
                have w2 : ps' = k := w2
                subst e1
                subst w2
                exact ⟨fun _ => by rw [w1]; decide, VM.mkL (by rw [List.length_cons] at hk; omega) (by rw [hk0, z2]; omega)⟩
        | false =>
          rw [h3] at h
          cases h4 : okA K p c with
          | false => rw [h4] at h; cases h
          | true =>
            rw [h4] at h
            refine fin h hs1 hk (fun v hv => ?_)
            have hlt : p.1 = 1 ∨ p.1 = 2 → p.2.1 < m := fun q => by
              rcases q with q | q
              · rw [q] at h1
                have : Nat.ble m p.2.1 = false := h1
                exact Nat.lt_of_not_le (fun r => by rw [Nat.ble_eq_true_of_le r] at this; cases this)
              · rw [q] at h3
                have : Nat.ble m p.2.1 = false := h3
                exact Nat.lt_of_not_le (fun r => by rw [Nat.ble_eq_true_of_le r] at this; cases this)
            obtain ⟨z1, z2⟩ := okA_t (n0' := n0') (hs' := hs') h4 hlt hm hσ hv
            exact ⟨fun _ => z1, z2⟩
/-- the bounds of the new numbers -/
theorem ent_b {K : KX} {m : Nat} {Ep Ec : List EV} {σ : Nat → Int} {n0 : Nat} {hs : List CE} {R : List Nat} (hE : EM Ec σ) : ∀ {ps cs : List AV} {k : Nat} {sub : List (Nat × Int)}, ent K m Ep Ec k ps cs = some sub → (∀ (i : Nat) (c : AV), cs[i]? = some c → c.1 = 1 ∨ c.1 = 2 → c.2.1 < Ec.length) → ∀ (i : Nat) (x : Nat × Int), sub[i]? = some x → x.1 < Ec.length ∧ (evg Ep (k + i)).1 ≤ σ x.1 + x.2 ∧ σ x.1 + x.2 ≤ (evg Ep (k + i)).2.1 ∧ ((evg Ep (k + i)).2.2 = true → σ x.1 + x.2 ≠ 0)
  | [], [], _, _, h, _, _, _, hx => by cases h; cases hx
  | [], _ :: _, _, _, h, _, _, _, _ => by cases h
  | _ :: _, [], _, _, h, _, _, _, _ => by cases h
  | p :: ps, c :: cs, k, sub, h, hc, i, x, hx => by
    have hc' : ∀ (i : Nat) (c : AV), cs[i]? = some c → c.1 = 1 ∨ c.1 = 2 → c.2.1 < Ec.length := fun i c' h => hc (i + 1) c' h
    unfold ent at h
    cases h0 : Nat.beq p.1 0 with
    | true => rw [h0] at h; exact ent_b hE h hc' i x hx (n0 := n0) (hs := hs) (R := R)
    | false =>
      rw [h0] at h
      cases h1 : Nat.beq p.1 1 && Nat.ble m p.2.1 with
      | true =>
        rw [h1] at h
        cases h2 : Nat.beq c.1 1 && (Nat.beq p.2.1 k && (decide (p.2.2.2 = 0) && incl (evg Ep k) (evg Ec c.2.1) c.2.2.2)) with
        | false => rw [h2] at h; cases h
        | true =>
          rw [h2] at h
          simp only [Bool.and_eq_true, decide_eq_true_eq] at h2
          obtain ⟨w1, w2, w3, w4⟩ := h2
          have w1 := Nat.eq_of_beq_eq_true w1
          have h : (ent K m Ep Ec (k + 1) ps cs).map (fun t => (c.2.1, c.2.2.2) :: t) = some sub := h
          cases h5 : ent K m Ep Ec (k + 1) ps cs with
          | none => rw [h5] at h; cases h
          | some t =>
            rw [h5] at h
            cases h
            match i, hx with
            | 0, hx =>
              cases hx
              have hlt := hc 0 c rfl (Or.inl w1)
              obtain ⟨b1, b2, b3⟩ := hE _ hlt
              exact ⟨hlt, incl_t w4 b1 b2 b3⟩
            | i + 1, hx =>
              have := ent_b hE h5 hc' i x hx (n0 := n0) (hs := hs) (R := R)
              rwa [show k + 1 + i = k + (i + 1) by omega] at this
      | false =>
        rw [h1] at h
        cases h3 : Nat.beq p.1 2 && Nat.ble m p.2.1 with
        | true =>
          rw [h3] at h
          cases h2 : Nat.beq c.1 2 && (Nat.beq p.2.1 k && incl (evg Ep k) (evg Ec c.2.1) 0) with
          | false => rw [h2] at h; cases h
          | true =>
            rw [h2] at h
            simp only [Bool.and_eq_true] at h2
            obtain ⟨w1, w2, w4⟩ := h2
            have w1 := Nat.eq_of_beq_eq_true w1
            have h : (ent K m Ep Ec (k + 1) ps cs).map (fun t => (c.2.1, 0) :: t) = some sub := h
            cases h5 : ent K m Ep Ec (k + 1) ps cs with
            | none => rw [h5] at h; cases h
            | some t =>
              rw [h5] at h
              cases h
              match i, hx with
              | 0, hx =>
                cases hx
                have hlt := hc 0 c rfl (Or.inr w1)
                obtain ⟨b1, b2, b3⟩ := hE _ hlt
                exact ⟨hlt, incl_t w4 b1 b2 b3⟩
              | i + 1, hx =>
                have := ent_b hE h5 hc' i x hx (n0 := n0) (hs := hs) (R := R)
                rwa [show k + 1 + i = k + (i + 1) by omega] at this
        | false =>
          rw [h3] at h
          cases h4 : okA K p c with
          | false => rw [h4] at h; cases h
          | true => rw [h4] at h; exact ent_b hE h hc' i x hx (n0 := n0) (hs := hs) (R := R)
