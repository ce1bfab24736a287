/-! Nets: what comes in at two different nodes flows differently. -/
def ang1 (l : List Int) (x p : Nat) : Int := match p with
  | 0 => 0
  | p + 1 => ang l x p
def okDif (n a b c d e f : Nat) : Bool := !cuts n a b c d e f || fL (angL n a b c d e f) fun l => (List.range (n + 1)).all fun p => (List.range (n + 1)).all fun q => Nat.beq p q || (List.range (n + 1)).any fun x => !decide (ang1 l x p = ang1 l x q)
def dif3 : Bool := (List.range 7).all fun a => (List.range (7 - a)).all fun b => (List.range (7 - a - b)).all fun c => (List.range (7 - a - b - c)).all fun d => (List.range (7 - a - b - c - d)).all fun e => (List.range (7 - a - b - c - d - e)).all fun f => okDif 3 a b c d e f
def dif2 : Bool := (List.range 7).all fun a => (List.range (7 - a)).all fun b => (List.range (7 - a - b)).all fun d => okDif 2 a b 0 d 0 0
def dif1 : Bool := (List.range 7).all fun a => okDif 1 a 0 0 0 0 0
theorem dif3_a : dif3 = true := by decide +kernel
theorem dif2_a : dif2 = true := by decide +kernel
theorem dif1_a : dif1 = true := by decide +kernel
theorem okDif_all {n a b c d e f : Nat} (hn : 1 ≤ n) (hn3 : n ≤ 3) (h : a + b + c + d + e + f ≤ 6) (h3 : n < 3 → c = 0 ∧ e = 0 ∧ f = 0) (h2 : n < 2 → b = 0 ∧ d = 0) : okDif n a b c d e f = true := by
  have : n = 1 ∨ n = 2 ∨ n = 3 := by omega
  rcases this with rfl | rfl | rfl
  · obtain ⟨rfl, rfl, rfl⟩ := h3 (by omega)
    obtain ⟨rfl, rfl⟩ := h2 (by omega)
    exact all_r (n := 7) (p := fun a => okDif 1 a 0 0 0 0 0) dif1_a (by omega)
  · obtain ⟨rfl, rfl, rfl⟩ := h3 (by omega)
    exact all_r (all_r (all_r dif2_a (i := a) (by omega)) (i := b) (by omega)) (i := d) (by omega)
  · exact all_r (all_r (all_r (all_r (all_r (all_r dif3_a (i := a) (by omega)) (i := b) (by omega)) (i := c) (by omega)) (i := d) (by omega)) (i := e) (by omega)) (i := f) (by omega)
theorem dif_t {tl : Nat → Int} {nl n : Nat} {but : Int} (hN : NetL4 tl nl n) (hn1 : 1 ≤ n) (hn3 : n ≤ 3) (h6 : nl ≤ 6) (hC : CutOK tl nl but n) {p q : Nat} (hp : p ≤ n) (hq : q ≤ n) (hpq : p ≠ q) : ∃ x, x ≤ n ∧ ang1 (lA tl nl n but) x p ≠ ang1 (lA tl nl n but) x q := by
  have hs := cnt_sum (but := but) hN hn3 nl (Nat.le_refl _)
  have h : okDif n (cnt tl but 0 1 nl) (cnt tl but 0 2 nl) (cnt tl but 0 3 nl) (cnt tl but 1 2 nl) (cnt tl but 1 3 nl) (cnt tl but 2 3 nl) = true := okDif_all hn1 hn3 (by omega) (fun q => ⟨cnt0 hN (by omega) nl (Nat.le_refl _), cnt0 hN (by omega) nl (Nat.le_refl _), cnt0 hN (by omega) nl (Nat.le_refl _)⟩) (fun q => ⟨cnt0 hN (by omega) nl (Nat.le_refl _), cnt0 hN (by omega) nl (Nat.le_refl _)⟩)
  have hc := cuts_t hN hn1 hn3 hC
  unfold okDif at h
  rw [hc] at h
  rw [show ∀ b : Bool, (!true || b) = b from fun b => by cases b <;> rfl, fL_t] at h
  have h := all_r (all_r h (i := p) (by omega)) (i := q) (by omega)
  rw [Bool.or_eq_true] at h
  have h := h.resolve_left (fun z => hpq (Nat.eq_of_beq_eq_true z))
  obtain ⟨x, hx, hd⟩ := List.any_eq_true.mp h
  refine ⟨x, by have := List.mem_range.mp hx; omega, fun z => ?_⟩
  rw [Bool.not_eq_true'] at hd
  exact absurd z (of_decide_eq_false hd)
theorem rwc_1 (l : List Int) (x y p : Nat) (hp : p ≤ 3) : rwc (rwI l x y) p = ang1 l x p - ang1 l y p := by
  match p, hp with
  | 0, _ => rfl
  | 1, _ => rfl
  | 2, _ => rfl
  | 3, _ => rfl
theorem fac_dif {tl : Nat → Int} {nl n : Nat} {ou : Int} (hG : NG tl nl n ou) {p q : Nat} (hp : p ≤ n) (hq : q ≤ n) (hpq : p ≠ q) : ∃ l, l < nl ∧ facA tl nl n ou (4 * l + p) ≠ facA tl nl n ou (4 * l + q) := by
  obtain ⟨hn1, hn3, h6, hN, hC, -⟩ := hG
  refine Classical.byContradiction fun hz => ?_
  have hA : ∀ l, l < nl → facA tl nl n ou (4 * l + p) = facA tl nl n ou (4 * l + q) := fun l hl => Classical.byContradiction fun z => hz ⟨l, hl, z⟩
  obtain ⟨x, hx, hd⟩ := dif_t hN hn1 hn3 h6 hC hp hq hpq
  obtain ⟨l, hl, hb, hU⟩ := hC (fun x => decide (ang1 (lA tl nl n (-1)) x p = ang1 (lA tl nl n (-1)) x q)) (decide_eq_true (by cases p <;> cases q <;> rfl)) ⟨x, hx, decide_eq_false hd⟩
  have e := hA l hl
  unfold facA at e
  rw [if_pos (by omega), if_pos (by omega)] at e
  have e1 := fac_t hN hn1 hn3 h6 hC (lo := 0) hl hb hp
  have e2 := fac_t hN hn1 hn3 h6 hC (lo := 0) hl hb hq
  rw [Nat.zero_add] at e1 e2
  rw [e, e2] at e1
  have e3 : rwc (rwL tl nl n (-1) l) q = rwc (rwL tl nl n (-1) l) p := Rat.intCast_inj.mp e1
  unfold rwL at e3
  rw [rwc_1 _ _ _ _ (by omega), rwc_1 _ _ _ _ (by omega)] at e3
  apply hU
  show decide _ = decide _
  generalize ang1 (lA tl nl n (-1)) (tl (5 + l)).toNat p = a1 at *
  generalize ang1 (lA tl nl n (-1)) (tl (5 + l)).toNat q = a2 at *
  generalize ang1 (lA tl nl n (-1)) (tl (11 + l)).toNat p = a3 at *
  generalize ang1 (lA tl nl n (-1)) (tl (11 + l)).toNat q = a4 at *
  by_cases z : a1 = a2
  · rw [decide_eq_true z, decide_eq_true (by omega)]
  · rw [decide_eq_false z, decide_eq_false (by omega)]
