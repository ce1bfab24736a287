/-! Class and reference between two calls, exactly. -/
theorem upC_at {c w w2 : Nat → Int} {q : Nat} (e : w2 q = w q) : upC c w2 q = upC c w q := by
  by_cases h0 : c 0 = 0
  · rw [upC0 h0, upC0 h0]; unfold upI; rw [e]
  · by_cases h1 : c 0 = 1
    · rw [upC1 h1, upC1 h1]; unfold upI; rw [e]
    · by_cases h2 : c 0 = 2
      · rw [upC2 h2, upC2 h2]; unfold upI; rw [e]
      · by_cases h3 : c 0 = 3
        · rw [upC3 h3, upC3 h3]; unfold upI; rw [e]
        · have e4 : ∀ w : Nat → Int, upC c w = upI w 38 (c 3) := fun w => by
            unfold upC; rw [if_neg h0, if_neg h1, if_neg h2, if_neg h3]
          rw [e4, e4]; unfold upI; rw [e]
/-- the list of changes and the rows of the past tell the same -/
def CHP (ch : Nat → Nat → Int) (pv w : Nat → Int) (np : Nat) : Prop := ∀ k, k < np → CGd (ch k) ∧ ∀ q, q < 39 → pv (39 * k + q) = upC (ch k) (if k + 1 = np then w else fun q => pv (39 * (k + 1) + q)) q
theorem CHP.zero {ch : Nat → Nat → Int} {pv w : Nat → Int} : CHP ch pv w 0 := fun k hk => absurd hk (Nat.not_lt_zero _)
theorem CHP.undo {ch : Nat → Nat → Int} {pv w w2 : Nat → Int} {np : Nat} (h : CHP ch pv w np) (e : ∀ q, q < 39 → w2 q = pv (39 * (np - 1) + q)) : CHP ch pv w2 (np - 1) := fun k hk => ⟨(h k (by omega)).1, fun q hq => by
  have a := (h k (by omega)).2 q hq
  rw [if_neg (by omega)] at a
  rw [a]
  by_cases z : k + 1 = np - 1
  · rw [if_pos z]
    exact upC_at (by rw [e q hq, z])
  · rw [if_neg z]⟩
theorem CHP.last {ch : Nat → Nat → Int} {pv w w2 : Nat → Int} {np : Nat} (h : CHP ch pv w np) (h1 : 1 ≤ np) (e : ∀ q, q < 39 → w2 q = pv (39 * (np - 1) + q)) : ∀ q, q < 39 → w2 q = upC (ch (np - 1)) w q := fun q hq => by
  rw [e q hq, (h (np - 1) (by omega)).2 q hq, if_pos (by omega)]
theorem CHP.add {ch : Nat → Nat → Int} {pv pv2 w w2 c : Nat → Int} {np np2 : Nat} (h : CHP ch pv w np) (ha : PAdd pv2 pv w np2 np) (hc : CGd c) (e : ∀ q, q < 39 → w q = upC c w2 q) : CHP (RMB np ch c) pv2 w2 np2 ∧ np2 = if np = 10 then 10 else np + 1 := by
  rcases ha with ⟨a, b, d, f⟩ | ⟨a, b, d, f⟩
  · subst a
    subst b
    refine ⟨fun k hk => ?_, rfl⟩
    by_cases z : k = 9
    · subst z
      have er : RMB 10 ch c 9 = c := by unfold RMB; rw [if_pos rfl, if_pos rfl]
      rw [er, if_pos rfl]
      exact ⟨hc, fun q hq => (f q hq).trans (e q hq)⟩
    · have er : RMB 10 ch c k = ch (k + 1) := by unfold RMB; rw [if_pos rfl, if_neg z]
      rw [er, if_neg (by omega)]
      refine ⟨(h (k + 1) (by omega)).1, fun q hq => ?_⟩
      rw [d _ (by omega), show 39 * k + q + 39 = 39 * (k + 1) + q by omega, (h (k + 1) (by omega)).2 q hq]
      refine upC_at ?_
      by_cases z2 : k + 1 + 1 = 10
      · rw [if_pos z2]
        show w q = pv2 (39 * (k + 1) + q)
        rw [show 39 * (k + 1) + q = 351 + q by omega]
        exact (f q hq).symm
      · rw [if_neg z2]
        show pv (39 * (k + 1 + 1) + q) = pv2 (39 * (k + 1) + q)
        rw [d _ (by omega)]
        congr 1
        omega
  · subst b
    refine ⟨fun k hk => ?_, by rw [if_neg (by omega)]⟩
    by_cases z : k = np
    · subst z
      have er : RMB k ch c k = c := by unfold RMB; rw [if_neg (by omega), if_pos rfl]
      rw [er, if_pos rfl]
      exact ⟨hc, fun q hq => (f q hq).trans (e q hq)⟩
    · have er : RMB np ch c k = ch k := by unfold RMB; rw [if_neg (by omega), if_neg z]
      rw [er, if_neg (by omega)]
      refine ⟨(h k (by omega)).1, fun q hq => ?_⟩
      rw [d _ (by omega), (h k (by omega)).2 q hq]
      refine upC_at ?_
      by_cases z2 : k + 1 = np
      · rw [if_pos z2]
        show w q = pv2 (39 * (k + 1) + q)
        rw [z2]
        exact (f q hq).symm
      · rw [if_neg z2]
        show pv (39 * (k + 1) + q) = pv2 (39 * (k + 1) + q)
        exact (d _ (by omega)).symm
/-! what each setter's change takes back -/
theorem chg_lim {w : Nat → Int} {i : Nat} {x v : Int} (hx : x.toNat = i) : ∀ q, q < 39 → w q = upC (F5 0 x (-1) (w i) (w (6 + i))) (wLim w i v) q := fun q _ => by
  rw [upC0 (c := F5 0 x (-1) (w i) (w (6 + i))) rfl]
  show w q = upI (upI (wLim w i v) x.toNat (w i)) (6 + x.toNat) (w (6 + i)) q
  rw [hx]
  unfold upI
  by_cases a : q = 6 + i
  · rw [if_pos a, a]
  · rw [if_neg a]
    by_cases b : q = i
    · rw [if_pos b, b]
    · rw [if_neg b]
      unfold wLim
      split
      · unfold upI; rw [if_neg a, if_neg b]
      · unfold upI; rw [if_neg b]
theorem chg_one {w : Nat → Int} {j q : Nat} {v : Int} : w q = upI (upI w j v) j (w j) q := by
  unfold upI
  by_cases a : q = j
  · rw [if_pos a, a]
  · rw [if_neg a, if_neg a]
theorem chg_cst {w : Nat → Int} {i : Nat} {x v : Int} (hx : x.toNat = i) : ∀ q, q < 39 → w q = upC (F5 1 x (-1) (w (12 + i)) (-1)) (upI w (12 + i) v) q := fun q _ => by
  rw [upC1 (c := F5 1 x (-1) (w (12 + i)) (-1)) rfl]
  show w q = upI (upI w (12 + i) v) (12 + x.toNat) (w (12 + i)) q
  rw [hx]
  exact chg_one
theorem chg_cap {w : Nat → Int} {i : Nat} {x v : Int} (hx : x.toNat = i) : ∀ q, q < 39 → w q = upC (F5 2 x (-1) (w (17 + i)) (-1)) (upI w (17 + i) v) q := fun q _ => by
  rw [upC2 (c := F5 2 x (-1) (w (17 + i)) (-1)) rfl]
  show w q = upI (upI w (17 + i) v) (17 + x.toNat) (w (17 + i)) q
  rw [hx]
  exact chg_one
theorem chg_dem {w : Nat → Int} {i k : Nat} {x y v : Int} (hx : x.toNat = i) (hy : y.toNat = k) : ∀ q, q < 39 → w q = upC (F5 3 x y (w (22 + 4 * i + k)) (-1)) (upI w (22 + 4 * i + k) v) q := fun q _ => by
  rw [upC3 (c := F5 3 x y (w (22 + 4 * i + k)) (-1)) rfl]
  show w q = upI (upI w (22 + 4 * i + k) v) (22 + 4 * x.toNat + y.toNat) (w (22 + 4 * i + k)) q
  rw [hx, hy]
  exact chg_one
theorem chg_out {w : Nat → Int} {v : Int} : ∀ q, q < 39 → w q = upC (F5 4 (-1) (-1) (w 38) (-1)) (upI w 38 v) q := fun q _ => by
  rw [upC4 (c := F5 4 (-1) (-1) (w 38) (-1)) rfl]
  exact chg_one
/-! typed cells from exact facts -/
/-- a cell of role r -/
def TYC (R : List Nat) (hs : List CE) (k r : Nat) : Prop := shp hs k = some (kdK KCQ r, lnK KCQ r) ∧ ∀ j, j < lnK KCQ r → VT KCQ R (ftK KCQ r j) (rd hs k j)
theorem hty_mix {R R2 : List Nat} {hs h2 : List CE} (h : HTy KCQ R hs) (hl : R2.length = h2.length) (hm : ∀ k r : Nat, R[k]? = some r → R2[k]? = some r) (hc : ∀ k r : Nat, R2[k]? = some r → r ≠ 0 → (R[k]? = some r ∧ h2[k]? = hs[k]?) ∨ TYC R2 h2 k r) (hq : ∀ q ∈ KCQ.2.2, ∀ k : Nat, R2[k]? = some q.1 → R[k]? = some q.1) : HTy KCQ R2 h2 := by
  refine ⟨hl, fun k r hk hr => ?_, fun q hq2 => ?_⟩
  · rcases hc k r hk hr with ⟨a, b⟩ | a
    · obtain ⟨q1, q2⟩ := h.2.1 k r a hr
      exact ⟨(shp_eqc b).trans q1, fun j hj => by rw [rd_of b j]; exact VT.mono (R := R) (R' := R2) (q2 j hj) (fun k r h1 _ => hm k r h1)⟩
    · exact a
  · obtain ⟨a, b, d⟩ := h.2.2 q hq2
    exact ⟨a, hm _ _ b, fun k hk => d k (hq q hq2 k hk)⟩
theorem kd_tab : ∀ x ∈ KCQ.1, x.2.1 ≠ 8 ∧ x.2.1 ≠ 10 ∧ x.2.1 ≠ 39 ∧ x.2.1 ≠ 34 := by decide +kernel
theorem kd_no (r : Nat) : kdK KCQ r ≠ 8 ∧ kdK KCQ r ≠ 10 ∧ kdK KCQ r ≠ 39 ∧ kdK KCQ r ≠ 34 := by
  unfold kdK roK
  cases h : KCQ.1.find? (fun x => Nat.beq x.1 r) with
  | none => exact ⟨by show (0 : Nat) ≠ 8; decide, by show (0 : Nat) ≠ 10; decide, by show (0 : Nat) ≠ 39; decide, by show (0 : Nat) ≠ 34; decide⟩
  | some x => exact kd_tab x (List.mem_of_find?_eq_some h)
/-- cells of the list's kinds have no role -/
theorem hty_zero {R : List Nat} {hs : List CE} (h : HTy KCQ R hs) {k c N : Nat} (hk : shp hs k = some (c, N)) (hc : c = 8 ∨ c = 10 ∨ c = 39 ∨ c = 34) : R[k]? = some 0 := by
  have hl : k < R.length := by rw [h.1]; exact shp_lt hk
  obtain ⟨r, hr⟩ : ∃ r, R[k]? = some r := ⟨R[k], List.getElem?_eq_getElem hl⟩
  by_cases z : r = 0
  · rw [hr, z]
  · have q := (h.2.1 k r hr z).1
    rw [hk] at q
    have e : c = kdK KCQ r := by
      have := Option.some.inj q
      exact congrArg Prod.fst this
    obtain ⟨a, b, d, f⟩ := kd_no r
    omega
def GRL : Nat → Nat
  | 0 => 505 | 1 => 540 | 2 => 540 | 3 => 546 | 4 => 541 | 5 => 542 | 6 => 543 | 7 => 543 | 8 => 545 | 9 => 544 | 10 => 544 | 11 => 544 | 12 => 544 | 13 => 541 | 14 => 540 | 15 => 540 | 16 => 541 | _ => 0
def FRL : Nat → Nat
  | 0 => 502 | 1 => 533 | 2 => 530 | 3 => 530 | 4 => 530 | 5 => 530 | 6 => 530 | 7 => 530 | 8 => 534 | 9 => 531 | 10 => 531 | 11 => 531 | 12 => 535 | 13 => 530 | 14 => 530 | 15 => 530 | 16 => 530 | _ => 0
theorem gls_roles {R : List Nat} {hs : List CE} {g : Nat} (hT : HTy KCQ R hs) (hG : GLS hs g) (hg : R[g]? = some 505) : ∀ a, a ≤ 16 → R[g + a]? = some (GRL a) := by
  have sl : ∀ (q : Nat × Nat × Nat × Nat) (r2 : Nat), q ∈ GST → q.1 < lnK KCQ 505 → ((ftK KCQ 505 q.1).1 = 3 ∨ (ftK KCQ 505 q.1).1 = 7) → (ftK KCQ 505 q.1).2.1 = r2 → Nat.blt r2 1000 = true → R[g + q.2.1]? = some r2 := fun q r2 h1 h2 h3 h4 h5 => by
    obtain ⟨y, e, q2⟩ := ty_refQ hT hg (by decide) h2 h3 h4 h5
    rw [(hG.2.2.1 q h1).1] at e
    cases e
    exact q2
  have h8 : R[g + 8]? = some 545 := sl (13, 8, 37, 4) 545 (by decide) (by decide) (by decide) (by decide) (by decide)
  have d4 : ∀ i, i < 4 → R[g + (9 + i)]? = some 544 := fun i hi => by
    obtain ⟨y, e, q2⟩ := ty_refQ (r2 := 544) (j := i) hT h8 (by decide) (by show i < 4; exact hi) (Or.inl (by show (3 : Nat) = 3; rfl)) (by rfl) (by decide)
    rw [(hG.2.2.2 i hi).1] at e
    cases e
    exact q2
  intro a ha
  match a, ha with
  | 0, _ => exact hg
  | 1, _ => exact sl (6, 1, 32, 6) 540 (by decide) (by decide) (by decide) (by decide) (by decide)
  | 2, _ => exact sl (7, 2, 32, 6) 540 (by decide) (by decide) (by decide) (by decide) (by decide)
  | 3, _ => exact sl (8, 3, 32, 6) 546 (by decide) (by decide) (by decide) (by decide) (by decide)
  | 4, _ => exact sl (9, 4, 32, 6) 541 (by decide) (by decide) (by decide) (by decide) (by decide)
  | 5, _ => exact sl (10, 5, 32, 5) 542 (by decide) (by decide) (by decide) (by decide) (by decide)
  | 6, _ => exact sl (11, 6, 32, 5) 543 (by decide) (by decide) (by decide) (by decide) (by decide)
  | 7, _ => exact sl (12, 7, 32, 5) 543 (by decide) (by decide) (by decide) (by decide) (by decide)
  | 8, _ => exact h8
  | 9, _ => exact d4 0 (by decide)
  | 10, _ => exact d4 1 (by decide)
  | 11, _ => exact d4 2 (by decide)
  | 12, _ => exact d4 3 (by decide)
  | 13, _ => exact sl (14, 13, 32, 6) 541 (by decide) (by decide) (by decide) (by decide) (by decide)
  | 14, _ => exact sl (15, 14, 32, 6) 540 (by decide) (by decide) (by decide) (by decide) (by decide)
  | 15, _ => exact sl (16, 15, 32, 6) 540 (by decide) (by decide) (by decide) (by decide) (by decide)
  | 16, _ => exact sl (17, 16, 32, 6) 541 (by decide) (by decide) (by decide) (by decide) (by decide)
  | a + 17, ha => exact absurd ha (by omega)
theorem fls_roles {R : List Nat} {hs : List CE} {b : Nat} (hT : HTy KCQ R hs) (hF : FLS hs b) (hb : R[b]? = some 502) : ∀ a, a ≤ 16 → R[b + a]? = some (FRL a) := by
  obtain ⟨-, -, ⟨a1, a2, a3⟩, -, r1, r2, r3⟩ := hF
  have h1 : R[b + 1]? = some 533 := by
    obtain ⟨y, e, q2⟩ := ty_refQ (r2 := 533) (j := 1) hT hb (by decide) (by decide) (by decide) (by decide) (by decide)
    rw [a1] at e
    cases e
    exact q2
  have h8 : R[b + 8]? = some 534 := by
    obtain ⟨y, e, q2⟩ := ty_refQ (r2 := 534) (j := 2) hT hb (by decide) (by decide) (by decide) (by decide) (by decide)
    rw [a2] at e
    cases e
    exact q2
  have h12 : R[b + 12]? = some 535 := by
    obtain ⟨y, e, q2⟩ := ty_refQ (r2 := 535) (j := 3) hT hb (by decide) (by decide) (by decide) (by decide) (by decide)
    rw [a3] at e
    cases e
    exact q2
  have x1 : ∀ i, i < 6 → R[b + (2 + i)]? = some 530 := fun i hi => by
    obtain ⟨y, e, q2⟩ := ty_refQ (r2 := 530) (j := i) hT h1 (by decide) (by show i < 6; exact hi) (Or.inl (by show (3 : Nat) = 3; rfl)) (by rfl) (by decide)
    rw [(r1 i hi).1] at e
    cases e
    exact q2
  have x2 : ∀ i, i < 3 → R[b + (9 + i)]? = some 531 := fun i hi => by
    obtain ⟨y, e, q2⟩ := ty_refQ (r2 := 531) (j := i) hT h8 (by decide) (by show i < 3; exact hi) (Or.inl (by show (3 : Nat) = 3; rfl)) (by rfl) (by decide)
    rw [(r2 i hi).1] at e
    cases e
    exact q2
  have x3 : ∀ i, i < 4 → R[b + (13 + i)]? = some 530 := fun i hi => by
    obtain ⟨y, e, q2⟩ := ty_refQ (r2 := 530) (j := i) hT h12 (by decide) (by show i < 4; exact hi) (Or.inl (by show (3 : Nat) = 3; rfl)) (by rfl) (by decide)
    rw [(r3 i hi).1] at e
    cases e
    exact q2
  intro a ha
  match a, ha with
  | 0, _ => exact hb
  | 1, _ => exact h1
  | 2, _ => exact x1 0 (by decide)
  | 3, _ => exact x1 1 (by decide)
  | 4, _ => exact x1 2 (by decide)
  | 5, _ => exact x1 3 (by decide)
  | 6, _ => exact x1 4 (by decide)
  | 7, _ => exact x1 5 (by decide)
  | 8, _ => exact h8
  | 9, _ => exact x2 0 (by decide)
  | 10, _ => exact x2 1 (by decide)
  | 11, _ => exact x2 2 (by decide)
  | 12, _ => exact h12
  | 13, _ => exact x3 0 (by decide)
  | 14, _ => exact x3 1 (by decide)
  | 15, _ => exact x3 2 (by decide)
  | 16, _ => exact x3 3 (by decide)
  | a + 17, ha => exact absurd ha (by omega)
theorem vt_i9 {R : List Nat} {t : FT} {x : Int32} (h1 : t.1 = 1 ∨ t.1 = 6 ∨ t.1 = 8) (h2 : t.2.2.1 ≤ x.toInt) (h3 : x.toInt ≤ t.2.2.2) : VT KCQ R t (.int x) := by
  rcases h1 with h | h | h
  · exact Or.inr (Or.inl ⟨h, x, rfl, h2, h3⟩)
  · exact Or.inr (Or.inr (Or.inr (Or.inr (Or.inr (Or.inl ⟨Or.inl h, x, rfl, h2, h3⟩)))))
  · exact Or.inr (Or.inr (Or.inr (Or.inr (Or.inr (Or.inl ⟨Or.inr h, x, rfl, h2, h3⟩)))))
theorem vt_r9 {R : List Nat} {t : FT} {k r : Nat} (h1 : t.1 = 3 ∨ t.1 = 7) (hr : R[k]? = some r) (h0 : r ≠ 0) (h2 : inG KCQ t.2.1 r = true) : VT KCQ R t (.ref k) := by
  rcases h1 with h | h
  · exact Or.inr (Or.inr (Or.inr (Or.inl ⟨h, k, r, rfl, hr, h0, h2⟩)))
  · exact Or.inr (Or.inr (Or.inr (Or.inr (Or.inr (Or.inr ⟨h, k, r, rfl, hr, h0, h2⟩)))))
/-- an array of ints of the grid, typed -/
theorem tyc_arr {R : List Nat} {hs : List CE} {k r N : Nat} {lo hi : Int} {f : Nat → Int32} (hs9 : shp hs k = some (32, N)) (h1 : kdK KCQ r = 32) (h2 : lnK KCQ r = N) (h3 : ∀ j, ftK KCQ r j = (1, 0, lo, hi) ∨ ftK KCQ r j = (8, 0, lo, hi)) (e : ∀ j, j < N → rd hs k j = .int (f j) ∧ lo ≤ (f j).toInt ∧ (f j).toInt ≤ hi) : TYC R hs k r := by
  refine ⟨by rw [h1, h2]; exact hs9, fun j hj => ?_⟩
  rw [h2] at hj
  obtain ⟨a, b, d⟩ := e j hj
  rw [a]
  rcases h3 j with q | q
  · rw [q]; exact vt_i9 (Or.inl rfl) b d
  · rw [q]; exact vt_i9 (Or.inr (Or.inr rfl)) b d
/-- the grid's cells, typed -/
theorem tyc_grid {R : List Nat} {hs : List CE} {g : Nat} {F : Nat → Nat → Int32} {fv w : Nat → Int} {o : Int} {nl ng nr n : Nat} (hG : GIM hs g F) (hR : REL F fv w o) (hS : SPR fv o nl ng nr n) (hZ : ZR fv) (hN : NWx fv w nl n ng nr) (rl : ∀ a, a ≤ 16 → R[g + a]? = some (GRL a)) : ∀ a, a ≤ 16 → TYC R hs (g + a) (GRL a) := by
  obtain ⟨w0, w1, w2, w3, w4, w5, w6, w7, w8, w9, wa, wb, wc, wd, we⟩ := hS
  obtain ⟨r0, r1, r2, r3, r4, r5, q1, q2, q3, q4, q5, q6, q7, q8, q9, q10, q11, q12⟩ := hR
  obtain ⟨⟨-, -, -, -, -, -, -, -, -, -, nL, nC, nP, nD⟩, nL1⟩ := hN
  have sh : ∀ q ∈ GST, shp hs (g + q.2.1) = some (q.2.2.1, q.2.2.2) := fun q hq => (hG.1.2.2.1 q hq).2
  have rfs : ∀ q ∈ GST, rd hs g q.1 = .ref (g + q.2.1) := fun q hq => (hG.1.2.2.1 q hq).1
  have nod : ∀ j, (5 ≤ j ∧ j < 22) ∨ (22 ≤ j ∧ j < 46 ∧ ((j - 22) % 4 = 1 ∨ (j - 22) % 4 = 2)) → 0 ≤ fv j ∧ fv j ≤ 3 := hZ
  have rng : ∀ x : Int32, -2147483648 ≤ x.toInt ∧ x.toInt ≤ 2147483647 := fun x => ⟨Int32.le_toInt _, Int32.toInt_le _⟩
  intro a ha
  match a, ha with
  | 0, _ =>
    refine ⟨hG.1.2.1, fun j hj => ?_⟩
    have hj : j < 18 := hj
    have i0 := hG.2 0 0 (Or.inl ⟨rfl, by decide⟩)
    have i1 := hG.2 0 1 (Or.inl ⟨rfl, by decide⟩)
    have i2 := hG.2 0 2 (Or.inl ⟨rfl, by decide⟩)
    have i3 := hG.2 0 3 (Or.inl ⟨rfl, by decide⟩)
    have i4 := hG.2 0 4 (Or.inl ⟨rfl, by decide⟩)
    have i5 := hG.2 0 5 (Or.inl ⟨rfl, by decide⟩)
    match j, hj with
    | 0, _ => rw [i0]; exact vt_i9 (Or.inl rfl) (by show (0 : Int) ≤ _; omega) (by show _ ≤ (4 : Int); omega)
    | 1, _ => rw [i1]; exact vt_i9 (Or.inl rfl) (by show (0 : Int) ≤ _; omega) (by show _ ≤ (4 : Int); omega)
    | 2, _ => rw [i2]; exact vt_i9 (Or.inr (Or.inl rfl)) (by show (0 : Int) ≤ _; omega) (by show _ ≤ (6 : Int); omega)
    | 3, _ => rw [i3]; exact vt_i9 (Or.inl rfl) (by show (0 : Int) ≤ _; omega) (by show _ ≤ (5 : Int); omega)
    | 4, _ => rw [i4]; exact vt_i9 (Or.inl rfl) (by show (0 : Int) ≤ _; omega) (by show _ ≤ (6 : Int); omega)
    | 5, _ => rw [i5]; exact vt_i9 (Or.inl rfl) (by show (-1 : Int) ≤ _; omega) (by show _ ≤ (5 : Int); omega)
    | 6, _ => rw [show rd hs (g + 0) 6 = .ref (g + 1) from rfs (6, 1, 32, 6) (by decide)]; exact vt_r9 (Or.inl rfl) (rl 1 (by decide)) (by decide) (by decide)
    | 7, _ => rw [show rd hs (g + 0) 7 = .ref (g + 2) from rfs (7, 2, 32, 6) (by decide)]; exact vt_r9 (Or.inl rfl) (rl 2 (by decide)) (by decide) (by decide)
    | 8, _ => rw [show rd hs (g + 0) 8 = .ref (g + 3) from rfs (8, 3, 32, 6) (by decide)]; exact vt_r9 (Or.inr rfl) (rl 3 (by decide)) (by decide) (by decide)
    | 9, _ => rw [show rd hs (g + 0) 9 = .ref (g + 4) from rfs (9, 4, 32, 6) (by decide)]; exact vt_r9 (Or.inl rfl) (rl 4 (by decide)) (by decide) (by decide)
    | 10, _ => rw [show rd hs (g + 0) 10 = .ref (g + 5) from rfs (10, 5, 32, 5) (by decide)]; exact vt_r9 (Or.inl rfl) (rl 5 (by decide)) (by decide) (by decide)
    | 11, _ => rw [show rd hs (g + 0) 11 = .ref (g + 6) from rfs (11, 6, 32, 5) (by decide)]; exact vt_r9 (Or.inl rfl) (rl 6 (by decide)) (by decide) (by decide)
    | 12, _ => rw [show rd hs (g + 0) 12 = .ref (g + 7) from rfs (12, 7, 32, 5) (by decide)]; exact vt_r9 (Or.inl rfl) (rl 7 (by decide)) (by decide) (by decide)
    | 13, _ => rw [show rd hs (g + 0) 13 = .ref (g + 8) from rfs (13, 8, 37, 4) (by decide)]; exact vt_r9 (Or.inl rfl) (rl 8 (by decide)) (by decide) (by decide)
    | 14, _ => rw [show rd hs (g + 0) 14 = .ref (g + 13) from rfs (14, 13, 32, 6) (by decide)]; exact vt_r9 (Or.inl rfl) (rl 13 (by decide)) (by decide) (by decide)
    | 15, _ => rw [show rd hs (g + 0) 15 = .ref (g + 14) from rfs (15, 14, 32, 6) (by decide)]; exact vt_r9 (Or.inl rfl) (rl 14 (by decide)) (by decide) (by decide)
    | 16, _ => rw [show rd hs (g + 0) 16 = .ref (g + 15) from rfs (16, 15, 32, 6) (by decide)]; exact vt_r9 (Or.inl rfl) (rl 15 (by decide)) (by decide) (by decide)
    | 17, _ => rw [show rd hs (g + 0) 17 = .ref (g + 16) from rfs (17, 16, 32, 6) (by decide)]; exact vt_r9 (Or.inl rfl) (rl 16 (by decide)) (by decide) (by decide)
    | j + 18, hj => exact absurd hj (by omega)
  | 1, _ => exact tyc_arr (N := 6) (f := F 1) (sh (6, 1, 32, 6) (by decide)) (by decide) (by decide) (fun _ => Or.inl rfl) (fun j hj => ⟨hG.2 1 j (by unfold gpl; omega), by have := nod (5 + j) (by omega); have := q1 j hj; omega⟩)
  | 2, _ => exact tyc_arr (N := 6) (f := F 2) (sh (7, 2, 32, 6) (by decide)) (by decide) (by decide) (fun _ => Or.inl rfl) (fun j hj => ⟨hG.2 2 j (by unfold gpl; omega), by have := nod (11 + j) (by omega); have := q2 j hj; omega⟩)
  | 3, _ => exact tyc_arr (N := 6) (f := F 3) (sh (8, 3, 32, 6) (by decide)) (by decide) (by decide) (fun _ => Or.inr rfl) (fun j hj => ⟨hG.2 3 j (by unfold gpl; omega), by have := nL (0 + j) (by omega); have := q3 j hj; omega⟩)
  | 4, _ => exact tyc_arr (N := 6) (f := F 4) (sh (9, 4, 32, 6) (by decide)) (by decide) (by decide) (fun _ => Or.inl rfl) (fun j hj => ⟨hG.2 4 j (by unfold gpl; omega), rng _⟩)
  | 5, _ => exact tyc_arr (N := 5) (f := F 5) (sh (10, 5, 32, 5) (by decide)) (by decide) (by decide) (fun _ => Or.inl rfl) (fun j hj => ⟨hG.2 5 j (by unfold gpl; omega), by have := nod (17 + j) (by omega); have := q5 j hj; omega⟩)
  | 6, _ => exact tyc_arr (N := 5) (f := F 6) (sh (11, 6, 32, 5) (by decide)) (by decide) (by decide) (fun _ => Or.inl rfl) (fun j hj => ⟨hG.2 6 j (by unfold gpl; omega), rng _⟩)
  | 7, _ => exact tyc_arr (N := 5) (f := F 7) (sh (12, 7, 32, 5) (by decide)) (by decide) (by decide) (fun _ => Or.inl rfl) (fun j hj => ⟨hG.2 7 j (by unfold gpl; omega), rng _⟩)
  | 8, _ =>
    refine ⟨sh (13, 8, 37, 4) (by decide), fun j hj => ?_⟩
    have hj : j < 4 := hj
    rw [(hG.1.2.2.2 j hj).1]
    match j, hj with
    | 0, _ => exact vt_r9 (Or.inl rfl) (rl 9 (by decide)) (by decide) (by decide)
    | 1, _ => exact vt_r9 (Or.inl rfl) (rl 10 (by decide)) (by decide) (by decide)
    | 2, _ => exact vt_r9 (Or.inl rfl) (rl 11 (by decide)) (by decide) (by decide)
    | 3, _ => exact vt_r9 (Or.inl rfl) (rl 12 (by decide)) (by decide) (by decide)
    | j + 4, hj => exact absurd hj (by omega)
  | 9, _ => exact tyc_arr (N := 4) (f := F 9) (hG.1.2.2.2 0 (by decide)).2 (by decide) (by decide) (fun _ => Or.inl rfl) (fun j hj => ⟨hG.2 9 j (by unfold gpl; omega), rng _⟩)
  | 10, _ => exact tyc_arr (N := 4) (f := F 10) (hG.1.2.2.2 1 (by decide)).2 (by decide) (by decide) (fun _ => Or.inl rfl) (fun j hj => ⟨hG.2 10 j (by unfold gpl; omega), rng _⟩)
  | 11, _ => exact tyc_arr (N := 4) (f := F 11) (hG.1.2.2.2 2 (by decide)).2 (by decide) (by decide) (fun _ => Or.inl rfl) (fun j hj => ⟨hG.2 11 j (by unfold gpl; omega), rng _⟩)
  | 12, _ => exact tyc_arr (N := 4) (f := F 12) (hG.1.2.2.2 3 (by decide)).2 (by decide) (by decide) (fun _ => Or.inl rfl) (fun j hj => ⟨hG.2 12 j (by unfold gpl; omega), rng _⟩)
  | 13, _ => exact tyc_arr (N := 6) (f := F 13) (sh (14, 13, 32, 6) (by decide)) (by decide) (by decide) (fun _ => Or.inl rfl) (fun j hj => ⟨hG.2 13 j (by unfold gpl; omega), rng _⟩)
  | 14, _ => exact tyc_arr (N := 6) (f := F 14) (sh (15, 14, 32, 6) (by decide)) (by decide) (by decide) (fun _ => Or.inl rfl) (fun j hj => ⟨hG.2 14 j (by unfold gpl; omega), by have := nod (22 + 4 * j + 1) (by omega); have := q10 j hj; omega⟩)
  | 15, _ => exact tyc_arr (N := 6) (f := F 15) (sh (16, 15, 32, 6) (by decide)) (by decide) (by decide) (fun _ => Or.inl rfl) (fun j hj => ⟨hG.2 15 j (by unfold gpl; omega), by have := nod (22 + 4 * j + 2) (by omega); have := q11 j hj; omega⟩)
  | 16, _ => exact tyc_arr (N := 6) (f := F 16) (sh (17, 16, 32, 6) (by decide)) (by decide) (by decide) (fun _ => Or.inl rfl) (fun j hj => ⟨hG.2 16 j (by unfold gpl; omega), rng _⟩)
  | a + 17, ha => exact absurd ha (by omega)
/-- longs where arrays of longs are -/
def AL9 (hs : List CE) : Prop := ∀ k N j : Nat, shp hs k = some (33, N) → j < N → ∃ x : Int64, rd hs k j = .long x
theorem vt_l9 {R : List Nat} {t : FT} {x : Int64} (h1 : t.1 = 2) (h2 : t.2.2.1 ≤ x.toInt) (h3 : x.toInt ≤ t.2.2.2) (h4 : t.2.1 ≠ 1) : VT KCQ R t (.long x) := Or.inr (Or.inr (Or.inl ⟨h1, x, rfl, h2, h3, fun z => absurd z h4⟩))
theorem tyc_lng {R : List Nat} {hs : List CE} {k r N : Nat} (hA : AL9 hs) (hs9 : shp hs k = some (33, N)) (h1 : kdK KCQ r = 33) (h2 : lnK KCQ r = N) (h3 : ∀ j, ftK KCQ r j = (2, 0, -9223372036854775808, 9223372036854775807)) : TYC R hs k r := by
  refine ⟨by rw [h1, h2]; exact hs9, fun j hj => ?_⟩
  rw [h2] at hj
  obtain ⟨x, e⟩ := hA k N j hs9 hj
  rw [e, h3 j]
  exact vt_l9 rfl x.le_toInt (Int.le_of_lt_add_one x.toInt_lt) (by decide)
theorem tyc_fac {R : List Nat} {hs : List CE} {b : Nat} {d : Int} (hF : FLS hs b) (hA : AL9 hs) (hD : TR9 hs b d) (h0 : 0 < d) (rl : ∀ a, a ≤ 16 → R[b + a]? = some (FRL a)) : ∀ a, a ≤ 16 → TYC R hs (b + a) (FRL a) := by
  obtain ⟨-, s0, ⟨a1, a2, a3⟩, ⟨s1, s8, s12⟩, r1, r2, r3⟩ := hF
  obtain ⟨t, e0, ht⟩ := hD
  intro a ha
  match a, ha with
  | 0, _ =>
    refine ⟨s0, fun j hj => ?_⟩
    have hj : j < 4 := hj
    match j, hj with
    | 0, _ => rw [show rd hs (b + 0) 0 = .long t from e0]; exact vt_l9 rfl (by show (-9223372036854775807 : Int) ≤ _; omega) (Int.le_of_lt_add_one t.toInt_lt) (by decide)
    | 1, _ => rw [show rd hs (b + 0) 1 = .ref (b + 1) from a1]; exact vt_r9 (Or.inl rfl) (rl 1 (by decide)) (by decide) (by decide)
    | 2, _ => rw [show rd hs (b + 0) 2 = .ref (b + 8) from a2]; exact vt_r9 (Or.inl rfl) (rl 8 (by decide)) (by decide) (by decide)
    | 3, _ => rw [show rd hs (b + 0) 3 = .ref (b + 12) from a3]; exact vt_r9 (Or.inl rfl) (rl 12 (by decide)) (by decide) (by decide)
    | j + 4, hj => exact absurd hj (by omega)
  | 1, _ =>
    refine ⟨s1, fun j hj => ?_⟩
    have hj : j < 6 := hj
    rw [(r1 j hj).1]
    match j, hj with
    | 0, _ => exact vt_r9 (Or.inl rfl) (rl 2 (by decide)) (by decide) (by decide)
    | 1, _ => exact vt_r9 (Or.inl rfl) (rl 3 (by decide)) (by decide) (by decide)
    | 2, _ => exact vt_r9 (Or.inl rfl) (rl 4 (by decide)) (by decide) (by decide)
    | 3, _ => exact vt_r9 (Or.inl rfl) (rl 5 (by decide)) (by decide) (by decide)
    | 4, _ => exact vt_r9 (Or.inl rfl) (rl 6 (by decide)) (by decide) (by decide)
    | 5, _ => exact vt_r9 (Or.inl rfl) (rl 7 (by decide)) (by decide) (by decide)
    | j + 6, hj => exact absurd hj (by omega)
  | 2, _ => exact tyc_lng hA (r1 0 (by decide)).2 (by decide) (by decide) (fun _ => rfl)
  | 3, _ => exact tyc_lng hA (r1 1 (by decide)).2 (by decide) (by decide) (fun _ => rfl)
  | 4, _ => exact tyc_lng hA (r1 2 (by decide)).2 (by decide) (by decide) (fun _ => rfl)
  | 5, _ => exact tyc_lng hA (r1 3 (by decide)).2 (by decide) (by decide) (fun _ => rfl)
  | 6, _ => exact tyc_lng hA (r1 4 (by decide)).2 (by decide) (by decide) (fun _ => rfl)
  | 7, _ => exact tyc_lng hA (r1 5 (by decide)).2 (by decide) (by decide) (fun _ => rfl)
  | 8, _ =>
    refine ⟨s8, fun j hj => ?_⟩
    have hj : j < 3 := hj
    rw [(r2 j hj).1]
    match j, hj with
    | 0, _ => exact vt_r9 (Or.inl rfl) (rl 9 (by decide)) (by decide) (by decide)
    | 1, _ => exact vt_r9 (Or.inl rfl) (rl 10 (by decide)) (by decide) (by decide)
    | 2, _ => exact vt_r9 (Or.inl rfl) (rl 11 (by decide)) (by decide) (by decide)
    | j + 3, hj => exact absurd hj (by omega)
  | 9, _ => exact tyc_lng hA (r2 0 (by decide)).2 (by decide) (by decide) (fun _ => rfl)
  | 10, _ => exact tyc_lng hA (r2 1 (by decide)).2 (by decide) (by decide) (fun _ => rfl)
  | 11, _ => exact tyc_lng hA (r2 2 (by decide)).2 (by decide) (by decide) (fun _ => rfl)
  | 12, _ =>
    refine ⟨s12, fun j hj => ?_⟩
    have hj : j < 4 := hj
    rw [(r3 j hj).1]
    match j, hj with
    | 0, _ => exact vt_r9 (Or.inl rfl) (rl 13 (by decide)) (by decide) (by decide)
    | 1, _ => exact vt_r9 (Or.inl rfl) (rl 14 (by decide)) (by decide) (by decide)
    | 2, _ => exact vt_r9 (Or.inl rfl) (rl 15 (by decide)) (by decide) (by decide)
    | 3, _ => exact vt_r9 (Or.inl rfl) (rl 16 (by decide)) (by decide) (by decide)
    | j + 4, hj => exact absurd hj (by omega)
  | 13, _ => exact tyc_lng hA (r3 0 (by decide)).2 (by decide) (by decide) (fun _ => rfl)
  | 14, _ => exact tyc_lng hA (r3 1 (by decide)).2 (by decide) (by decide) (fun _ => rfl)
  | 15, _ => exact tyc_lng hA (r3 2 (by decide)).2 (by decide) (by decide) (fun _ => rfl)
  | 16, _ => exact tyc_lng hA (r3 3 (by decide)).2 (by decide) (by decide) (fun _ => rfl)
  | a + 17, ha => exact absurd ha (by omega)
