/-! A contract, used by one that knows the types alone. -/
def RE9 : List EV := [(0, 700, false), (0, 700, false), (0, 700, false), (0, 700, false), (-9223372036854775808, 9223372036854775807, false), (0, 36, false), (0, 4, false)]
def rgA (m : Nat) : List AV := [(1, m, 0, 0), (1, m + 1, 0, 0), (1, m + 2, 0, 0), (1, m + 3, 0, 0), (2, m + 4, 0, 0), (1, m + 5, 0, 0), (1, m + 6, 0, 0)]
def sgF (vs : List Int32) (f : Nat → Int) : Nat → Int := fun s => if s < vs.length then (vs.getD s 0).toInt else f (s - vs.length)
theorem sgF_hi (vs : List Int32) (f : Nat → Int) (j : Nat) : sgF vs f (vs.length + j) = f j := by
  unfold sgF
  rw [if_neg (by omega), show vs.length + j - vs.length = j by omega]
def rF (y0 y1 y2 y3 : Int32) (y4 : Int64) (y5 y6 : Int32) : Nat → Int := fun j => match j with | 0 => y0.toInt | 1 => y1.toInt | 2 => y2.toInt | 3 => y3.toInt | 4 => y4.toInt | 5 => y5.toInt | 6 => y6.toInt | _ => 0
theorem reg_sig {R : List Nat} {hs : List CE} (hT : HTy KC R hs) (vs : List Int32) (es : List EV) (hl : es.length = vs.length) (hv : ∀ i, i < vs.length → (es.getD i (0, 0, false)).1 ≤ (vs.getD i 0).toInt ∧ (vs.getD i 0).toInt ≤ (es.getD i (0, 0, false)).2.1 ∧ (es.getD i (0, 0, false)).2.2 = false) :
    ∃ σ : Nat → Int, (∀ i, i < vs.length → σ i = (vs.getD i 0).toInt) ∧ EM (es ++ RE9) σ ∧ RgM KC hs R (es ++ RE9).length σ (rgA vs.length) ∧ ∃ y : Int32, rd hs 54 0 = .int y ∧ σ vs.length = y.toInt := by
  obtain ⟨y0, y1, y2, y3, y4, y5, y6, ⟨e0, a0, b0⟩, ⟨e1, a1, b1⟩, ⟨e2, a2, b2⟩, ⟨e3, a3, b3⟩, ⟨e4, a4, b4⟩, ⟨e5, a5, b5⟩, ⟨e6, a6, b6⟩⟩ := rg7 hT
  refine ⟨sgF vs (rF y0 y1 y2 y3 y4 y5 y6), fun i hi => if_pos hi, fun s hs9 => ?_, fun i q a hi ha => ?_, y0, e0, sgF_hi vs _ 0⟩
  · have hs9 : s < (es ++ RE9).length := hs9
    rw [List.length_append] at hs9
    unfold evg
    by_cases q : s < vs.length
    · obtain ⟨w1, w2, w3⟩ := hv s q
      have e : (es ++ RE9).getD s (0, 0, false) = es.getD s (0, 0, false) := by
        rw [List.getD_eq_getElem?_getD, List.getD_eq_getElem?_getD, List.getElem?_append_left (by omega)]
      rw [e]
      rw [show sgF vs (rF y0 y1 y2 y3 y4 y5 y6) s = (vs.getD s 0).toInt from if_pos q]
      exact ⟨w1, w2, fun z => by rw [w3] at z; cases z⟩
    · obtain ⟨j, rfl⟩ : ∃ j, s = vs.length + j := ⟨s - vs.length, by omega⟩
      have hj : j < 7 := by have : RE9.length = 7 := rfl; omega
      have e : (es ++ RE9).getD (vs.length + j) (0, 0, false) = RE9.getD j (0, 0, false) := by
        rw [List.getD_eq_getElem?_getD, List.getD_eq_getElem?_getD, List.getElem?_append_right (by omega), show vs.length + j - es.length = j by omega]
      rw [e]
      rw [sgF_hi]
      rcases (show j = 0 ∨ j = 1 ∨ j = 2 ∨ j = 3 ∨ j = 4 ∨ j = 5 ∨ j = 6 by omega) with rfl | rfl | rfl | rfl | rfl | rfl | rfl
      · exact ⟨a0, b0, fun h => by cases h⟩
      · exact ⟨a1, b1, fun h => by cases h⟩
      · exact ⟨a2, b2, fun h => by cases h⟩
      · exact ⟨a3, b3, fun h => by cases h⟩
      · exact ⟨a4, b4, fun h => by cases h⟩
      · exact ⟨a5, b5, fun h => by cases h⟩
      · exact ⟨a6, b6, fun h => by cases h⟩
  · have hN : (es ++ RE9).length = vs.length + 7 := by rw [List.length_append, hl]; rfl
    rw [hN]
    match i, hi, ha with
    | 0, hi, ha => cases hi; cases ha; show VM _ _ _ _ _ _ _ (rd _ 54 0); rw [e0]; exact Or.inr (Or.inl ⟨rfl, _, rfl, by show vs.length < _; omega, by show _ = sgF vs (rF y0 y1 y2 y3 y4 y5 y6) (vs.length + 0) + (0 : Int); rw [sgF_hi, Int.add_zero]; rfl⟩)
    | 1, hi, ha => cases hi; cases ha; show VM _ _ _ _ _ _ _ (rd _ 54 6); rw [e1]; exact Or.inr (Or.inl ⟨rfl, _, rfl, by show vs.length + 1 < _; omega, by show _ = sgF vs (rF y0 y1 y2 y3 y4 y5 y6) (vs.length + 1) + (0 : Int); rw [sgF_hi, Int.add_zero]; rfl⟩)
    | 2, hi, ha => cases hi; cases ha; show VM _ _ _ _ _ _ _ (rd _ 54 8); rw [e2]; exact Or.inr (Or.inl ⟨rfl, _, rfl, by show vs.length + 2 < _; omega, by show _ = sgF vs (rF y0 y1 y2 y3 y4 y5 y6) (vs.length + 2) + (0 : Int); rw [sgF_hi, Int.add_zero]; rfl⟩)
    | 3, hi, ha => cases hi; cases ha; show VM _ _ _ _ _ _ _ (rd _ 54 9); rw [e3]; exact Or.inr (Or.inl ⟨rfl, _, rfl, by show vs.length + 3 < _; omega, by show _ = sgF vs (rF y0 y1 y2 y3 y4 y5 y6) (vs.length + 3) + (0 : Int); rw [sgF_hi, Int.add_zero]; rfl⟩)
    | 4, hi, ha => cases hi; cases ha; show VM _ _ _ _ _ _ _ (rd _ 77 1); rw [e4]; exact Or.inr (Or.inr (Or.inl ⟨rfl, _, rfl, by show vs.length + 4 < _; omega, by show _ = sgF vs (rF y0 y1 y2 y3 y4 y5 y6) (vs.length + 4); rw [sgF_hi]; rfl⟩))
    | 5, hi, ha => cases hi; cases ha; show VM _ _ _ _ _ _ _ (rd _ 77 3); rw [e5]; exact Or.inr (Or.inl ⟨rfl, _, rfl, by show vs.length + 5 < _; omega, by show _ = sgF vs (rF y0 y1 y2 y3 y4 y5 y6) (vs.length + 5) + (0 : Int); rw [sgF_hi, Int.add_zero]; rfl⟩)
    | 6, hi, ha => cases hi; cases ha; show VM _ _ _ _ _ _ _ (rd _ 54 7); rw [e6]; exact Or.inr (Or.inl ⟨rfl, _, rfl, by show vs.length + 6 < _; omega, by show _ = sgF vs (rF y0 y1 y2 y3 y4 y5 y6) (vs.length + 6) + (0 : Int); rw [sgF_hi, Int.add_zero]; rfl⟩)
    | i + 7, hi, ha => cases hi
/-- arguments: the references first, then the ints, then references -/
def AVs (R : List Nat) : List AV → List Value → List Int32 → Nat → Prop
  | [], [], [], _ => True
  | a :: as, v :: ws, vs, i => (a.1 = 3 ∧ ofG KC R a.2.1 v ∧ AVs R as ws vs i) ∨ ∃ (x : Int32) (vs' : List Int32), a = (1, i, 0, 0) ∧ v = .int x ∧ vs = x :: vs' ∧ AVs R as ws vs' (i + 1)
  | _, _, _, _ => False
theorem AVs.sv {R : List Nat} {hs : List CE} {n : Nat} {σ : Nat → Int} : ∀ {as : List AV} {ws : List Value} {vs : List Int32} {i : Nat}, AVs R as ws vs i → (∀ j, j < vs.length → σ (i + j) = (vs.getD j 0).toInt) → i + vs.length ≤ n → SV (VM KC 0 hs R n σ) as ws
  | [], [], [], _, _, _, _ => rfl
  | a :: as, v :: ws, vs, i, h, hσ, hn => by
    rcases h with ⟨h1, h2, h3⟩ | ⟨x, vs', rfl, rfl, rfl, h3⟩
    · exact ⟨v, ws, rfl, Or.inr (Or.inr (Or.inr (Or.inl ⟨h1, h2⟩))), AVs.sv h3 hσ hn⟩
    · have hn : i + (vs'.length + 1) ≤ n := hn
      have h0 := hσ 0 (by show 0 < vs'.length + 1; omega)
      exact ⟨_, ws, rfl, Or.inr (Or.inl ⟨rfl, x, rfl, by show i < n; omega, by show x.toInt = σ i + (0 : Int); rw [Int.add_zero]; exact h0.symm⟩), AVs.sv h3 (fun j hj => by have := hσ (j + 1) (by show j + 1 < vs'.length + 1; omega); rw [show i + 1 + j = i + (j + 1) by omega]; exact this) (by omega)⟩
  | [], [], _ :: _, _, h, _, _ => absurd h id
  | [], _ :: _, _, _, h, _, _ => by cases h
  | _ :: _, [], _, _, h, _, _ => by cases h
/-- what a contract leaves for one that looks at types and at the text's length alone -/
def PoU (c : CT9) (R : List Nat) (hs : List CE) : Nat → Option Value → List CE → Prop := fun kd r h2 => ∃ (R' : List Nat) (pt : PS9), pt ∈ c.2.2.1 ∧ pt.1 = kd ∧ HX KC InvC R hs R' h2 ∧ h2.length ≤ hs.length + c.2.2.2.2.2.1 ∧ (∀ a : AV, pt.2.2.1 = [a] → a.1 = 1 → ∃ x : Int32, r = some (.int x)) ∧ (pt.2.2.1 = [] → r = none) ∧
  ∀ (s : Nat) (δ : Int), pt.2.2.2.1[0]? = some (1, s, 0, δ) → (s = c.2.1.1.length - 7 → δ = 0 → rd h2 54 0 = rd hs 54 0) ∧ ∃ x : Int32, rd h2 54 0 = .int x ∧ (evg (pt.2.2.2.2 ++ pt.2.1) s).1 + δ ≤ x.toInt ∧ x.toInt ≤ (evg (pt.2.2.2.2 ++ pt.2.1) s).2.1 + δ
theorem i_same {x y : Int32} (h : x.toInt = y.toInt) : x = y := Int32.toInt_inj.mp h
theorem sem_use {c : CT9} (hc : SemC KC InvC c) {d : MD} (hd : mdx c.1 = some d) {es : List EV} (he : c.2.1.1 = es ++ RE9) {vs : List Int32} (hr : c.2.1.2.2 = rgA vs.length) (hl : es.length = vs.length) (hp : ∀ pt ∈ c.2.2.1, pt.2.2.2.2.length = c.2.1.1.length ∧ ∀ a ∈ pt.2.2.2.1.head?.toList, a.1 = 1 → a.2.1 < (c.2.1.1 ++ pt.2.1).length)
    {g0 : GG} {bl : Nat} {xs : Nat → Int32} {l : Launch} {hs : List CE} {R : List Nat} {ws : List Value} (hTY : TYg g0) (hT : HTy KC R hs) (hI : InvC R hs) (hlen : hs.length + c.2.2.2.2.2.1 ≤ 6999999999999) (hv : ∀ i, i < vs.length → (es.getD i (0, 0, false)).1 ≤ (vs.getD i 0).toInt ∧ (vs.getD i 0).toInt ≤ (es.getD i (0, 0, false)).2.1 ∧ (es.getD i (0, 0, false)).2.2 = false) (hA : AVs R c.2.1.2.1 ws vs 0) :
    BodyN SSX TBL g0 CLS bl xs l d c.2.2.2.1 c.2.2.2.2.1 c.2.2.2.2.2.1 (11 * c.2.2.2.2.2.1) ws hs (PoU c R hs) := by
  obtain ⟨d', hd', -, hb⟩ := hc
  obtain rfl : d = d' := Option.some.inj (hd.symm.trans hd')
  obtain ⟨σ, s1, s2, s3, y, e0, sy⟩ := reg_sig hT vs es hl hv
  refine (hb g0 bl xs l hs R σ ws hTY hT hI hlen (by rw [he]; exact s2) (by rw [he]; exact hA.sv (fun j hj => by rw [Nat.zero_add]; exact s1 j hj) (by rw [List.length_append, hl]; omega)) (by rw [he, hr]; exact s3)).imp ?_
  rintro kd r h2 ⟨R', σ', pt, hm, hk, hX, hln, hσ, hpl, hE, hS, hRg⟩
  refine ⟨R', pt, hm, hk, hX, hln, fun a ha h1 => ?_, fun ha => ?_, fun s δ hsδ => ?_⟩
  · rw [ha] at hS
    obtain ⟨v, S', e1, h2, h3⟩ := hS
    obtain ⟨x, rfl, -, -⟩ := h2.int h1
    have h3 : S' = [] := h3
    subst h3
    cases r with
    | none => cases e1
    | some z => cases e1; exact ⟨x, rfl⟩
  · rw [ha] at hS
    have hS : r.toList = [] := hS
    cases r with
    | none => rfl
    | some z => cases hS
  · obtain ⟨x, ex, sl, es9⟩ := (hRg 0 (6, 54, 0) (1, s, 0, δ) rfl hsδ).int rfl
    have ex : rd h2 54 0 = .int x := ex
    have es9 : x.toInt = σ' s + δ := es9
    refine ⟨fun q1 q2 => ?_, x, ex, ?_⟩
    · have hs7 : c.2.1.1.length - 7 = vs.length := by rw [he, List.length_append, hl]; show vs.length + 7 - 7 = _; omega
      have : σ' s = y.toInt := by
        rw [q1, hs7]
        rw [hσ vs.length (by rw [he, List.length_append, hl]; show vs.length < vs.length + 7; omega)]
        exact sy
      rw [ex, e0]
      rw [i_same (x := x) (y := y) (by omega)]
    · have hsl : s < (pt.2.2.2.2 ++ pt.2.1).length := by
        rw [List.length_append, hpl, ← List.length_append]
        exact sl
      have q := hE s hsl
      omega
