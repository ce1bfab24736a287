/-! States with plain values: references are numbers of cells; a cell is its kind, its length, its contents. The rows of the kit over them. -/
abbrev CE : Type := Nat × Nat × (Nat → Value)
/-- the cells, and how many cells and slots are counted so far -/
abbrev HN : Type := List CE × Nat × Nat
abbrev LN : Type := List (Option Value)
def VN (g : GG) (ws : va_W) (v v' : Value) : Prop := match v with
  | .ref k => (∃ (a : Nat) (e : va_E), ws[k]? = some (a, e) ∧ v' = .ref a) ∨ (k = 7000000000001 ∧ ∃ a : Nat, v' = .ref a) ∨ (k = 7000000000002 ∧ v' = .ref g.2.2.1) ∨ (7000000000003 ≤ k ∧ v' = .ref (if k = 7000000000003 then g.2.2.2.1 else g.1.2 1000 (k - 7000000000010)))
  | x => v' = x
theorem VN.mono {g : GG} {ws ws' : va_W} {v v' : Value} (h : VN g ws v v') (hl : wsle ws ws') : VN g ws' v v' := by
  cases v with
  | ref k =>
    rcases h with ⟨a, e, h1, h2⟩ | h
    · obtain ⟨e', h3⟩ := hl k a e h1
      exact Or.inl ⟨a, e', h3, h2⟩
    · exact Or.inr h
  | _ => exact h
theorem VN.cat {g : GG} {ws : va_W} {v v' : Value} (h : VN g ws v v') : v'.category = v.category := by
  cases v with
  | ref k => rcases h with ⟨a, e, h1, rfl⟩ | ⟨_, a, rfl⟩ | ⟨_, rfl⟩ | ⟨_, rfl⟩ <;> rfl
  | _ => have h : v' = _ := h; rw [h]
theorem VN.isref {g : GG} {ws : va_W} {k : Nat} {v' : Value} (h : VN g ws (.ref k) v') : ∃ a : Nat, v' = .ref a := by
  rcases h with ⟨a, e, h1, rfl⟩ | ⟨_, a, rfl⟩ | ⟨_, rfl⟩ | ⟨_, rfl⟩ <;> exact ⟨_, rfl⟩
theorem VN.cell {g : GG} {ws : va_W} {k : Nat} {v' : Value} (h : VN g ws (.ref k) v') (hk : k < 7000000000001) : ∃ (a : Nat) (e : va_E), ws[k]? = some (a, e) ∧ v' = .ref a := by
  rcases h with h | ⟨q, _⟩ | ⟨q, _⟩ | ⟨q, _⟩
  · exact h
  · exact absurd hk (by rw [q]; decide)
  · exact absurd hk (by rw [q]; decide)
  · exact absurd (Nat.lt_of_lt_of_le hk (by decide : 7000000000001 ≤ 7000000000003)) (Nat.not_lt.mpr q)
/-- the literal at place i -/
def litK (i : Nat) : Nat := 7000000000010 + i
theorem VN.lit (g : GG) (ws : va_W) (i : Nat) : VN g ws (.ref (litK i)) (.ref (g.1.2 1000 i)) := by
  have h1 : 7000000000003 ≤ litK i := by unfold litK; omega
  have h2 : ¬ litK i = 7000000000003 := by unfold litK; omega
  have h3 : litK i - 7000000000010 = i := by unfold litK; omega
  refine Or.inr (Or.inr (Or.inr ⟨h1, ?_⟩))
  rw [if_neg h2, h3]
theorem VN.any (g : GG) (ws : va_W) (a : Nat) : VN g ws (.ref 7000000000001) (.ref a) := Or.inr (Or.inl ⟨rfl, a, rfl⟩)
def SRN (g : GG) (ws : va_W) : List Value → List Value → Prop
  | [], st => st = [] ∧ wsle g.2.2.2.2.2 ws
  | v :: S, st => ∃ (v' : Value) (st' : List Value), st = v' :: st' ∧ VN g ws v v' ∧ SRN g ws S st'
theorem SRN.mono {g : GG} {ws ws' : va_W} (hl : wsle ws ws') : ∀ {S st : List Value}, SRN g ws S st → SRN g ws' S st
  | [], _, h => ⟨h.1, h.2.tr hl⟩
  | _ :: _, _, h => by
    obtain ⟨v', st', e, h1, h2⟩ := h
    exact ⟨v', st', e, h1.mono hl, SRN.mono hl h2⟩
theorem SRN.pins {g : GG} {ws : va_W} : ∀ {S st : List Value}, SRN g ws S st → wsle g.2.2.2.2.2 ws
  | [], _, h => h.2
  | _ :: _, _, h => by
    obtain ⟨v', st', e, h1, h2⟩ := h
    exact SRN.pins h2
theorem SRN.push {g : GG} {ws : va_W} {S st : List Value} {v v' : Value} (h : SRN g ws S st) (hv : VN g ws v v') : SRN g ws (v :: S) (v' :: st) := ⟨v', st, rfl, hv, h⟩
theorem SRN.cats {g : GG} {ws : va_W} : ∀ {S st : List Value}, SRN g ws S st → (st.map fun v => v.category).sum = (S.map fun v => v.category).sum
  | [], _, h => by rw [h.1]
  | _ :: _, _, h => by
    obtain ⟨v', st', rfl, h1, h2⟩ := h
    rw [List.map_cons, List.map_cons, List.sum_cons, List.sum_cons, h1.cat, SRN.cats h2]
def LRN (g : GG) (ws : va_W) (nL : Nat) (L : LN) (ls : Array Slot) : Prop := ∃ lv : List (Nat × Value), lv_has ls nL lv ∧ ∀ (i : Nat) (v : Value), L[i]? = some (some v) → ∃ v' : Value, (i, v') ∈ lv ∧ VN g ws v v'
theorem LRN.mono {g : GG} {ws ws' : va_W} {nL : Nat} {L : LN} {ls : Array Slot} (h : LRN g ws nL L ls) (hl : wsle ws ws') : LRN g ws' nL L ls := by
  obtain ⟨lv, h1, h2⟩ := h
  exact ⟨lv, h1, fun i v hi => by obtain ⟨v', a, b⟩ := h2 i v hi; exact ⟨v', a, b.mono hl⟩⟩
theorem LRN.at {g : GG} {ws : va_W} {nL : Nat} {L : LN} {ls : Array Slot} (h : LRN g ws nL L ls) {i : Nat} {v : Value} (hi : L[i]? = some (some v)) : ∃ v' : Value, ls[i]? = some (.val v') ∧ VN g ws v v' := by
  obtain ⟨lv, h1, h2⟩ := h
  obtain ⟨v', a, b⟩ := h2 i v hi
  exact ⟨v', h1.2.2 _ a, b⟩
theorem LRN.size {g : GG} {ws : va_W} {nL : Nat} {L : LN} {ls : Array Slot} (h : LRN g ws nL L ls) : ls.size = nL := by
  obtain ⟨lv, h1, -⟩ := h
  exact h1.1
/-- the local below a, where it is wide, is nothing from now on -/
def cutN (L : LN) (a : Nat) : LN := match a with
  | 0 => L
  | b + 1 => match L[b]? with
    | some (some v) => if v.category = 2 then L.set b none else L
    | _ => L
theorem cutN_get {L : LN} {a i : Nat} {v : Value} (h : (cutN L a)[i]? = some (some v)) : L[i]? = some (some v) ∧ (i + 1 = a → v.category ≠ 2) := by
  unfold cutN at h
  cases a with
  | zero => exact ⟨h, fun q => by omega⟩
  | succ b =>
    cases hb : L[b]? with
    | none => simp only [hb] at h; exact ⟨h, fun q => by rw [show i = b by omega] at h; rw [hb] at h; cases h⟩
    | some o =>
      cases o with
      | none => simp only [hb] at h; exact ⟨h, fun q => by rw [show i = b by omega] at h; rw [hb] at h; cases h⟩
      | some u =>
        simp only [hb] at h
        by_cases hc : u.category = 2
        · rw [if_pos hc] at h
          by_cases hi : i = b
          · subst hi
            rw [List.getElem?_set_self (List.getElem?_eq_some_iff.mp hb).1] at h
            cases h
          · rw [List.getElem?_set_ne (fun q => hi q.symm)] at h
            exact ⟨h, fun q => by omega⟩
        · rw [if_neg hc] at h
          refine ⟨h, fun q => ?_⟩
          rw [show i = b by omega, hb] at h
          cases h
          exact hc
def st1 (L : LN) (a : Nat) (v : Value) : LN := (cutN L a).set a (some v)
def stw2 (L : LN) (a : Nat) (v : Value) : LN := ((cutN L a).set a (some v)).set (a + 1) none
theorem LRN.st1 {g : GG} {ws : va_W} {nL : Nat} {L : LN} {a : Nat} {w : Value} {lv : List (Nat × Value)} {ls' : Array Slot} {v : Value} (h2 : ∀ (i : Nat) (u : Value), L[i]? = some (some u) → ∃ v' : Value, (i, v') ∈ lv ∧ VN g ws u v') (hv : VN g ws w v)
    (hls : lv_has ls' nL ((a, v) :: lv.filter (fun q => !(q.1 == a) && !(q.1 + 1 == a && q.2.category == 2)))) : LRN g ws nL (st1 L a w) ls' := by
  refine ⟨_, hls, fun i u hi => ?_⟩
  by_cases q : i = a
  · subst q
    rcases Nat.lt_or_ge i (cutN L i).length with hl | hl
    · have hi : ((cutN L i).set i (some w))[i]? = some (some u) := hi
      rw [List.getElem?_set_self hl] at hi
      cases hi
      exact ⟨v, List.mem_cons_self, hv⟩
    · have hi : ((cutN L i).set i (some w))[i]? = some (some u) := hi
      rw [List.set_eq_of_length_le hl, List.getElem?_eq_none hl] at hi
      cases hi
  · have hi : ((cutN L a).set a (some w))[i]? = some (some u) := hi
    rw [List.getElem?_set_ne (fun r => q r.symm)] at hi
    obtain ⟨h3, h4⟩ := cutN_get hi
    obtain ⟨v', m1, m2⟩ := h2 i u h3
    refine ⟨v', List.mem_cons_of_mem _ (List.mem_filter.mpr ⟨m1, ?_⟩), m2⟩
    have hc := m2.cat
    by_cases r : i + 1 = a
    · have := h4 r
      simp [q, hc, this]
    · simp [q, r]
theorem LRN.st2 {g : GG} {ws : va_W} {nL : Nat} {L : LN} {a : Nat} {w : Value} {lv : List (Nat × Value)} {ls' : Array Slot} {v : Value} (h2 : ∀ (i : Nat) (u : Value), L[i]? = some (some u) → ∃ v' : Value, (i, v') ∈ lv ∧ VN g ws u v') (hv : VN g ws w v)
    (hls : lv_has ls' nL ((a, v) :: lv.filter (fun q => !(q.1 == a) && (!(q.1 == a + 1) && !(q.1 + 1 == a && q.2.category == 2))))) : LRN g ws nL (stw2 L a w) ls' := by
  refine ⟨_, hls, fun i u hi => ?_⟩
  have hi : (((cutN L a).set a (some w)).set (a + 1) none)[i]? = some (some u) := hi
  by_cases q1 : i = a + 1
  · subst q1
    rcases Nat.lt_or_ge (a + 1) ((cutN L a).set a (some w)).length with hl | hl
    · rw [List.getElem?_set_self hl] at hi; cases hi
    · rw [List.set_eq_of_length_le hl, List.getElem?_eq_none hl] at hi; cases hi
  · rw [List.getElem?_set_ne (fun r => q1 r.symm)] at hi
    by_cases q : i = a
    · subst q
      rcases Nat.lt_or_ge i (cutN L i).length with hl | hl
      · rw [List.getElem?_set_self hl] at hi
        cases hi
        exact ⟨v, List.mem_cons_self, hv⟩
      · rw [List.set_eq_of_length_le hl, List.getElem?_eq_none hl] at hi
        cases hi
    · rw [List.getElem?_set_ne (fun r => q r.symm)] at hi
      obtain ⟨h3, h4⟩ := cutN_get hi
      obtain ⟨v', m1, m2⟩ := h2 i u h3
      refine ⟨v', List.mem_cons_of_mem _ (List.mem_filter.mpr ⟨m1, ?_⟩), m2⟩
      have hc := m2.cat
      by_cases r : i + 1 = a
      · have := h4 r
        simp [q, q1, hc, this]
      · simp [q, q1, r]
def CNR (g : GG) (ws : va_W) (c : CE) (e : va_E) : Prop :=
  (c.1 < 32 ∧ ∃ fs : List Value, e = .inr (c.1, fs) ∧ fs.length = c.2.1 ∧ ∀ j : Nat, j < c.2.1 → ∃ v : Value, fs[j]? = some v ∧ VN g ws (c.2.2 j) v)
  ∨ ((c.1 = 32 ∨ c.1 = 34 ∨ c.1 = 35) ∧ ∃ (cA : ClassId) (f : Nat → Int32), e = .inl (cA, c.2.1, .inl f) ∧ g.2.1[c.1 - 32]? = some (cA, aty c.1) ∧ ∀ j : Nat, j < c.2.1 → c.2.2 j = .int (f j))
  ∨ (c.1 = 33 ∧ ∃ (cA : ClassId) (f : Nat → Int64), e = .inl (cA, c.2.1, .inr (.inl f)) ∧ g.2.1[c.1 - 32]? = some (cA, aty c.1) ∧ ∀ j : Nat, j < c.2.1 → c.2.2 j = .long (f j))
  ∨ (c.1 = 36 ∧ ∃ (cA : ClassId) (f : Nat → UInt64), e = .inl (cA, c.2.1, .inr (.inr (.inr (.inl f)))) ∧ g.2.1[c.1 - 32]? = some (cA, aty c.1) ∧ ∀ j : Nat, j < c.2.1 → c.2.2 j = .double (f j))
  ∨ (37 ≤ c.1 ∧ ∃ (cA : ClassId) (f : Nat → Option Nat), e = .inl (cA, c.2.1, .inr (.inr (.inr (.inr f)))) ∧ g.2.1[c.1 - 32]? = some (cA, aty c.1) ∧ ∀ j : Nat, j < c.2.1 → VN g ws (c.2.2 j) (va_rf (f j)))
theorem CNR.mono {g : GG} {ws ws' : va_W} {c : CE} {e : va_E} (h : CNR g ws c e) (hl : wsle ws ws') : CNR g ws' c e := by
  rcases h with ⟨h1, fs, h2, h3, h4⟩ | h | h | h | ⟨h1, cA, f, h2, h3, h4⟩
  · exact Or.inl ⟨h1, fs, h2, h3, fun j hj => by obtain ⟨v, a, b⟩ := h4 j hj; exact ⟨v, a, b.mono hl⟩⟩
  · exact Or.inr (Or.inl h)
  · exact Or.inr (Or.inr (Or.inl h))
  · exact Or.inr (Or.inr (Or.inr (Or.inl h)))
  · exact Or.inr (Or.inr (Or.inr (Or.inr ⟨h1, cA, f, h2, h3, fun j hj => (h4 j hj).mono hl⟩)))
theorem CNR.obj {g : GG} {ws : va_W} {c : CE} {e : va_E} (h : CNR g ws c e) (h1 : c.1 < 32) : ∃ fs : List Value, e = .inr (c.1, fs) ∧ fs.length = c.2.1 ∧ ∀ j : Nat, j < c.2.1 → ∃ v : Value, fs[j]? = some v ∧ VN g ws (c.2.2 j) v := by
  rcases h with ⟨-, h⟩ | ⟨q, -⟩ | ⟨q, -⟩ | ⟨q, -⟩ | ⟨q, -⟩
  · exact h
  all_goals omega
theorem CNR.ints {g : GG} {ws : va_W} {c : CE} {e : va_E} (h : CNR g ws c e) (h1 : c.1 = 32 ∨ c.1 = 34 ∨ c.1 = 35) : ∃ (cA : ClassId) (f : Nat → Int32), e = .inl (cA, c.2.1, .inl f) ∧ g.2.1[c.1 - 32]? = some (cA, aty c.1) ∧ ∀ j : Nat, j < c.2.1 → c.2.2 j = .int (f j) := by
  rcases h with ⟨q, -⟩ | ⟨-, h⟩ | ⟨q, -⟩ | ⟨q, -⟩ | ⟨q, -⟩
  · omega
  · exact h
  all_goals omega
theorem CNR.longs {g : GG} {ws : va_W} {c : CE} {e : va_E} (h : CNR g ws c e) (h1 : c.1 = 33) : ∃ (cA : ClassId) (f : Nat → Int64), e = .inl (cA, c.2.1, .inr (.inl f)) ∧ g.2.1[c.1 - 32]? = some (cA, aty c.1) ∧ ∀ j : Nat, j < c.2.1 → c.2.2 j = .long (f j) := by
  rcases h with ⟨q, -⟩ | ⟨q, -⟩ | ⟨-, h⟩ | ⟨q, -⟩ | ⟨q, -⟩
  · omega
  · omega
  · exact h
  all_goals omega
theorem CNR.dbls {g : GG} {ws : va_W} {c : CE} {e : va_E} (h : CNR g ws c e) (h1 : c.1 = 36) : ∃ (cA : ClassId) (f : Nat → UInt64), e = .inl (cA, c.2.1, .inr (.inr (.inr (.inl f)))) ∧ g.2.1[c.1 - 32]? = some (cA, aty c.1) ∧ ∀ j : Nat, j < c.2.1 → c.2.2 j = .double (f j) := by
  rcases h with ⟨q, -⟩ | ⟨q, -⟩ | ⟨q, -⟩ | ⟨-, h⟩ | ⟨q, -⟩
  · omega
  · omega
  · omega
  · exact h
  · omega
theorem CNR.rfs {g : GG} {ws : va_W} {c : CE} {e : va_E} (h : CNR g ws c e) (h1 : 37 ≤ c.1) : ∃ (cA : ClassId) (f : Nat → Option Nat), e = .inl (cA, c.2.1, .inr (.inr (.inr (.inr f)))) ∧ g.2.1[c.1 - 32]? = some (cA, aty c.1) ∧ ∀ j : Nat, j < c.2.1 → VN g ws (c.2.2 j) (va_rf (f j)) := by
  rcases h with ⟨q, -⟩ | ⟨q, -⟩ | ⟨q, -⟩ | ⟨q, -⟩ | ⟨-, h⟩
  · omega
  · omega
  · omega
  · omega
  · exact h
theorem CNR.arr {g : GG} {ws : va_W} {c : CE} {e : va_E} (h : CNR g ws c e) (h1 : 32 ≤ c.1) : ∃ (cA : ClassId) (x : vp_A), e = .inl (cA, x) ∧ x.1 = c.2.1 ∧ g.2.1[c.1 - 32]? = some (cA, aty c.1) := by
  rcases h with ⟨q, -⟩ | ⟨-, cA, f, h, h2, -⟩ | ⟨-, cA, f, h, h2, -⟩ | ⟨-, cA, f, h, h2, -⟩ | ⟨-, cA, f, h, h2, -⟩
  · omega
  all_goals exact ⟨cA, _, h, rfl, h2⟩
def HNR (g : GG) (ws : va_W) (h : List CE) : Prop := ws.length = h.length ∧ h.length < 7000000000001 ∧ ∀ (k : Nat) (q : Nat × va_E), ws[k]? = some q → ∃ c : CE, h[k]? = some c ∧ CNR g ws c q.2
theorem HNR.at {g : GG} {ws : va_W} {h : List CE} (hH : HNR g ws h) {k : Nat} {c : CE} (hk : h[k]? = some c) : k < 7000000000001 ∧ ∀ (a : Nat) (e : va_E), ws[k]? = some (a, e) → CNR g ws c e := by
  have hl := (List.getElem?_eq_some_iff.mp hk).1
  refine ⟨Nat.lt_trans hl hH.2.1, fun a e he => ?_⟩
  obtain ⟨c', h1, h2⟩ := hH.2.2 k _ he
  rw [hk] at h1
  cases h1
  exact h2
theorem HNR.set {g : GG} {ws : va_W} {h : List CE} (hH : HNR g ws h) {k a : Nat} {e e1 : va_E} {c1 : CE} (he : ws[k]? = some (a, e)) (hc : CNR g (ws.set k (a, e1)) c1 e1) : HNR g (ws.set k (a, e1)) (h.set k c1) := by
  have hle : wsle ws (ws.set k (a, e1)) := wsle.set he
  refine ⟨by rw [List.length_set, List.length_set]; exact hH.1, by rw [List.length_set]; exact hH.2.1, fun j q hq => ?_⟩
  have hkl := (List.getElem?_eq_some_iff.mp he).1
  by_cases hj : j = k
  · subst hj
    rw [List.getElem?_set_self hkl] at hq
    cases hq
    exact ⟨c1, List.getElem?_set_self (by rw [← hH.1]; exact hkl), hc⟩
  · rw [List.getElem?_set_ne (fun r => hj r.symm)] at hq
    obtain ⟨c', h1, h2⟩ := hH.2.2 j q hq
    exact ⟨c', by rw [List.getElem?_set_ne (fun r => hj r.symm)]; exact h1, h2.mono hle⟩
theorem HNR.app {g : GG} {ws : va_W} {h : List CE} (hH : HNR g ws h) {a : Nat} {e1 : va_E} {c1 : CE} (hl : h.length < 7000000000000) (hc : CNR g (ws ++ [(a, e1)]) c1 e1) : HNR g (ws ++ [(a, e1)]) (h ++ [c1]) := by
  have hle : wsle ws (ws ++ [(a, e1)]) := wsle.app ws _
  refine ⟨by rw [List.length_append, List.length_append, hH.1]; rfl, by rw [List.length_append]; exact Nat.lt_of_lt_of_le (Nat.add_lt_add_right hl 1) (by decide), fun j q hq => ?_⟩
  rcases Nat.lt_trichotomy j ws.length with q1 | q1 | q1
  · rw [List.getElem?_append_left q1] at hq
    obtain ⟨c', h1, h2⟩ := hH.2.2 j q hq
    exact ⟨c', by rw [List.getElem?_append_left (by rw [← hH.1]; exact q1)]; exact h1, h2.mono hle⟩
  · subst q1
    rw [app_at] at hq
    cases hq
    exact ⟨c1, by rw [hH.1]; exact app_at _ _, hc⟩
  · rw [List.getElem?_append_right (Nat.le_of_lt q1)] at hq
    have : ([(a, e1)] : va_W)[j - ws.length]? = none := List.getElem?_eq_none (by show 1 ≤ _; omega)
    rw [this] at hq
    cases hq
/-- a state of the machine in a method, and its plain picture -/
def RLN (g : GG) (cl : List vw_C) (s : State) (nL kc0 ks0 : Nat) (L : LN) (h : HN) (S : List Value) (ls : Array Slot) (st : List Value) (H : Heap) (locs : List Loc) (cells slots : Nat) : Prop :=
  ∃ ws : va_W, LRN g ws nL L ls ∧ SRN g ws S st ∧ HNR g ws h.1 ∧ va_P g.1 cl ws H ∧ va_D (AA g) ws ∧ va_S (AA g) s.heap H locs ∧ cells + kc0 = h.2.1 ∧ slots + ks0 = h.2.2
def WpN (g : GG) (cl : List vw_C) (p : Program) (l : Launch) (e : Env) (R : Room) (s : State) (m : MethodId) (args : Array Value) (below : List Frame) (meth : Method) (c : Code) (Q : State → Prop) (nL kc0 ks0 pc : Nat) (L : LN) (h : HN) (S : List Value) : Prop :=
  ∀ (ls : Array Slot) (st : List Value) (H : Heap) (locs : List Loc) (cells slots : Nat), RLN g cl s nL kc0 ks0 L h S ls st H locs cells slots → W p l e R s m args below meth c H locs cells slots Q (F0 m pc ls st)
