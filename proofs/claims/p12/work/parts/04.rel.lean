/-! What the engine's words and states say of the machine's. -/
/-- the world's tables, the array classes, ArrayList's empty array, the script's cell, the first address that may change, the world at the method's start -/
abbrev GG : Type := va_G × List (ClassId × FieldType) × Nat × Nat × Nat × va_W
def VR (g : GG) (ws : va_W) (w : Nat) (v : Value) : Prop := w < WB ∧ (
  (w % 8 = 0 ∧ 8 ≤ w ∧ ∃ i : Int32, v = .int i ∧ iEx (i &&& 63) + 1 = w / 8 + 2147483648)
  ∨ (w % 8 = 1 ∧ ∃ i : Int32, v = .int i ∧ ilo w ≤ iEx i ∧ iEx i ≤ ihi w)
  ∨ (w % 8 = 2 ∧ ∃ i : Int64, v = .long i ∧ w = mkL (lEx i))
  ∨ (w % 8 = 3 ∧ ∃ (a : Nat) (e : va_E), ws[w / 8]? = some (a, e) ∧ v = .ref a)
  ∨ (w = 4 ∧ v = .null)
  ∨ (w % 8 = 5 ∧ v = .float (UInt32.ofNat (w / 8)))
  ∨ (w % 8 = 6 ∧ v = .double (UInt64.ofNat (w / 8)))
  ∨ (w = 7 ∧ ∃ a : Nat, v = .ref a) ∨ (w = 15 ∧ v = .ref g.2.2.1) ∨ (w = 23 ∧ v = .ref g.2.2.2.1))
theorem ilo_def (w : Nat) : ilo w = w / 8 % 4294967296 := rfl
theorem ihi_def (w : Nat) : ihi w = w / 8 / 4294967296 := rfl
theorem mkI_def (e : Nat) : mkI e = 1 + 8 * (e * 4294967297) := rfl
theorem mkL_def (e : Nat) : mkL e = 2 + 8 * e := rfl
section VRs
variable {g : GG} {ws : va_W} {w : Nat} {v : Value}
theorem VR.lt (h : VR g ws w v) : w < WB := h.1
theorem VR.ne (h : VR g ws w v) : w ≠ 0 := by
  rcases h with ⟨-, h | h | h | h | h | h | h | h | h | h⟩ <;> omega
theorem VR.int (h : VR g ws w v) (t : w % 8 = 1) : ∃ i : Int32, v = .int i ∧ ilo w ≤ iEx i ∧ iEx i ≤ ihi w := by
  rcases h with ⟨-, h | h | h | h | h | h | h | h | h | h⟩ <;> first | exact h.2 | (exfalso; omega)
theorem VR.low (h : VR g ws w v) (t : w % 8 = 0) : ∃ i : Int32, v = .int i ∧ iEx (i &&& 63) + 1 = w / 8 + 2147483648 := by
  rcases h with ⟨-, h | h | h | h | h | h | h | h | h | h⟩ <;> first | exact h.2.2 | (exfalso; omega)
theorem VR.sint (h : VR g ws w v) (t : w % 8 = 1) (hs : ihi w = ilo w) : ∃ i : Int32, v = .int i ∧ iEx i = ilo w := by
  obtain ⟨i, h1, h2, h3⟩ := h.int t
  exact ⟨i, h1, by omega⟩
theorem VR.long (h : VR g ws w v) (t : w % 8 = 2) : ∃ i : Int64, v = .long i ∧ w = mkL (lEx i) := by
  rcases h with ⟨-, h | h | h | h | h | h | h | h | h | h⟩ <;> first | exact h.2 | (exfalso; omega)
theorem VR.cell (h : VR g ws w v) (t : w % 8 = 3) : ∃ (a : Nat) (e : va_E), ws[w / 8]? = some (a, e) ∧ v = .ref a := by
  rcases h with ⟨-, h | h | h | h | h | h | h | h | h | h⟩ <;> first | exact h.2 | (exfalso; omega)
theorem VR.null (h : VR g ws w v) (t : w % 8 = 4) : v = .null := by
  rcases h with ⟨-, h | h | h | h | h | h | h | h | h | h⟩ <;> first | exact h.2 | (exfalso; omega)
theorem VR.flt (h : VR g ws w v) (t : w % 8 = 5) : v = .float (UInt32.ofNat (w / 8)) := by
  rcases h with ⟨-, h | h | h | h | h | h | h | h | h | h⟩ <;> first | exact h.2 | (exfalso; omega)
theorem VR.dbl (h : VR g ws w v) (t : w % 8 = 6) : v = .double (UInt64.ofNat (w / 8)) := by
  rcases h with ⟨-, h | h | h | h | h | h | h | h | h | h⟩ <;> first | exact h.2 | (exfalso; omega)
theorem VR.refs (h : VR g ws w v) (t : isA w = true) : v = .null ∨ ∃ a : Nat, v = .ref a := by
  have t : w % 8 = 3 ∨ w % 8 = 4 ∨ w % 8 = 7 := by
    rcases orr_t t with t | t
    · exact Or.inl (isT_t t)
    · rcases orr_t t with t | t
      · exact Or.inr (Or.inl (isT_t t))
      · exact Or.inr (Or.inr (isT_t t))
  rcases h with ⟨-, h | h | h | h | h | h | h | h | h | h⟩
  · omega
  · omega
  · omega
  · obtain ⟨-, a, -, -, h⟩ := h; exact Or.inr ⟨a, h⟩
  · exact Or.inl h.2
  · omega
  · omega
  · exact Or.inr h.2
  · exact Or.inr ⟨_, h.2⟩
  · exact Or.inr ⟨_, h.2⟩
theorem VR.x1 (h : VR g ws 15 v) : v = .ref g.2.2.1 := by
  rcases h with ⟨-, h | h | h | h | h | h | h | h | h | h⟩ <;> first | exact h.2 | (exfalso; omega)
theorem VR.scr (h : VR g ws 23 v) : v = .ref g.2.2.2.1 := by
  rcases h with ⟨-, h | h | h | h | h | h | h | h | h | h⟩ <;> first | exact h.2 | (exfalso; omega)
theorem VR.cat (h : VR g ws w v) : v.category = if w % 4 = 2 then 2 else 1 := by
  rcases h with ⟨-, h | h | h | h | h | h | h | h | h | h⟩
  · obtain ⟨t, -, i, rfl, -⟩ := h; rw [if_neg (by omega)]; rfl
  · obtain ⟨t, i, rfl, -⟩ := h; rw [if_neg (by omega)]; rfl
  · obtain ⟨t, i, rfl, -⟩ := h; rw [if_pos (by omega)]; rfl
  · obtain ⟨t, a, e, -, rfl⟩ := h; rw [if_neg (by omega)]; rfl
  · obtain ⟨t, rfl⟩ := h; rw [if_neg (by omega)]; rfl
  · obtain ⟨t, rfl⟩ := h; rw [if_neg (by omega)]; rfl
  · obtain ⟨t, rfl⟩ := h; rw [if_pos (by omega)]; rfl
  · obtain ⟨t, a, rfl⟩ := h; rw [if_neg (by omega)]; rfl
  · obtain ⟨t, rfl⟩ := h; rw [if_neg (by omega)]; rfl
  · obtain ⟨t, rfl⟩ := h; rw [if_neg (by omega)]; rfl
theorem VR.cat1 (h : VR g ws w v) (t : cat2 w = false) : v.category = 1 := by rw [h.cat, if_neg (cat2_f t)]
theorem VR.c2 (h : VR g ws w v) (t : cat2 w = true) : v.category = 2 := by rw [h.cat, if_pos (cat2_t t)]
end VRs
theorem VR_mkI (g : GG) (ws : va_W) (i : Int32) : VR g ws (mkI (iEx i)) (.int i) := by
  have h := iEx_lt i
  have e := mkI_def (iEx i)
  refine ⟨by rw [e]; show _ < 4722366482869645213696; omega, Or.inr (Or.inl ⟨by rw [e]; omega, i, rfl, ?_, ?_⟩)⟩
  · rw [ilo_def, e]; omega
  · rw [ihi_def, e]; omega
theorem VR_top (g : GG) (ws : va_W) (i : Int32) : VR g ws wTop (.int i) := by
  have h := iEx_lt i
  refine ⟨by decide, Or.inr (Or.inl ⟨by decide, i, rfl, ?_, ?_⟩)⟩
  · rw [show ilo wTop = 0 by decide]; exact Nat.zero_le _
  · rw [show ihi wTop = 4294967295 by decide]; omega
theorem VR_mkL (g : GG) (ws : va_W) (i : Int64) : VR g ws (mkL (lEx i)) (.long i) := by
  have h := lEx_lt i
  have e := mkL_def (lEx i)
  exact ⟨by rw [e]; show _ < 4722366482869645213696; omega, Or.inr (Or.inr (Or.inl ⟨by rw [e]; omega, i, rfl, rfl⟩))⟩
theorem VR_c (g : GG) (ws : va_W) (i : Int32) {w : Nat} (h : mkI (iEx i) = w) : VR g ws w (.int i) := h ▸ VR_mkI g ws i
theorem VR_null (g : GG) (ws : va_W) : VR g ws 4 .null := ⟨by decide, Or.inr (Or.inr (Or.inr (Or.inr (Or.inl ⟨rfl, rfl⟩))))⟩
theorem VR_any (g : GG) (ws : va_W) (a : Nat) : VR g ws 7 (.ref a) := ⟨by decide, by simp⟩
theorem VR_flt (g : GG) (ws : va_W) (x : UInt32) : VR g ws (5 + 8 * x.toNat) (.float x) := by
  have h : x.toNat < 4294967296 := x.toNat_lt
  refine ⟨by show _ < 4722366482869645213696; omega, Or.inr (Or.inr (Or.inr (Or.inr (Or.inr (Or.inl ⟨by omega, ?_⟩)))))⟩
  rw [show (5 + 8 * x.toNat) / 8 = x.toNat by omega, UInt32.ofNat_toNat]
theorem VR_dbl (g : GG) (ws : va_W) (x : UInt64) : VR g ws (6 + 8 * x.toNat) (.double x) := by
  have h : x.toNat < 18446744073709551616 := x.toNat_lt
  refine ⟨by show _ < 4722366482869645213696; omega, Or.inr (Or.inr (Or.inr (Or.inr (Or.inr (Or.inr (Or.inl ⟨by omega, ?_⟩))))))⟩
  rw [show (6 + 8 * x.toNat) / 8 = x.toNat by omega, UInt64.ofNat_toNat]
theorem VR_cell (g : GG) {ws : va_W} {k a : Nat} {e : va_E} (h : ws[k]? = some (a, e)) (hk : k < 4294967296) : VR g ws (3 + 8 * k) (.ref a) := by
  refine ⟨by show _ < 4722366482869645213696; omega, Or.inr (Or.inr (Or.inr (Or.inl ⟨by omega, a, e, ?_, rfl⟩)))⟩
  rw [show (3 + 8 * k) / 8 = k by omega]
  exact h
/-- the same addresses at the same numbers, and perhaps more -/
def wsle (ws ws' : va_W) : Prop := ∀ (k a : Nat) (e : va_E), ws[k]? = some (a, e) → ∃ e', ws'[k]? = some (a, e')
theorem wsle.rf (ws : va_W) : wsle ws ws := fun _ _ e h => ⟨e, h⟩
theorem wsle.tr {a b c : va_W} (h1 : wsle a b) (h2 : wsle b c) : wsle a c := fun k q e h => by
  obtain ⟨e', h'⟩ := h1 k q e h
  exact h2 k q e' h'
theorem wsle.set {ws : va_W} {k a : Nat} {e e1 : va_E} (h : ws[k]? = some (a, e)) : wsle ws (ws.set k (a, e1)) := fun j q e2 hj => by
  by_cases hk : k = j
  · subst hk
    rw [h] at hj
    cases hj
    exact ⟨e1, by rw [List.getElem?_set_self (List.getElem?_eq_some_iff.mp h).1]⟩
  · exact ⟨e2, by rw [List.getElem?_set_ne hk]; exact hj⟩
theorem wsle.app (ws l : va_W) : wsle ws (ws ++ l) := fun k q e h => ⟨e, by rw [List.getElem?_append_left (List.getElem?_eq_some_iff.mp h).1]; exact h⟩
theorem VR.mono {g : GG} {ws ws' : va_W} {w : Nat} {v : Value} (h : VR g ws w v) (hl : wsle ws ws') : VR g ws' w v := by
  refine ⟨h.1, ?_⟩
  rcases h.2 with h | h | h | ⟨t, a, e, h, hv⟩ | h
  · exact Or.inl h
  · exact Or.inr (Or.inl h)
  · exact Or.inr (Or.inr (Or.inl h))
  · obtain ⟨e', h'⟩ := hl _ _ _ h
    exact Or.inr (Or.inr (Or.inr (Or.inl ⟨t, a, e', h', hv⟩)))
  · exact Or.inr (Or.inr (Or.inr (Or.inr h)))
/-- the stack -/
def SRd (g : GG) (ws : va_W) : List Value → Nat → Prop
  | [], d => d = 0 ∧ wsle g.2.2.2.2.2 ws
  | v :: st, d => VR g ws (d % WB) v ∧ SRd g ws st (d / WB)
def SR (g : GG) (ws : va_W) (S : Nat) (st : List Value) : Prop := SRd g ws st (dt S)
section SRs
variable {g : GG} {ws ws' : va_W} {S : Nat} {st : List Value}
theorem SRd.mono (hl : wsle ws ws') : ∀ {st : List Value} {d : Nat}, SRd g ws st d → SRd g ws' st d
  | [], _, h => ⟨h.1, h.2.tr hl⟩
  | _ :: _, _, h => ⟨h.1.mono hl, SRd.mono hl h.2⟩
theorem SRd.pins : ∀ {st : List Value} {d : Nat}, SRd g ws st d → wsle g.2.2.2.2.2 ws
  | [], _, h => h.2
  | _ :: _, _, h => SRd.pins h.2
theorem SR.pins (h : SR g ws S st) : wsle g.2.2.2.2.2 ws := SRd.pins h
theorem SR.mono (h : SR g ws S st) (hl : wsle ws ws') : SR g ws' S st := SRd.mono hl h
theorem SR.push {w : Nat} {v : Value} (h : SR g ws S st) (hv : VR g ws w v) : SR g ws (pu w S) (v :: st) := by
  have hw : w < 4722366482869645213696 := hv.1
  show SRd g ws (v :: st) (dt (pu w S))
  rw [pu_dt]
  refine ⟨?_, ?_⟩
  · rw [show (w + WB * dt S) % WB = w by rw [Nat.add_mul_mod_self_left]; exact Nat.mod_eq_of_lt hw]
    exact hv
  · rw [show (w + WB * dt S) / WB = dt S by rw [Nat.add_mul_div_left _ _ (by decide), Nat.div_eq_of_lt hw, Nat.zero_add]]
    exact h
theorem SR.dte {S2 : Nat} (h : SR g ws S st) (e : dt S = dt S2) : SR g ws S2 st := by
  show SRd g ws st (dt S2)
  rw [← e]; exact h
theorem SR.pop (h : SR g ws S st) (hn : tp S ≠ 0) : ∃ (v : Value) (st' : List Value), st = v :: st' ∧ VR g ws (tp S) v ∧ SR g ws (r1 S) st' := by
  cases st with
  | nil =>
    have h : dt S = 0 := h.1
    rw [tp_def, h] at hn
    exact absurd rfl hn
  | cons v st' =>
    refine ⟨v, st', rfl, h.1, ?_⟩
    show SRd g ws st' (dt (r1 S))
    rw [r1_dt]
    exact h.2
theorem SR.pop2 (h : SR g ws S st) (h1 : tp S ≠ 0) (h2 : sd S ≠ 0) : ∃ (v u : Value) (st' : List Value), st = v :: u :: st' ∧ VR g ws (tp S) v ∧ VR g ws (sd S) u ∧ SR g ws (r2 S) st' := by
  obtain ⟨v, st1, rfl, hv, h⟩ := h.pop h1
  rw [sd_def] at h2
  obtain ⟨u, st2, rfl, hu, h⟩ := h.pop h2
  exact ⟨v, u, st2, rfl, hv, by rw [sd_def]; exact hu, h.dte (r2_dt S).symm⟩
theorem SR.pop3 (h : SR g ws S st) (h1 : tp S ≠ 0) (h2 : sd S ≠ 0) (h3 : td S ≠ 0) : ∃ (v u x : Value) (st' : List Value), st = v :: u :: x :: st' ∧ VR g ws (tp S) v ∧ VR g ws (sd S) u ∧ VR g ws (td S) x ∧ SR g ws (r3 S) st' := by
  obtain ⟨v, st1, rfl, hv, h⟩ := h.pop h1
  rw [sd_def] at h2
  obtain ⟨u, st2, rfl, hu, h⟩ := h.pop h2
  rw [td_def] at h3
  obtain ⟨x, st3, rfl, hx, h⟩ := h.pop h3
  exact ⟨v, u, x, st3, rfl, hv, by rw [sd_def]; exact hu, by rw [td_def]; exact hx, h.dte (r3_dt S).symm⟩
end SRs
/-- the locals -/
def LR (g : GG) (ws : va_W) (nL L : Nat) (ls : Array Slot) : Prop := ∃ lv : List (Nat × Value), lv_has ls nL lv ∧ ∀ i : Nat, pget L i ≠ 0 → ∃ v : Value, (i, v) ∈ lv ∧ VR g ws (pget L i) v
theorem LR.mono {g : GG} {ws ws' : va_W} {nL L : Nat} {ls : Array Slot} (h : LR g ws nL L ls) (hl : wsle ws ws') : LR g ws' nL L ls := by
  obtain ⟨lv, h1, h2⟩ := h
  refine ⟨lv, h1, fun i hi => ?_⟩
  obtain ⟨v, a, b⟩ := h2 i hi
  exact ⟨v, a, b.mono hl⟩
theorem LR.at {g : GG} {ws : va_W} {nL L : Nat} {ls : Array Slot} (h : LR g ws nL L ls) (i : Nat) (hi : pget L i ≠ 0) : ∃ v : Value, ls[i]? = some (.val v) ∧ VR g ws (pget L i) v := by
  obtain ⟨lv, h1, h2⟩ := h
  obtain ⟨v, a, b⟩ := h2 i hi
  exact ⟨v, h1.2.2 (i, v) a, b⟩
theorem LR.size {g : GG} {ws : va_W} {nL L : Nat} {ls : Array Slot} (h : LR g ws nL L ls) : ls.size = nL := by
  obtain ⟨lv, h1, -⟩ := h
  exact h1.1
theorem cut_get {L a i : Nat} (h : pget (cut L a) i ≠ 0) : pget (cut L a) i = pget L i ∧ ((i + 1 = a) → cat2 (pget L i) = false) := by
  unfold cut at h ⊢
  cases h0 : Nat.beq a 0 with
  | true =>
    have := beq_t h0
    rw [br_true]
    exact ⟨rfl, fun q => by omega⟩
  | false =>
    rw [h0, br_false] at h
    rw [br_false]
    have ha := beq_f h0
    cases h1 : cat2 (pget L (Nat.sub a 1)) with
    | true =>
      rw [h1, br_true] at h
      rw [br_true]
      have hs : Nat.sub a 1 = a - 1 := rfl
      rw [pget_pset (by decide)] at h ⊢
      by_cases hi : i = Nat.sub a 1
      · rw [if_pos hi] at h; exact absurd rfl h
      · rw [if_neg hi]; exact ⟨rfl, fun q => by omega⟩
    | false =>
      rw [br_false]
      refine ⟨rfl, fun q => ?_⟩
      rw [show i = Nat.sub a 1 by show i = a - 1; omega]
      exact h1
/-- a narrow value is stored -/
theorem LR.st1 {g : GG} {ws : va_W} {nL L a w : Nat} {lv : List (Nat × Value)} {ls' : Array Slot} {v : Value} (h2 : ∀ i : Nat, pget L i ≠ 0 → ∃ v : Value, (i, v) ∈ lv ∧ VR g ws (pget L i) v) (hv : VR g ws w v)
    (hls : lv_has ls' nL ((a, v) :: lv.filter (fun q => !(q.1 == a) && !(q.1 + 1 == a && q.2.category == 2)))) : LR g ws nL (pset (cut L a) a w) ls' := by
  refine ⟨_, hls, fun i hi => ?_⟩
  rw [pget_pset hv.1] at hi ⊢
  by_cases hia : i = a
  · rw [if_pos hia]
    exact ⟨v, by rw [hia]; exact List.mem_cons_self, hv⟩
  · rw [if_neg hia] at hi ⊢
    obtain ⟨e1, e2⟩ := cut_get hi
    rw [e1] at hi ⊢
    obtain ⟨u, hm, hu⟩ := h2 i hi
    refine ⟨u, List.mem_cons_of_mem _ (List.mem_filter.mpr ⟨hm, ?_⟩), hu⟩
    by_cases hq : i + 1 = a
    · have hc := hu.cat1 (e2 hq)
      simp [hia, hc]
    · simp [hia, hq]
/-- a wide one -/
theorem LR.st2 {g : GG} {ws : va_W} {nL L a w : Nat} {lv : List (Nat × Value)} {ls' : Array Slot} {v : Value} (h2 : ∀ i : Nat, pget L i ≠ 0 → ∃ v : Value, (i, v) ∈ lv ∧ VR g ws (pget L i) v) (hv : VR g ws w v)
    (hls : lv_has ls' nL ((a, v) :: lv.filter (fun q => !(q.1 == a) && (!(q.1 == a + 1) && !(q.1 + 1 == a && q.2.category == 2))))) : LR g ws nL (pset (pset (cut L a) a w) (a + 1) 0) ls' := by
  refine ⟨_, hls, fun i hi => ?_⟩
  rw [pget_pset (by decide)] at hi ⊢
  by_cases hi1 : i = a + 1
  · rw [if_pos hi1] at hi; exact absurd rfl hi
  · rw [if_neg hi1, pget_pset hv.1] at hi ⊢
    by_cases hia : i = a
    · rw [if_pos hia]
      exact ⟨v, by rw [hia]; exact List.mem_cons_self, hv⟩
    · rw [if_neg hia] at hi ⊢
      obtain ⟨e1, e2⟩ := cut_get hi
      rw [e1] at hi ⊢
      obtain ⟨u, hm, hu⟩ := h2 i hi
      refine ⟨u, List.mem_cons_of_mem _ (List.mem_filter.mpr ⟨hm, ?_⟩), hu⟩
      by_cases hq : i + 1 = a
      · have hc := hu.cat1 (e2 hq)
        simp [hia, hi1, hc]
      · simp [hia, hi1, hq]
/-- an int in its own place (iinc): nothing else moves -/
theorem LR.inc {g : GG} {ws : va_W} {nL L a w : Nat} {lv : List (Nat × Value)} {ls' : Array Slot} {i0 v : Int32} (h2 : ∀ i : Nat, pget L i ≠ 0 → ∃ v : Value, (i, v) ∈ lv ∧ VR g ws (pget L i) v) (hwf : ∀ u : Value, (a - 1, u) ∈ lv → a ≠ 0 → u.category = 1) (hv : VR g ws w (.int v))
    (hls : lv_has ls' nL ((a, .int v) :: lv.filter (fun q => !(q.1 == a) && !(q.1 + 1 == a && q.2.category == 2)))) : LR g ws nL (pset L a w) ls' := by
  refine ⟨_, hls, fun i hi => ?_⟩
  rw [pget_pset hv.1] at hi ⊢
  by_cases hia : i = a
  · rw [if_pos hia]
    exact ⟨_, by rw [hia]; exact List.mem_cons_self, hv⟩
  · rw [if_neg hia] at hi ⊢
    obtain ⟨u, hm, hu⟩ := h2 i hi
    refine ⟨u, List.mem_cons_of_mem _ (List.mem_filter.mpr ⟨hm, ?_⟩), hu⟩
    by_cases hq : i + 1 = a
    · have hc := hwf u (by rw [show a - 1 = i by omega]; exact hm) (by omega)
      simp [hia, hc]
    · simp [hia, hq]
