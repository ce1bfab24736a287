/-! All rows: laysRows. -/
theorem Ab.iv {x : Int} {B : Nat} (h1 : -(B : Int) ≤ x) (h2 : x ≤ (B : Int)) : Ab ((B : Nat) : Rat) ((x : Int) : Rat) := Ab.int (by omega)
theorem sdn_ok {fac : Nat → Rat} {dm : Nat → Int} {s lm : Int} {b lam9 : Nat} (hs : s = 1 ∨ s = -1) (hF : ∀ j, j < 4 → IsI ((lam9 : Rat) * fac (b + j)) ∧ Ab 1 (fac (b + j))) (hdm : ∀ j, 0 ≤ dm j ∧ dm j ≤ 220) : ∀ n : Nat, n ≤ 4 → IsI ((lam9 : Rat) * sdn fac dm s lm b n) ∧ Ab ((220 * n : Nat) : Rat) (sdn fac dm s lm b n - (lm : Rat))
  | 0, _ => ⟨(IsI.int (lam9 : Int)).mul (IsI.int lm), by
    show Ab _ ((lm : Rat) - (lm : Rat))
    rw [show (lm : Rat) - (lm : Rat) = 0 by grind]
    exact ⟨by decide, by decide⟩⟩
  | n + 1, hn => by
    obtain ⟨i1, i2⟩ := sdn_ok (lm := lm) hs hF hdm n (by omega)
    obtain ⟨f1, f2⟩ := hF n (by omega)
    have hd := hdm n
    have hp : Ab ((220 : Nat) : Rat) ((s * dm n : Int) : Rat) := Ab.int (by rcases hs with rfl | rfl <;> omega)
    have hq := f2.mul hp
    constructor
    · show IsI ((lam9 : Rat) * (sdn fac dm s lm b n + fac (b + n) * ((s * dm n : Int) : Rat)))
      rw [show (lam9 : Rat) * (sdn fac dm s lm b n + fac (b + n) * ((s * dm n : Int) : Rat)) = (lam9 : Rat) * sdn fac dm s lm b n + ((lam9 : Rat) * fac (b + n)) * ((s * dm n : Int) : Rat) by grind]
      exact i1.add (f1.mul (IsI.int _))
    · show Ab _ (sdn fac dm s lm b n + fac (b + n) * ((s * dm n : Int) : Rat) - (lm : Rat))
      rw [show sdn fac dm s lm b n + fac (b + n) * ((s * dm n : Int) : Rat) - (lm : Rat) = (sdn fac dm s lm b n - (lm : Rat)) + fac (b + n) * ((s * dm n : Int) : Rat) by grind]
      have := i2.add hq
      rw [show ((220 * (n + 1) : Nat) : Rat) = ((220 * n : Nat) : Rat) + 1 * ((220 : Nat) : Rat) by rw [Nat.mul_add, Rat.natCast_add, Rat.one_mul]]
      exact this
theorem sdn_b {fac : Nat → Rat} {dm : Nat → Int} {s lm : Int} {b lam9 n : Nat} (h : Ab ((220 * n : Nat) : Rat) (sdn fac dm s lm b n - (lm : Rat))) (hn : n ≤ 4) (h0 : 0 ≤ lm) (h9 : lm ≤ 100001) : Ab ((101000 : Nat) : Rat) (sdn fac dm s lm b n) ∧ (sdn fac dm s lm b n < 0 → Ab ((1000 : Nat) : Rat) (sdn fac dm s lm b n)) := by
  have hl : (0 : Rat) ≤ (lm : Rat) := by have := ic_le.mpr h0; exact this
  have hl9 : (lm : Rat) ≤ ((100001 : Int) : Rat) := ic_le.mpr h9
  have hn4 : ((220 * n : Nat) : Rat) ≤ ((880 : Int) : Rat) := by show (((220 * n : Nat) : Int) : Rat) ≤ _; exact ic_le.mpr (by omega)
  have e1 : ((100001 : Int) : Rat) = 100001 := rfl
  have e2 : ((880 : Int) : Rat) = 880 := rfl
  have e3 : ((101000 : Nat) : Rat) = 101000 := rfl
  have e4 : ((1000 : Nat) : Rat) = 1000 := rfl
  obtain ⟨a1, a2⟩ := h
  rw [e1] at hl9
  rw [e2] at hn4
  rw [e3, e4]
  generalize ((220 * n : Nat) : Rat) = z at *
  generalize sdn fac dm s lm b n = y at *
  generalize (lm : Rat) = x at *
  exact ⟨⟨by grind, by grind⟩, fun hy => ⟨by grind, by grind⟩⟩
def dsum (dm : Nat → Int) : Nat → Int
  | 0 => 0
  | n + 1 => dsum dm n + dm n
theorem dsum_b {dm : Nat → Int} (hdm : ∀ j, 0 ≤ dm j ∧ dm j ≤ 220) : ∀ n : Nat, 0 ≤ dsum dm n ∧ dsum dm n ≤ 220 * (n : Int)
  | 0 => ⟨Int.le_refl _, Int.le_refl _⟩
  | n + 1 => by
    have := dsum_b hdm n
    have := hdm n
    show 0 ≤ dsum dm n + dm n ∧ dsum dm n + dm n ≤ _
    omega
/-- which rows stand for flows: line, grid, sign -/
def fl (o : Int) : Nat → List (Nat × Nat × Int)
  | 0 => []
  | l + 1 => fl o l ++ ((l, 0, 1) :: (l, 0, -1) :: (if o ≠ -1 ∧ (l : Int) ≠ o then [(l, 1, 1), (l, 1, -1)] else []))
theorem fl_len (o : Int) (l : Nat) : (fl o (l + 1)).length = (fl o l).length + (if o ≠ -1 ∧ (l : Int) ≠ o then 4 else 2) := by
  show (fl o l ++ _).length = _
  rw [List.length_append]
  split <;> rfl
theorem fl_at {o : Int} {l k : Nat} {x : Nat × Nat × Int} (hx : ((l, 0, 1) :: (l, 0, -1) :: (if o ≠ -1 ∧ (l : Int) ≠ o then [(l, 1, 1), (l, 1, -1)] else []))[k]? = some x) : ∀ nl, l < nl → (fl o nl)[(fl o l).length + k]? = some x
  | 0, h => absurd h (by omega)
  | nl + 1, h => by
    show (fl o nl ++ _)[_]? = _
    by_cases q : l = nl
    · subst q
      rw [List.getElem?_append_right (by omega), Nat.add_sub_cancel_left]
      exact hx
    · have ih := fl_at hx nl (by omega)
      have : (fl o l).length + k < (fl o nl).length := by
        rcases Nat.lt_or_ge ((fl o l).length + k) (fl o nl).length with z | z
        · exact z
        · rw [List.getElem?_eq_none z] at ih; cases ih
      rw [List.getElem?_append_left this]
      exact ih
theorem fl_le {o : Int} : ∀ l : Nat, (fl o l).length ≤ 4 * l ∧ (o = -1 → (fl o l).length ≤ 2 * l) ∧ (0 ≤ o → o < l → (fl o l).length + 2 ≤ 4 * l)
  | 0 => ⟨Nat.le_refl _, fun _ => Nat.le_refl _, fun h1 h2 => by omega⟩
  | l + 1 => by
    have := fl_le (o := o) l
    rw [fl_len]
    split <;> omega
theorem fl_mem {o : Int} {x : Nat × Nat × Int} : ∀ {l : Nat}, x ∈ fl o l → x.1 < l ∧ x.2.1 < 2 ∧ (x.2.2 = 1 ∨ x.2.2 = -1) ∧ (x.2.1 = 1 → o ≠ -1 ∧ (x.1 : Int) ≠ o)
  | 0, h => by cases h
  | l + 1, h => by
    rcases List.mem_append.mp h with h | h
    · have := fl_mem h
      exact ⟨by omega, this.2⟩
    · rcases List.mem_cons.mp h with rfl | h
      · exact ⟨Nat.lt_succ_self _, (show (0 : Nat) < 2 by decide), Or.inl rfl, fun q => absurd (show (0 : Nat) = 1 from q) (by decide)⟩
      · rcases List.mem_cons.mp h with rfl | h
        · exact ⟨Nat.lt_succ_self _, (show (0 : Nat) < 2 by decide), Or.inr rfl, fun q => absurd (show (0 : Nat) = 1 from q) (by decide)⟩
        · split at h
          · next hq =>
            rcases List.mem_cons.mp h with rfl | h
            · exact ⟨Nat.lt_succ_self _, (show (1 : Nat) < 2 by decide), Or.inl rfl, fun _ => hq⟩
            · rcases List.mem_cons.mp h with rfl | h
              · exact ⟨Nat.lt_succ_self _, (show (1 : Nat) < 2 by decide), Or.inr rfl, fun _ => hq⟩
              · cases h
          · cases h
def flowS (fac : Nat → Rat) (tl dm lm em : Nat → Int) (nn ng : Nat) (x : Nat × Nat × Int) : RS9 := (fun g => if g < ng then cfn fac tl x.2.2 (24 * x.2.1 + 4 * x.1) g else 0, sdn fac dm x.2.2 (if x.2.1 = 0 then lm x.1 else em x.1) (24 * x.2.1 + 4 * x.1) nn)
def specS (fac : Nat → Rat) (tl dm lm em cp : Nat → Int) (nn ng nl : Nat) (o : Int) (i : Nat) : RS9 := if i < ng then (fun g => if g = i then 1 else 0, ((cp i : Int) : Rat)) else match (fl o nl)[i - ng]? with
  | some x => flowS fac tl dm lm em nn ng x
  | none => (fun g => if g < ng then 1 else 0, ((dsum dm nn : Int) : Rat))
theorem specS_sm {fac : Nat → Rat} {tl dm lm em cp : Nat → Int} {nn ng nl lam9 : Nat} {o : Int} (hn4 : nn ≤ 4) (hn6 : nl ≤ 6) (hat : ∀ g, g < ng → 0 ≤ tl (17 + g) ∧ tl (17 + g) ≤ 3) (hdm : ∀ j, 0 ≤ dm j ∧ dm j ≤ 220) (hlm : ∀ j, 0 ≤ lm j ∧ lm j ≤ 100001) (hem : ∀ j, 0 ≤ em j ∧ em j ≤ 100001) (hcp : ∀ j, 0 ≤ cp j ∧ cp j ≤ 200) (hF0 : ∀ j, j < 24 → IsI ((lam9 : Rat) * fac j) ∧ Ab 1 (fac j)) (hF1 : o ≠ -1 → ∀ j, 24 ≤ j → j < 48 → IsI ((lam9 : Rat) * fac j) ∧ Ab 1 (fac j)) (i : Nat) : SmS lam9 (specS fac tl dm lm em cp nn ng nl o i) := by
  have z1 : IsI ((lam9 : Rat) * (1 : Rat)) ∧ Ab 1 (1 : Rat) := ⟨(IsI.int (lam9 : Int)).mul IsI.one, by decide, by decide⟩
  have z0 : IsI ((lam9 : Rat) * (0 : Rat)) ∧ Ab 1 (0 : Rat) := ⟨(IsI.int (lam9 : Int)).mul IsI.zero, by decide, by decide⟩
  unfold specS
  split
  · have hc := hcp i
    refine ⟨fun g _ => ?_, (IsI.int (lam9 : Int)).mul (IsI.int _), Ab.iv (B := 101000) (by omega) (by omega), fun _ => Ab.iv (B := 1000) (by omega) (by omega)⟩
    show IsI ((lam9 : Rat) * (if g = i then (1 : Rat) else 0)) ∧ Ab 1 (if g = i then (1 : Rat) else 0)
    split
    · exact z1
    · exact z0
  · split
    · next x hx =>
      obtain ⟨m1, m2, m3, m4⟩ := fl_mem (List.mem_of_getElem? hx)
      have hF : ∀ j, j < 4 → IsI ((lam9 : Rat) * fac (24 * x.2.1 + 4 * x.1 + j)) ∧ Ab 1 (fac (24 * x.2.1 + 4 * x.1 + j)) := fun j hj => by
        by_cases q : x.2.1 = 0
        · exact hF0 _ (by omega)
        · exact hF1 (m4 (by omega)).1 _ (by omega) (by omega)
      have hl : 0 ≤ (if x.2.1 = 0 then lm x.1 else em x.1) ∧ (if x.2.1 = 0 then lm x.1 else em x.1) ≤ 100001 := by
        split
        · exact hlm _
        · exact hem _
      obtain ⟨i1, i2⟩ := sdn_ok (lm := if x.2.1 = 0 then lm x.1 else em x.1) m3 hF hdm nn hn4
      have hb := sdn_b (lam9 := lam9) i2 hn4 hl.1 hl.2
      refine ⟨fun g _ => ?_, i1, hb.1, hb.2⟩
      show IsI ((lam9 : Rat) * (if g < ng then cfn fac tl x.2.2 (24 * x.2.1 + 4 * x.1) g else 0)) ∧ Ab 1 (if g < ng then cfn fac tl x.2.2 (24 * x.2.1 + 4 * x.1) g else 0)
      split
      · next hg =>
        have ha := hat g hg
        obtain ⟨f1, f2⟩ := hF (tl (17 + g)).toNat (by omega)
        unfold cfn
        generalize fac (24 * x.2.1 + 4 * x.1 + (tl (17 + g)).toNat) = y at *
        constructor
        · rw [show (lam9 : Rat) * ((x.2.2 : Rat) * y) = (x.2.2 : Rat) * ((lam9 : Rat) * y) by grind]
          exact (IsI.int _).mul f1
        · rcases m3 with q | q
          · rw [q, show (((1 : Int)) : Rat) = 1 from rfl, Rat.one_mul]; exact f2
          · rw [q, show (((-1 : Int)) : Rat) = -1 from rfl, show (-1 : Rat) * y = -y by grind]; exact f2.neg
      · exact z0
    · have hs := dsum_b hdm nn
      refine ⟨fun g _ => ?_, (IsI.int (lam9 : Int)).mul (IsI.int _), Ab.iv (B := 101000) (by omega) (by omega), fun _ => Ab.iv (B := 1000) (by omega) (by omega)⟩
      show IsI ((lam9 : Rat) * (if g < ng then (1 : Rat) else 0)) ∧ Ab 1 (if g < ng then (1 : Rat) else 0)
      split
      · exact z1
      · exact z0
theorem specS_fl {fac : Nat → Rat} {tl dm lm em cp : Nat → Int} {nn ng nl : Nat} {o : Int} {l k r : Nat} {x : Nat × Nat × Int} (hl : l < nl) (hr : r = ng + (fl o l).length + k) (hx : ((l, 0, 1) :: (l, 0, -1) :: (if o ≠ -1 ∧ (l : Int) ≠ o then [(l, 1, 1), (l, 1, -1)] else []))[k]? = some x) : specS fac tl dm lm em cp nn ng nl o r = flowS fac tl dm lm em nn ng x := by
  unfold specS
  rw [if_neg (by omega), show r - ng = (fl o l).length + k by omega, fl_at hx nl hl]
theorem specS_end {fac : Nat → Rat} {tl dm lm em cp : Nat → Int} {nn ng nl : Nat} {o : Int} {r : Nat} (hr : r = ng + (fl o nl).length) : specS fac tl dm lm em cp nn ng nl o r = (fun g => if g < ng then 1 else 0, ((dsum dm nn : Int) : Rat)) := by
  unfold specS
  rw [if_neg (by omega), show r - ng = (fl o nl).length by omega, List.getElem?_eq_none (Nat.le_refl _)]
/-- the balance's row while it is written -/
def balT (T : Nat → Rat) (r g : Nat) : Nat → Rat := fun i => if 35 * r ≤ i ∧ i < 35 * r + g then 1 else T i
theorem bal_step {T : Nat → Rat} {r g : Nat} : ∀ j, upQ (balT T r g) (35 * r + g) 1 j = balT T r (g + 1) j := by
  intro j
  unfold upQ balT
  by_cases z : j = 35 * r + g
  · rw [if_pos z, if_pos (by omega)]
  · rw [if_neg z]
    have : (35 * r ≤ j ∧ j < 35 * r + g) ↔ (35 * r ≤ j ∧ j < 35 * r + (g + 1)) := by omega
    simp only [this]
theorem bal_row {T : Nat → Rat} {bz : Nat → Int} {r gd ng : Nat} {S : Nat → RS9} {ct : Nat → Rat} {x : Rat} (h : TI T bz r S gd ct) (hr : r < 29) (hng : ng ≤ 5) (hS : S r = (fun g => if g < ng then 1 else 0, x)) : ∀ j, j < 35 → upQ (balT T r ng) (35 * r + 34) x (35 * r + j) = opn (S r) j := fun j hj => by
  rw [hS]
  unfold upQ balT opn
  by_cases z : j = 34
  · rw [if_pos (by omega), if_neg (by omega), if_pos z]
  · rw [if_neg (by omega)]
    by_cases z2 : j < 5
    · rw [if_pos z2]
      show _ = if j < ng then (1 : Rat) else 0
      by_cases z3 : j < ng
      · rw [if_pos (by omega), if_pos z3]
      · rw [if_neg (by omega), if_neg z3]; exact h.2 r j (Nat.le_refl _) (by omega) hj
    · rw [if_neg (by omega), if_neg z2, if_neg z]; exact h.2 r j (Nat.le_refl _) (by omega) hj
theorem bal_rest {T : Nat → Rat} {r ng : Nat} {x : Rat} (hng : ng ≤ 5) : ∀ i, i < 1295 → i / 35 ≠ r → upQ (balT T r ng) (35 * r + 34) x i = T i := fun i hi hn => by
  unfold upQ balT
  rw [if_neg (by omega), if_neg (by omega)]
/-- a generator's rows -/
theorem gen_opens {T : Nat → Rat} {bz : Nat → Int} {g : Nat} {S : Nat → RS9} {ct : Nat → Rat} {c x : Rat} (h : TI T bz g S g ct) (hg : g < 5) (hct : ct g = c) (hS : S g = (fun k => if k = g then 1 else 0, x)) : TIo (upQ (upQ (upQ (upQ T (35 * 31 + g) c) (35 * (32 + g) + g) 1) (35 * g + g) 1) (35 * g + 34) x) bz g S (g + 1) ct := by
  refine h.opens (by omega) (fun j hj => ?_) (fun i hi hn => ?_) (fun j hj => ?_) (fun k j hk hj => ?_)
  · rw [hS]
    unfold upQ opn
    by_cases z : j = 34
    · rw [if_pos (by omega), if_neg (by omega), if_pos z]
    · rw [if_neg (by omega)]
      by_cases z1 : j = g
      · rw [if_pos (by omega), if_pos (by omega)]
        show _ = if j = g then (1 : Rat) else 0
        rw [if_pos z1]
      · rw [if_neg (by omega), if_neg (by omega), if_neg (by omega), h.2 g j (Nat.le_refl _) (by omega) hj]
        split
        · show _ = if j = g then (1 : Rat) else 0
          rw [if_neg z1]
        · rfl
  · unfold upQ
    rw [if_neg (by omega), if_neg (by omega), if_neg (by omega), if_neg (by omega)]
  · unfold upQ
    rw [if_neg (by omega), if_neg (by omega), if_neg (by omega)]
    by_cases z : j = g
    · rw [if_pos (by omega), if_pos (by omega), z, hct]
    · rw [if_neg (by omega), h.1.2.2.1 j hj]
      have : j < g ↔ j < g + 1 := by omega
      simp only [this]
  · unfold upQ
    rw [if_neg (by omega), if_neg (by omega)]
    by_cases z : k = g ∧ j = g
    · rw [if_pos (by omega), if_pos (by omega)]
    · rw [if_neg (by omega), if_neg (by omega), h.1.2.2.2.1 k j hk hj]
      have : (j = k ∧ k < g) ↔ (j = k ∧ k < g + 1) := by omega
      simp only [this]
theorem TI.zero {bz : Nat → Int} {S : Nat → RS9} {ct : Nat → Rat} {T : Nat → Rat} (hT : ∀ i, i < 1295 → T i = 0) : TI T bz 0 S 0 ct := by
  refine ⟨⟨fun i j hi _ => absurd hi (by omega), fun j hj => ?_, fun j hj => ?_, fun k j hk hj => ?_, fun i hi => absurd hi (by omega)⟩, fun i j _ h30 hj => hT _ (by omega)⟩
  · rw [hT _ (by omega)]; show (0 : Rat) = -0; grind
  · rw [hT _ (by omega), if_neg (by omega)]
  · rw [hT _ (by omega), if_neg (by omega)]

theorem rows_5 {g0 : GG} {bl : Nat} {xs : Nat → Int32} {l : Launch} {wp : va_W} {p : Program} {e : Env} {R : Room} {s : State} {m : MethodId} {args : Array Value} {below : List Frame} {meth : Method} {c : Code} {Q : State → Prop} {kc0 ks0 kc ks f lam KC KS : Nat} {hs : List CE} {fac ct : Nat → Rat} {tl wl dm lm em cp : Nat → Int} {oi : Int32} {nn ng nl lam9 hi1 : Nat} {ou : Int} (hoi : oi.toInt = ou) (hnn : tl 0 = (nn : Int)) (hn4 : nn ≤ 4) (hnl : tl 2 = (nl : Int)) (hn6 : nl ≤ 6) (hou : ou = -1 ∨ (0 ≤ ou ∧ ou < (nl : Int))) (hng : tl 3 = (ng : Int)) (hn5 : ng ≤ 5) (hat : ∀ g, g < ng → 0 ≤ tl (17 + g) ∧ tl (17 + g) ≤ 3) (hdm : ∀ j, 0 ≤ dm j ∧ dm j ≤ 220) (hlm : ∀ j, 0 ≤ lm j ∧ lm j ≤ 100001) (hem : ∀ j, 0 ≤ em j ∧ em j ≤ 100001) (hcp : ∀ j, 0 ≤ cp j ∧ cp j ≤ 200) (hF0 : ∀ j, j < 24 → IsI ((lam9 : Rat) * fac j) ∧ Ab 1 (fac j)) (hF1 : ou ≠ -1 → ∀ j, 24 ≤ j → j < 48 → IsI ((lam9 : Rat) * fac j) ∧ Ab 1 (fac j)) (h0 : 0 < lam9) (h256 : lam9 ≤ 256) (hhi : ou ≠ -1 → hi1 = 48) (hct : ∀ g, g < ng → ct g = ((wl (12 + g) : Int) : Rat)) (hwl : ∀ g, g < ng → 0 ≤ wl (12 + g) ∧ wl (12 + g) ≤ 99) {T : Nat → Rat} {bz : Nat → Int} {ri : Int32} {r : Nat} (hri : ri.toInt = (r : Int)) (hr : r = ng + (fl ou nl).length) (hTI : TI T bz r (specS fac tl dm lm em cp nn ng nl ou) ng ct) (hf : 6 ≤ R.frames) (hl : 163 ≤ R.locals) (hc : kc ≤ R.cells + kc0) (hsl : ks ≤ R.slots + ks0) (act : Act SSX TBL (gp g0 wp) CLS bl xs D_234 p l s m args meth c) (hEnd : EndN SSX TBL (gp g0 wp) CLS D_234 p l e R s m args below meth c Q kc0 ks0 f lam KC KS (fun kd _ h2 => kd = 0 ∧ ∃ (T : Nat → Rat) (bz : Nat → Int) (ri : Int32), QArr h2 139 140 1295 T ∧ IArr h2 141 30 bz ∧ TIf T bz (ng + (fl ou nl).length) (specS fac tl dm lm em cp nn ng nl ou) ng ct ∧ rd h2 124 28 = .int ri ∧ ri.toInt = ((ng + (fl ou nl).length + 1 : Nat) : Int) ∧ FrS WC hs h2)) (hk1 : kc ≤ KC) (hk2 : ks ≤ KS) : ∀ j9 : Nat, j9 ≤ nn → ∀ (xi : Int32) (a : Int64) (hj : List CE), xi.toInt = (j9 : Int) → a.toInt = dsum dm j9 → RW hj → IArr hj 125 46 tl → IArr hj 127 39 wl → IArr hj 135 4 dm → IArr hj 136 6 lm → IArr hj 137 6 em → IArr hj 138 5 cp → QRng hj 131 132 0 24 fac → QRng hj 131 132 24 hi1 fac → rd hj 124 24 = .int oi → IArr hj 141 30 bz → rd hj 124 28 = .int ri → QArr hj 139 140 1295 (balT T r ng) → FrS WC hs hj → WpN (gp g0 wp) CLS p l e R s m args below meth c Q D_234.2.2.1 kc0 ks0 238 [some (.ref 124), some (.long a), none, some (.int xi)] (hj, kc, ks) [] := by
  have hfl := fl_le (o := ou) nl
  refine dn (fun j9 hj9 ih => ?_)
  intro xi a hj hxi ha rwj hTo hW hD hLi hEm hCp hR0 hR1 h24 hB h28 hT hfr
  have hdb9 := dsum_b hdm j9
  refine g_loadI act (gx gp_234 (w := 0x300ef02) rfl (by decide) rfl) (a := 3) (n := 239) rfl rfl rfl ?_
  refine g_loadA act (gx gp_234 (w := 0xf003) rfl (by decide) rfl) (a := 0) (n := 240) rfl rfl rfl ?_
  refine r_getf act (gx gp_234 (w := 0x300004900f304) rfl (by decide) rfl) (n := 243) (ci := 9) (j := 1) (N := 39) rfl rfl rfl rwj.1 (by decide) (rwj.2 (1, 125, 32, 46) (by decide)).1 ?_
  refine g_constI act (gx gp_234 (w := 0x4000000040000000100000000f401) rfl (by decide) rfl) (n := 244) (x := (0 : Int32)) (by decide) rfl ?_
  obtain ⟨x_1, e_2, hx_3⟩ := hTo 0 (by omega)
  refine r_iald act (gx gp_234 (w := 0xf51a) rfl (by decide) rfl) (n := 245) (j := 0) rfl (rwj.2 (1, 125, 32, 46) (by decide)).2 (show (0 : Int32).toInt = ((0 : Nat) : Int) from by decide) (show 0 < 46 by omega) (v := .int x_1) e_2 ?_
  refine g_icmpGe act (gx gp_234 (w := 0x10800f808) rfl (by decide) rfl) (tgt := 264) (n := 248) rfl rfl (fun h4 => ?_) (fun h4 => ?_)
  · simp only [i_le] at h4
    refine g_loadA act (gx gp_234 (w := 0x10903) rfl (by decide) rfl) (a := 0) (n := 265) rfl rfl rfl ?_
    refine g_loadA act (gx gp_234 (w := 0x10a03) rfl (by decide) rfl) (a := 0) (n := 266) rfl rfl rfl ?_
    refine r_getf act (gx gp_234 (w := 0x709010d04) rfl (by decide) rfl) (n := 269) (ci := 9) (j := 28) (N := 39) rfl rfl rfl rwj.1 (by decide) (v := .int ri) h28 ?_
    refine g_constI act (gx gp_234 (w := 0x40000011400000111000000010f01) rfl (by decide) rfl) (n := 271) (x := (34 : Int32)) (by decide) rfl ?_
    refine g_loadL act (gx gp_234 (w := 0x1011006) rfl (by decide) rfl) (a := 1) (n := 272) rfl rfl rfl ?_
    refine g_constL act (gx gp_234 (w := 0x4000000000000000a000000011101) rfl (by decide) rfl) (n := 273) (x := 1) (by decide) rfl ?_
    refine n_call tb_pres act hEnd (gx (P := G_call) gp_234 (w := 0xa00000000000081c7500010001140f) rfl (by decide) rfl) (d' := D_256) rfl (as := [.ref 124, .int ri, .int (34 : Int32), .long a, .long (1 : Int64)]) (rest := []) (b_putsQ (R9 := r) (C9 := 34) rwj hT hri (show (34 : Int32).toInt = ((34 : Nat) : Int) from by decide) (by omega) (fr_int ha (by decide))) (show (5 : Nat) = fb 0xa00000000000081c7500010001140f % 16 by decide) (by show (7 : Nat) ≤ 7; decide) (fun _ => ⟨_, _, rfl, _, shp_at rwj.1, Or.inr (show fb 0xa00000000000081c7500010001140f >>> 68 = 10 by decide)⟩) (by omega) (by show 8 + (7 + 11) + 0 ≤ R.locals; omega) (by show (0 : Nat) ≤ 8; decide) (by show kc + 0 ≤ _; omega) (by show ks + 0 ≤ _; omega) (fun r9 hs_5 hpo hr9 => ?_) (fun x9 hs9 hx9 hpo => ?_)
    · obtain rfl : r9 = none := hr9.elim (fun q => q.2) (fun q => absurd rfl q.1)
      obtain ⟨-, hT_4, fr_6⟩ := hpo
      have rw_7 := rwj.fr fr_6 W1_rw
      have f_8 := hTo.fr (fun j9 _ => fr_6.2.2 125 j9 (by unfold W1; omega))
      have f_9 := hW.fr (fun j9 _ => fr_6.2.2 127 j9 (by unfold W1; omega))
      have f_10 := hD.fr (fun j9 _ => fr_6.2.2 135 j9 (by unfold W1; omega))
      have f_11 := hLi.fr (fun j9 _ => fr_6.2.2 136 j9 (by unfold W1; omega))
      have f_12 := hEm.fr (fun j9 _ => fr_6.2.2 137 j9 (by unfold W1; omega))
      have f_13 := hCp.fr (fun j9 _ => fr_6.2.2 138 j9 (by unfold W1; omega))
      have f_14 := hR0.fr (fun j9 _ _ => ⟨fr_6.2.2 131 j9 (by unfold W1; omega), fr_6.2.2 132 j9 (by unfold W1; omega)⟩)
      have f_15 := hR1.fr (fun j9 _ _ => ⟨fr_6.2.2 131 j9 (by unfold W1; omega), fr_6.2.2 132 j9 (by unfold W1; omega)⟩)
      have f_16 := rd_fr fr_6 h24 (by unfold W1; omega)
      have f_17 := hB.fr (fun j9 _ => fr_6.2.2 141 j9 (by unfold W1; omega))
      have f_18 := rd_fr fr_6 h28 (by unfold W1; omega)
      have fr_19 := hfr.tr (fr_6.mono (fun k9 j9 h9 => by unfold W1 at h9; unfold WC; omega))
      clear rwj hTo hW hD hLi hEm hCp hR0 hR1 h24 hB h28 hT hfr
      show WpN (gp g0 wp) CLS p l e R s m args below meth c Q D_234.2.2.1 kc0 ks0 276 [some (.ref 124), some (.long a), none, some (.int xi)] (hs_5, kc, ks) []
      refine g_loadA act (gx gp_234 (w := 0x11503) rfl (by decide) rfl) (a := 0) (n := 277) rfl rfl rfl ?_
      refine g_constI act (gx gp_234 (w := 0x40000000c00000009000000011601) rfl (by decide) rfl) (n := 278) (x := (1 : Int32)) (by decide) rfl ?_
      obtain rfl : j9 = nn := by omega
      have hdb := dsum_b hdm j9
      have hrow := bal_row hTI (by omega) hn5 (specS_end hr)
      refine n_call tb_pres act hEnd (gx (P := G_call) gp_234 (w := 0xa000000000000814220000bd01190f) rfl (by decide) rfl) (d' := D_189) rfl (as := [.ref 124, .int (1 : Int32)]) (rest := []) (b_closes1 (r := r) hri (by omega) (by rw [hrow 34 (by decide), specS_end hr]; show (0 : Rat) ≤ ((dsum dm j9 : Int) : Rat); exact ic_le.mpr hdb.1) (fun k hk => by rw [hrow k hk]; exact opn_sm h0 h256 (specS_sm hn4 hn6 hat hdm hlm hem hcp hF0 hF1 r) k) (fun k hk => by rw [bal_rest hn5 _ (by omega) (by omega)]; exact gol_sm h0 h256 (by omega) (fun i _ => specS_sm hn4 hn6 hat hdm hlm hem hcp hF0 hF1 i) hTI.1 k hk) rw_7 hT_4 f_17 f_18) (show (2 : Nat) = fb 0xa000000000000814220000bd01190f % 16 by decide) (by show (2 : Nat) ≤ 5; decide) (fun _ => ⟨_, _, rfl, _, shp_at rw_7.1, Or.inr (show fb 0xa000000000000814220000bd01190f >>> 68 = 10 by decide)⟩) (by omega) (by show 8 + (5 + 11) + 112 ≤ R.locals; omega) (by show (0 : Nat) ≤ 8; decide) (by show kc + 0 ≤ _; omega) (by show ks + 0 ≤ _; omega) (fun r9 hs_25 hpo hr9 => ?_) (fun x9 hs9 hx9 hpo => ?_)
      · obtain rfl : r9 = none := hr9.elim (fun q => q.2) (fun q => absurd rfl q.1)
        obtain ⟨-, tr_23, hn_24, hA_20, hb_21, h8_22, fr_26⟩ := hpo
        have rw_27 := rw_7.fr fr_26 WC_rw
        have f_28 := f_8.fr (fun j9 _ => fr_26.2.2 125 j9 (by unfold WC; omega))
        have f_29 := f_9.fr (fun j9 _ => fr_26.2.2 127 j9 (by unfold WC; omega))
        have f_30 := f_10.fr (fun j9 _ => fr_26.2.2 135 j9 (by unfold WC; omega))
        have f_31 := f_11.fr (fun j9 _ => fr_26.2.2 136 j9 (by unfold WC; omega))
        have f_32 := f_12.fr (fun j9 _ => fr_26.2.2 137 j9 (by unfold WC; omega))
        have f_33 := f_13.fr (fun j9 _ => fr_26.2.2 138 j9 (by unfold WC; omega))
        have f_34 := f_14.fr (fun j9 _ _ => ⟨fr_26.2.2 131 j9 (by unfold WC; omega), fr_26.2.2 132 j9 (by unfold WC; omega)⟩)
        have f_35 := f_15.fr (fun j9 _ _ => ⟨fr_26.2.2 131 j9 (by unfold WC; omega), fr_26.2.2 132 j9 (by unfold WC; omega)⟩)
        have f_36 := rd_fr fr_26 f_16 (by unfold WC; omega)
        have fr_37 := fr_19.tr fr_26
        clear rw_7 f_8 f_9 f_10 f_11 f_12 f_13 f_14 f_15 f_16 f_17 f_18 hT_4 fr_19
        show WpN (gp g0 wp) CLS p l e R s m args below meth c Q D_234.2.2.1 kc0 ks0 281 [some (.ref 124), some (.long a), none, some (.int xi)] (hs_25, kc, ks) []
        cases tr_23 with
        | true =>
          exfalso
          have := hn_24.mp rfl
          rw [hrow 34 (by decide), specS_end hr] at this
          have h9 : (0 : Rat) ≤ ((dsum dm j9 : Int) : Rat) := ic_le.mpr hdb.1
          have this : ((dsum dm j9 : Int) : Rat) < 0 := this
          grind
        | false =>
          subst hr
          exact g_retV hEnd (gx gp_234 (w := 0x18) rfl (by decide) rfl) ⟨rfl, _, _, _, hA_20, hb_21, (hTI.opens2 (by omega) hrow (bal_rest hn5)).last (by omega), h8_22, iv_addN hri (show (1 : Int32).toInt = ((1 : Nat) : Int) from by decide) (by omega), fr_37⟩ hk1 hk2
      · exact absurd hpo.1 (by omega)
    · exact absurd hpo.1 (by omega)
  · simp only [i_le] at h4
    refine g_loadL act (gx gp_234 (w := 0x100f906) rfl (by decide) rfl) (a := 1) (n := 249) rfl rfl rfl ?_
    refine g_loadA act (gx gp_234 (w := 0xfa03) rfl (by decide) rfl) (a := 0) (n := 250) rfl rfl rfl ?_
    refine r_getf act (gx gp_234 (w := 0x300050900fd04) rfl (by decide) rfl) (n := 253) (ci := 9) (j := 20) (N := 39) rfl rfl rfl rwj.1 (by decide) (rwj.2 (20, 135, 32, 4) (by decide)).1 ?_
    refine g_loadI act (gx gp_234 (w := 0x300fe02) rfl (by decide) rfl) (a := 3) (n := 254) rfl rfl rfl ?_
    obtain ⟨x_38, e_39, hx_40⟩ := hD j9 (by omega)
    have b_41 := hdm j9
    refine r_iald act (gx gp_234 (w := 0xff1a) rfl (by decide) rfl) (n := 255) (j := j9) rfl (rwj.2 (20, 135, 32, 4) (by decide)).2 hxi (show j9 < 4 by omega) (v := .int x_38) e_39 ?_
    refine g_i2l act (gx gp_234 (w := 0x1002c) rfl (by decide) rfl) (n := 256) rfl ?_
    have v_42 := lw_i2l hx_40
    refine g_ladd act (gx gp_234 (w := 0x1011f) rfl (by decide) rfl) (n := 257) rfl ?_
    have v_43 := lw_add ha v_42 (show -9223372036854775808 ≤ ((dsum dm j9) + (dm j9)) by omega) (show ((dsum dm j9) + (dm j9)) < 9223372036854775808 by omega)
    refine g_storeL act (gx gp_234 (w := 0x101020b) rfl (by decide) rfl) (a := 1) (n := 258) rfl rfl (L2 := [some (.ref 124), some (.long (a + (x_38).toInt64)), none, some (.int xi)]) rfl ?_
    refine g_iinc act (gx gp_234 (w := 0x80000001000003010509) rfl (by decide) rfl) (a := 3) (i := (1 : Int32)) (n := 261) rfl (by decide) rfl rfl (L2 := [some (.ref 124), some (.long (a + (x_38).toInt64)), none, some (.int (xi + (1 : Int32)))]) rfl ?_
    have v_44 := iv_addN hxi (show (1 : Int32).toInt = ((1 : Nat) : Int) from by decide) (show (j9 + 1) < 2147483648 by omega)
    refine g_goto act (gx gp_234 (w := 0xee07) rfl (by decide) rfl) (n := 238) rfl ?_
    exact ih (j9 + 1) (by omega) (by omega) _ _ hj v_44 v_43 rwj hTo hW hD hLi hEm hCp hR0 hR1 h24 hB h28 hT hfr

theorem rows_4 {g0 : GG} {bl : Nat} {xs : Nat → Int32} {l : Launch} {wp : va_W} {p : Program} {e : Env} {R : Room} {s : State} {m : MethodId} {args : Array Value} {below : List Frame} {meth : Method} {c : Code} {Q : State → Prop} {kc0 ks0 kc ks f lam KC KS : Nat} {hs : List CE} {fac ct : Nat → Rat} {tl wl dm lm em cp : Nat → Int} {oi : Int32} {nn ng nl lam9 hi1 : Nat} {ou : Int} (hoi : oi.toInt = ou) (hnn : tl 0 = (nn : Int)) (hn4 : nn ≤ 4) (hnl : tl 2 = (nl : Int)) (hn6 : nl ≤ 6) (hou : ou = -1 ∨ (0 ≤ ou ∧ ou < (nl : Int))) (hng : tl 3 = (ng : Int)) (hn5 : ng ≤ 5) (hat : ∀ g, g < ng → 0 ≤ tl (17 + g) ∧ tl (17 + g) ≤ 3) (hdm : ∀ j, 0 ≤ dm j ∧ dm j ≤ 220) (hlm : ∀ j, 0 ≤ lm j ∧ lm j ≤ 100001) (hem : ∀ j, 0 ≤ em j ∧ em j ≤ 100001) (hcp : ∀ j, 0 ≤ cp j ∧ cp j ≤ 200) (hF0 : ∀ j, j < 24 → IsI ((lam9 : Rat) * fac j) ∧ Ab 1 (fac j)) (hF1 : ou ≠ -1 → ∀ j, 24 ≤ j → j < 48 → IsI ((lam9 : Rat) * fac j) ∧ Ab 1 (fac j)) (h0 : 0 < lam9) (h256 : lam9 ≤ 256) (hhi : ou ≠ -1 → hi1 = 48) (hct : ∀ g, g < ng → ct g = ((wl (12 + g) : Int) : Rat)) (hwl : ∀ g, g < ng → 0 ≤ wl (12 + g) ∧ wl (12 + g) ≤ 99) {T : Nat → Rat} {bz : Nat → Int} {ri : Int32} {r : Nat} (hri : ri.toInt = (r : Int)) (hr : r = ng + (fl ou nl).length) (hTI : TI T bz r (specS fac tl dm lm em cp nn ng nl ou) ng ct) (hf : 6 ≤ R.frames) (hl : 163 ≤ R.locals) (hc : kc ≤ R.cells + kc0) (hsl : ks ≤ R.slots + ks0) (act : Act SSX TBL (gp g0 wp) CLS bl xs D_234 p l s m args meth c) (hEnd : EndN SSX TBL (gp g0 wp) CLS D_234 p l e R s m args below meth c Q kc0 ks0 f lam KC KS (fun kd _ h2 => kd = 0 ∧ ∃ (T : Nat → Rat) (bz : Nat → Int) (ri : Int32), QArr h2 139 140 1295 T ∧ IArr h2 141 30 bz ∧ TIf T bz (ng + (fl ou nl).length) (specS fac tl dm lm em cp nn ng nl ou) ng ct ∧ rd h2 124 28 = .int ri ∧ ri.toInt = ((ng + (fl ou nl).length + 1 : Nat) : Int) ∧ FrS WC hs h2)) (hk1 : kc ≤ KC) (hk2 : ks ≤ KS) : ∀ j9 : Nat, j9 ≤ ng → ∀ (xi : Int32) (hj : List CE), xi.toInt = (j9 : Int) → RW hj → IArr hj 125 46 tl → IArr hj 127 39 wl → IArr hj 135 4 dm → IArr hj 136 6 lm → IArr hj 137 6 em → IArr hj 138 5 cp → QRng hj 131 132 0 24 fac → QRng hj 131 132 24 hi1 fac → rd hj 124 24 = .int oi → IArr hj 141 30 bz → rd hj 124 28 = .int ri → QArr hj 139 140 1295 (balT T r j9) → FrS WC hs hj → WpN (gp g0 wp) CLS p l e R s m args below meth c Q D_234.2.2.1 kc0 ks0 207 [some (.ref 124), some (.int xi), none, none] (hj, kc, ks) [] := by
  have hfl := fl_le (o := ou) nl
  refine dn (fun j9 hj9 ih => ?_)
  intro xi hj hxi rwj hTo hW hD hLi hEm hCp hR0 hR1 h24 hB h28 hT hfr
  refine g_loadI act (gx gp_234 (w := 0x100d002) rfl (by decide) rfl) (a := 1) (n := 208) rfl rfl rfl ?_
  refine g_loadA act (gx gp_234 (w := 0xd103) rfl (by decide) rfl) (a := 0) (n := 209) rfl rfl rfl ?_
  refine r_getf act (gx gp_234 (w := 0x300004900d404) rfl (by decide) rfl) (n := 212) (ci := 9) (j := 1) (N := 39) rfl rfl rfl rwj.1 (by decide) (rwj.2 (1, 125, 32, 46) (by decide)).1 ?_
  refine g_constI act (gx gp_234 (w := 0x40000001c0000001900000000d501) rfl (by decide) rfl) (n := 213) (x := (3 : Int32)) (by decide) rfl ?_
  obtain ⟨x_1, e_2, hx_3⟩ := hTo 3 (by omega)
  refine r_iald act (gx gp_234 (w := 0xd61a) rfl (by decide) rfl) (n := 214) (j := 3) rfl (rwj.2 (1, 125, 32, 46) (by decide)).2 (show (3 : Int32).toInt = ((3 : Nat) : Int) from by decide) (show 3 < 46 by omega) (v := .int x_1) e_2 ?_
  refine g_icmpGe act (gx gp_234 (w := 0xea00d908) rfl (by decide) rfl) (tgt := 234) (n := 217) rfl rfl (fun h4 => ?_) (fun h4 => ?_)
  · simp only [i_le] at h4
    refine g_constL act (gx gp_234 (w := 0x4000000000000000200000000eb01) rfl (by decide) rfl) (n := 235) (x := 0) (by decide) rfl ?_
    refine g_storeL act (gx gp_234 (w := 0x100ec0b) rfl (by decide) rfl) (a := 1) (n := 236) rfl rfl (L2 := [some (.ref 124), some (.long (0 : Int64)), none, none]) rfl ?_
    refine g_constI act (gx gp_234 (w := 0x4000000040000000100000000ed01) rfl (by decide) rfl) (n := 237) (x := (0 : Int32)) (by decide) rfl ?_
    refine g_storeI act (gx gp_234 (w := 0x300ee10) rfl (by decide) rfl) (a := 3) (n := 238) rfl rfl (L2 := [some (.ref 124), some (.long (0 : Int64)), none, some (.int (0 : Int32))]) rfl ?_
    obtain rfl : j9 = ng := by omega
    exact rows_5 hoi hnn hn4 hnl hn6 hou hng hn5 hat hdm hlm hem hcp hF0 hF1 h0 h256 hhi hct hwl hri hr hTI hf hl hc hsl act hEnd hk1 hk2 0 (by omega) _ _ hj rfl rfl rwj hTo hW hD hLi hEm hCp hR0 hR1 h24 hB h28 hT hfr
  · simp only [i_le] at h4
    refine g_loadA act (gx gp_234 (w := 0xda03) rfl (by decide) rfl) (a := 0) (n := 218) rfl rfl rfl ?_
    refine g_loadA act (gx gp_234 (w := 0xdb03) rfl (by decide) rfl) (a := 0) (n := 219) rfl rfl rfl ?_
    refine r_getf act (gx gp_234 (w := 0x70900de04) rfl (by decide) rfl) (n := 222) (ci := 9) (j := 28) (N := 39) rfl rfl rfl rwj.1 (by decide) (v := .int ri) h28 ?_
    refine g_loadI act (gx gp_234 (w := 0x100df02) rfl (by decide) rfl) (a := 1) (n := 223) rfl rfl rfl ?_
    refine g_constL act (gx gp_234 (w := 0x4000000000000000a00000000e001) rfl (by decide) rfl) (n := 224) (x := 1) (by decide) rfl ?_
    refine g_constL act (gx gp_234 (w := 0x4000000000000000a00000000e101) rfl (by decide) rfl) (n := 225) (x := 1) (by decide) rfl ?_
    refine n_call tb_pres act hEnd (gx (P := G_call) gp_234 (w := 0xa00000000000081c7500010000e40f) rfl (by decide) rfl) (d' := D_256) rfl (as := [.ref 124, .int ri, .int xi, .long (1 : Int64), .long (1 : Int64)]) (rest := []) (b_putsQ (R9 := r) (C9 := j9) rwj hT hri hxi (by omega) frp1) (show (5 : Nat) = fb 0xa00000000000081c7500010000e40f % 16 by decide) (by show (7 : Nat) ≤ 7; decide) (fun _ => ⟨_, _, rfl, _, shp_at rwj.1, Or.inr (show fb 0xa00000000000081c7500010000e40f >>> 68 = 10 by decide)⟩) (by omega) (by show 8 + (7 + 11) + 0 ≤ R.locals; omega) (by show (0 : Nat) ≤ 8; decide) (by show kc + 0 ≤ _; omega) (by show ks + 0 ≤ _; omega) (fun r9 hs_5 hpo hr9 => ?_) (fun x9 hs9 hx9 hpo => ?_)
    · obtain rfl : r9 = none := hr9.elim (fun q => q.2) (fun q => absurd rfl q.1)
      obtain ⟨-, hT_4, fr_6⟩ := hpo
      have rw_7 := rwj.fr fr_6 W1_rw
      have f_8 := hTo.fr (fun j9 _ => fr_6.2.2 125 j9 (by unfold W1; omega))
      have f_9 := hW.fr (fun j9 _ => fr_6.2.2 127 j9 (by unfold W1; omega))
      have f_10 := hD.fr (fun j9 _ => fr_6.2.2 135 j9 (by unfold W1; omega))
      have f_11 := hLi.fr (fun j9 _ => fr_6.2.2 136 j9 (by unfold W1; omega))
      have f_12 := hEm.fr (fun j9 _ => fr_6.2.2 137 j9 (by unfold W1; omega))
      have f_13 := hCp.fr (fun j9 _ => fr_6.2.2 138 j9 (by unfold W1; omega))
      have f_14 := hR0.fr (fun j9 _ _ => ⟨fr_6.2.2 131 j9 (by unfold W1; omega), fr_6.2.2 132 j9 (by unfold W1; omega)⟩)
      have f_15 := hR1.fr (fun j9 _ _ => ⟨fr_6.2.2 131 j9 (by unfold W1; omega), fr_6.2.2 132 j9 (by unfold W1; omega)⟩)
      have f_16 := rd_fr fr_6 h24 (by unfold W1; omega)
      have f_17 := hB.fr (fun j9 _ => fr_6.2.2 141 j9 (by unfold W1; omega))
      have f_18 := rd_fr fr_6 h28 (by unfold W1; omega)
      have fr_19 := hfr.tr (fr_6.mono (fun k9 j9 h9 => by unfold W1 at h9; unfold WC; omega))
      clear rwj hTo hW hD hLi hEm hCp hR0 hR1 h24 hB h28 hT hfr
      show WpN (gp g0 wp) CLS p l e R s m args below meth c Q D_234.2.2.1 kc0 ks0 228 [some (.ref 124), some (.int xi), none, none] (hs_5, kc, ks) []
      refine g_iinc act (gx gp_234 (w := 0x8000000100000100e709) rfl (by decide) rfl) (a := 1) (i := (1 : Int32)) (n := 231) rfl (by decide) rfl rfl (L2 := [some (.ref 124), some (.int (xi + (1 : Int32))), none, none]) rfl ?_
      have v_20 := iv_addN hxi (show (1 : Int32).toInt = ((1 : Nat) : Int) from by decide) (show (j9 + 1) < 2147483648 by omega)
      refine g_goto act (gx gp_234 (w := 0xcf07) rfl (by decide) rfl) (n := 207) rfl ?_
      exact ih (j9 + 1) (by omega) (by omega) _ _ v_20 rw_7 f_8 f_9 f_10 f_11 f_12 f_13 f_14 f_15 f_16 f_17 f_18 (hT_4.cong (fun j _ => bal_step j)) fr_19
    · exact absurd hpo.1 (by omega)

theorem prod_sm {fac : Rat} {d s : Int} {lam9 : Nat} (h0 : 0 < lam9) (h256 : lam9 ≤ 256) (hs : s = 1 ∨ s = -1) (hF : IsI ((lam9 : Rat) * fac) ∧ Ab 1 fac) (hd : 0 ≤ d ∧ d ≤ 220) : Sml (fac * ((s * d : Int) : Rat)) := by
  have hp : Ab ((220 : Nat) : Rat) ((s * d : Int) : Rat) := Ab.int (by rcases hs with rfl | rfl <;> omega)
  have hq := hF.2.mul hp
  rw [Rat.one_mul] at hq
  refine sml_of (X := 220) h0 h256 ?_ hq (by decide)
  rw [← Rat.mul_assoc]
  exact hF.1.mul (IsI.int _)
theorem sdn_sml {fac : Nat → Rat} {dm : Nat → Int} {s lm : Int} {b lam9 n : Nat} (h0 : 0 < lam9) (h256 : lam9 ≤ 256) (h : IsI ((lam9 : Rat) * sdn fac dm s lm b n) ∧ Ab ((220 * n : Nat) : Rat) (sdn fac dm s lm b n - (lm : Rat))) (hn : n ≤ 4) (hl0 : 0 ≤ lm) (hl9 : lm ≤ 100001) : Sml (sdn fac dm s lm b n) := sml_of (X := 101000) h0 h256 h.1 (sdn_b (lam9 := lam9) h.2 hn hl0 hl9).1 (by decide)

theorem rows_3 {g0 : GG} {bl : Nat} {xs : Nat → Int32} {l : Launch} {wp : va_W} {p : Program} {e : Env} {R : Room} {s : State} {m : MethodId} {args : Array Value} {below : List Frame} {meth : Method} {c : Code} {Q : State → Prop} {kc0 ks0 kc ks f lam KC KS : Nat} {hs : List CE} {fac ct : Nat → Rat} {tl wl dm lm em cp : Nat → Int} {oi : Int32} {nn ng nl lam9 hi1 : Nat} {ou : Int} (hoi : oi.toInt = ou) (hnn : tl 0 = (nn : Int)) (hn4 : nn ≤ 4) (hnl : tl 2 = (nl : Int)) (hn6 : nl ≤ 6) (hou : ou = -1 ∨ (0 ≤ ou ∧ ou < (nl : Int))) (hng : tl 3 = (ng : Int)) (hn5 : ng ≤ 5) (hat : ∀ g, g < ng → 0 ≤ tl (17 + g) ∧ tl (17 + g) ≤ 3) (hdm : ∀ j, 0 ≤ dm j ∧ dm j ≤ 220) (hlm : ∀ j, 0 ≤ lm j ∧ lm j ≤ 100001) (hem : ∀ j, 0 ≤ em j ∧ em j ≤ 100001) (hcp : ∀ j, 0 ≤ cp j ∧ cp j ≤ 200) (hF0 : ∀ j, j < 24 → IsI ((lam9 : Rat) * fac j) ∧ Ab 1 (fac j)) (hF1 : ou ≠ -1 → ∀ j, 24 ≤ j → j < 48 → IsI ((lam9 : Rat) * fac j) ∧ Ab 1 (fac j)) (h0 : 0 < lam9) (h256 : lam9 ≤ 256) (hhi : ou ≠ -1 → hi1 = 48) (hct : ∀ g, g < ng → ct g = ((wl (12 + g) : Int) : Rat)) (hwl : ∀ g, g < ng → 0 ≤ wl (12 + g) ∧ wl (12 + g) ≤ 99) (hf : 6 ≤ R.frames) (hl : 163 ≤ R.locals) (hc : kc ≤ R.cells + kc0) (hsl : ks ≤ R.slots + ks0) (act : Act SSX TBL (gp g0 wp) CLS bl xs D_234 p l s m args meth c) (hEnd : EndN SSX TBL (gp g0 wp) CLS D_234 p l e R s m args below meth c Q kc0 ks0 f lam KC KS (fun kd _ h2 => kd = 0 ∧ ∃ (T : Nat → Rat) (bz : Nat → Int) (ri : Int32), QArr h2 139 140 1295 T ∧ IArr h2 141 30 bz ∧ TIf T bz (ng + (fl ou nl).length) (specS fac tl dm lm em cp nn ng nl ou) ng ct ∧ rd h2 124 28 = .int ri ∧ ri.toInt = ((ng + (fl ou nl).length + 1 : Nat) : Int) ∧ FrS WC hs h2)) (hk1 : kc ≤ KC) (hk2 : ks ≤ KS) : ∀ j9 : Nat, j9 ≤ nl → ∀ (xi ri : Int32) (T : Nat → Rat) (bz : Nat → Int) (r : Nat) (hj : List CE), xi.toInt = (j9 : Int) → ri.toInt = (r : Int) → r = ng + (fl ou j9).length → TI T bz r (specS fac tl dm lm em cp nn ng nl ou) ng ct → RW hj → IArr hj 125 46 tl → IArr hj 127 39 wl → IArr hj 135 4 dm → IArr hj 136 6 lm → IArr hj 137 6 em → IArr hj 138 5 cp → QRng hj 131 132 0 24 fac → QRng hj 131 132 24 hi1 fac → rd hj 124 24 = .int oi → IArr hj 141 30 bz → rd hj 124 28 = .int ri → QArr hj 139 140 1295 T → FrS WC hs hj → WpN (gp g0 wp) CLS p l e R s m args below meth c Q D_234.2.2.1 kc0 ks0 117 [some (.ref 124), some (.int xi), none, none] (hj, kc, ks) [] := by
  refine dn (fun j9 hj9 ih => ?_)
  intro xi ri T bz r hj hxi hri hr hTI rwj hTo hW hD hLi hEm hCp hR0 hR1 h24 hB h28 hT hfr
  have hfl := fl_le (o := ou) j9
  refine g_loadI act (gx gp_234 (w := 0x1007602) rfl (by decide) rfl) (a := 1) (n := 118) rfl rfl rfl ?_
  refine g_loadA act (gx gp_234 (w := 0x7703) rfl (by decide) rfl) (a := 0) (n := 119) rfl rfl rfl ?_
  refine r_getf act (gx gp_234 (w := 0x3000049007a04) rfl (by decide) rfl) (n := 122) (ci := 9) (j := 1) (N := 39) rfl rfl rfl rwj.1 (by decide) (rwj.2 (1, 125, 32, 46) (by decide)).1 ?_
  refine g_constI act (gx gp_234 (w := 0x40000001400000011000000007b01) rfl (by decide) rfl) (n := 123) (x := (2 : Int32)) (by decide) rfl ?_
  obtain ⟨x_1, e_2, hx_3⟩ := hTo 2 (by omega)
  refine r_iald act (gx gp_234 (w := 0x7c1a) rfl (by decide) rfl) (n := 124) (j := 2) rfl (rwj.2 (1, 125, 32, 46) (by decide)).2 (show (2 : Int32).toInt = ((2 : Nat) : Int) from by decide) (show 2 < 46 by omega) (v := .int x_1) e_2 ?_
  refine g_icmpGe act (gx gp_234 (w := 0xcd007f08) rfl (by decide) rfl) (tgt := 205) (n := 127) rfl rfl (fun h4 => ?_) (fun h4 => ?_)
  · simp only [i_le] at h4
    refine g_constI act (gx gp_234 (w := 0x4000000040000000100000000ce01) rfl (by decide) rfl) (n := 206) (x := (0 : Int32)) (by decide) rfl ?_
    refine g_storeI act (gx gp_234 (w := 0x100cf10) rfl (by decide) rfl) (a := 1) (n := 207) rfl rfl (L2 := [some (.ref 124), some (.int (0 : Int32)), none, none]) rfl ?_
    obtain rfl : j9 = nl := by omega
    exact rows_4 hoi hnn hn4 hnl hn6 hou hng hn5 hat hdm hlm hem hcp hF0 hF1 h0 h256 hhi hct hwl hri hr hTI hf hl hc hsl act hEnd hk1 hk2 0 (by omega) _ hj rfl rwj hTo hW hD hLi hEm hCp hR0 hR1 h24 hB h28 (hT.cong (fun j _ => by unfold balT; rw [if_neg (by omega)])) hfr
  · simp only [i_le] at h4
    refine g_loadA act (gx gp_234 (w := 0x8003) rfl (by decide) rfl) (a := 0) (n := 128) rfl rfl rfl ?_
    refine g_loadI act (gx gp_234 (w := 0x1008102) rfl (by decide) rfl) (a := 1) (n := 129) rfl rfl rfl ?_
    refine g_constI act (gx gp_234 (w := 0x40000000400000001000000008201) rfl (by decide) rfl) (n := 130) (x := (0 : Int32)) (by decide) rfl ?_
    refine g_loadA act (gx gp_234 (w := 0x8303) rfl (by decide) rfl) (a := 0) (n := 131) rfl rfl rfl ?_
    refine r_getf act (gx gp_234 (w := 0x3000549008604) rfl (by decide) rfl) (n := 134) (ci := 9) (j := 21) (N := 39) rfl rfl rfl rwj.1 (by decide) (rwj.2 (21, 136, 32, 6) (by decide)).1 ?_
    refine g_loadI act (gx gp_234 (w := 0x1008702) rfl (by decide) rfl) (a := 1) (n := 135) rfl rfl rfl ?_
    obtain ⟨x_4, e_5, hx_6⟩ := hLi j9 (by omega)
    have b_7 := hlm j9
    refine r_iald act (gx gp_234 (w := 0x881a) rfl (by decide) rfl) (n := 136) (j := j9) rfl (rwj.2 (21, 136, 32, 6) (by decide)).2 hxi (show j9 < 6 by omega) (v := .int x_4) e_5 ?_
    refine g_constL act (gx gp_234 (w := 0x4000000000000000a000000008901) rfl (by decide) rfl) (n := 137) (x := 1) (by decide) rfl ?_
    refine n_call tb_pres act hEnd (gx (P := G_call) gp_234 (w := 0xa000000000000820650000ec008c0f) rfl (by decide) rfl) (d' := D_236) rfl (as := [.ref 124, .int xi, .int (0 : Int32), .int x_4, .long (1 : Int64)]) (rest := []) (b_limP (T := T) (fac := fac) (ct := ct) (bz := bz) (tl := tl) (dm := dm) (r := r) (ln9 := j9) (gr := 0) (nn := nn) (ng := ng) (gd := ng) (lam9 := lam9) (lm := lm j9) (S := (specS fac tl dm lm em cp nn ng nl ou)) hri (by omega) hxi (by decide) (by omega) (by decide) hx_6 (hlm j9).1 (hlm j9).2 hnn hn4 hng hn5 hat hdm (fun j a1 a2 => sml_of (X := 1) h0 h256 (hF0 j (by omega)).1 (hF0 j (by omega)).2 (by decide)) (fun j a1 => prod_sm h0 h256 (Or.inl rfl) ((fun j (hj : j < 4) => hF0 (24 * 0 + 4 * j9 + j) (by omega)) j (by omega)) (hdm j)) (fun j a1 => sdn_sml h0 h256 (sdn_ok (Or.inl rfl) (fun j (hj : j < 4) => hF0 (24 * 0 + 4 * j9 + j) (by omega)) hdm j (by omega)) (by omega) (hlm j9).1 (hlm j9).2) hTI (specS_fl (o := ou) (nl := nl) (ng := ng) (nn := nn) (fac := fac) (tl := tl) (dm := dm) (lm := lm) (em := em) (cp := cp) (l := j9) (k := 0) (x := (j9, 0, 1)) (by omega) (by omega) (by rfl)) h0 h256 (fun i _ => specS_sm hn4 hn6 hat hdm hlm hem hcp hF0 hF1 i) rwj hTo hR0 hD hB h28 hT) (show (5 : Nat) = fb 0xa000000000000820650000ec008c0f % 16 by decide) (by show (6 : Nat) ≤ 8; decide) (fun _ => ⟨_, _, rfl, _, shp_at rwj.1, Or.inr (show fb 0xa000000000000820650000ec008c0f >>> 68 = 10 by decide)⟩) (by omega) (by show 8 + (8 + 11) + 136 ≤ R.locals; omega) (by show (0 : Nat) ≤ 8; decide) (by show kc + 0 ≤ _; omega) (by show ks + 0 ≤ _; omega) (fun r9 hs_15 hpo hr9 => ?_) (fun x9 hs9 hx9 hpo => ?_)
    · obtain rfl : r9 = none := hr9.elim (fun q => q.2) (fun q => absurd rfl q.1)
      obtain ⟨-, T_8, bz_9, hA_10, hb_11, hI_12, h8_13, fr_16⟩ := hpo
      have rw_17 := rwj.fr fr_16 WC_rw
      have f_18 := hTo.fr (fun j9 _ => fr_16.2.2 125 j9 (by unfold WC; omega))
      have f_19 := hW.fr (fun j9 _ => fr_16.2.2 127 j9 (by unfold WC; omega))
      have f_20 := hD.fr (fun j9 _ => fr_16.2.2 135 j9 (by unfold WC; omega))
      have f_21 := hLi.fr (fun j9 _ => fr_16.2.2 136 j9 (by unfold WC; omega))
      have f_22 := hEm.fr (fun j9 _ => fr_16.2.2 137 j9 (by unfold WC; omega))
      have f_23 := hCp.fr (fun j9 _ => fr_16.2.2 138 j9 (by unfold WC; omega))
      have f_24 := hR0.fr (fun j9 _ _ => ⟨fr_16.2.2 131 j9 (by unfold WC; omega), fr_16.2.2 132 j9 (by unfold WC; omega)⟩)
      have f_25 := hR1.fr (fun j9 _ _ => ⟨fr_16.2.2 131 j9 (by unfold WC; omega), fr_16.2.2 132 j9 (by unfold WC; omega)⟩)
      have f_26 := rd_fr fr_16 h24 (by unfold WC; omega)
      have fr_27 := hfr.tr fr_16
      have hr_14 := iv_addN hri (show (1 : Int32).toInt = ((1 : Nat) : Int) from by decide) (show (r + 1) < 2147483648 by omega)
      clear rwj hTo hW hD hLi hEm hCp hR0 hR1 h24 hB h28 hT hfr
      show WpN (gp g0 wp) CLS p l e R s m args below meth c Q D_234.2.2.1 kc0 ks0 140 [some (.ref 124), some (.int xi), none, none] (hs_15, kc, ks) []
      refine g_loadA act (gx gp_234 (w := 0x8d03) rfl (by decide) rfl) (a := 0) (n := 141) rfl rfl rfl ?_
      refine g_loadI act (gx gp_234 (w := 0x1008e02) rfl (by decide) rfl) (a := 1) (n := 142) rfl rfl rfl ?_
      refine g_constI act (gx gp_234 (w := 0x40000000400000001000000008f01) rfl (by decide) rfl) (n := 143) (x := (0 : Int32)) (by decide) rfl ?_
      refine g_loadA act (gx gp_234 (w := 0x9003) rfl (by decide) rfl) (a := 0) (n := 144) rfl rfl rfl ?_
      refine r_getf act (gx gp_234 (w := 0x3000549009304) rfl (by decide) rfl) (n := 147) (ci := 9) (j := 21) (N := 39) rfl rfl rfl rw_17.1 (by decide) (rw_17.2 (21, 136, 32, 6) (by decide)).1 ?_
      refine g_loadI act (gx gp_234 (w := 0x1009402) rfl (by decide) rfl) (a := 1) (n := 148) rfl rfl rfl ?_
      obtain ⟨x_28, e_29, hx_30⟩ := f_21 j9 (by omega)
      have b_31 := hlm j9
      refine r_iald act (gx gp_234 (w := 0x951a) rfl (by decide) rfl) (n := 149) (j := j9) rfl (rw_17.2 (21, 136, 32, 6) (by decide)).2 hxi (show j9 < 6 by omega) (v := .int x_28) e_29 ?_
      refine g_constL act (gx gp_234 (w := 0x3fffffffffffffffa000000009801) rfl (by decide) rfl) (n := 152) (x := (-1 : Int64)) (by decide) rfl ?_
      refine n_call tb_pres act hEnd (gx (P := G_call) gp_234 (w := 0xa000000000000820650000ec009b0f) rfl (by decide) rfl) (d' := D_236) rfl (as := [.ref 124, .int xi, .int (0 : Int32), .int x_28, .long (-1 : Int64)]) (rest := []) (b_limM (T := T_8) (fac := fac) (ct := ct) (bz := bz_9) (tl := tl) (dm := dm) (r := (r + 1)) (ln9 := j9) (gr := 0) (nn := nn) (ng := ng) (gd := ng) (lam9 := lam9) (lm := lm j9) (S := (specS fac tl dm lm em cp nn ng nl ou)) hr_14 (by omega) hxi (by decide) (by omega) (by decide) hx_30 (hlm j9).1 (hlm j9).2 hnn hn4 hng hn5 hat hdm (fun j a1 a2 => sml_of (X := 1) h0 h256 (hF0 j (by omega)).1 (hF0 j (by omega)).2 (by decide)) (fun j a1 => prod_sm h0 h256 (Or.inr rfl) ((fun j (hj : j < 4) => hF0 (24 * 0 + 4 * j9 + j) (by omega)) j (by omega)) (hdm j)) (fun j a1 => sdn_sml h0 h256 (sdn_ok (Or.inr rfl) (fun j (hj : j < 4) => hF0 (24 * 0 + 4 * j9 + j) (by omega)) hdm j (by omega)) (by omega) (hlm j9).1 (hlm j9).2) hI_12 (specS_fl (o := ou) (nl := nl) (ng := ng) (nn := nn) (fac := fac) (tl := tl) (dm := dm) (lm := lm) (em := em) (cp := cp) (l := j9) (k := 1) (x := (j9, 0, (-1))) (by omega) (by omega) (by rfl)) h0 h256 (fun i _ => specS_sm hn4 hn6 hat hdm hlm hem hcp hF0 hF1 i) rw_17 f_18 f_24 f_20 hb_11 h8_13 hA_10) (show (5 : Nat) = fb 0xa000000000000820650000ec009b0f % 16 by decide) (by show (6 : Nat) ≤ 8; decide) (fun _ => ⟨_, _, rfl, _, shp_at rw_17.1, Or.inr (show fb 0xa000000000000820650000ec009b0f >>> 68 = 10 by decide)⟩) (by omega) (by show 8 + (8 + 11) + 136 ≤ R.locals; omega) (by show (0 : Nat) ≤ 8; decide) (by show kc + 0 ≤ _; omega) (by show ks + 0 ≤ _; omega) (fun r9 hs_39 hpo hr9 => ?_) (fun x9 hs9 hx9 hpo => ?_)
      · obtain rfl : r9 = none := hr9.elim (fun q => q.2) (fun q => absurd rfl q.1)
        obtain ⟨-, T_32, bz_33, hA_34, hb_35, hI_36, h8_37, fr_40⟩ := hpo
        have rw_41 := rw_17.fr fr_40 WC_rw
        have f_42 := f_18.fr (fun j9 _ => fr_40.2.2 125 j9 (by unfold WC; omega))
        have f_43 := f_19.fr (fun j9 _ => fr_40.2.2 127 j9 (by unfold WC; omega))
        have f_44 := f_20.fr (fun j9 _ => fr_40.2.2 135 j9 (by unfold WC; omega))
        have f_45 := f_21.fr (fun j9 _ => fr_40.2.2 136 j9 (by unfold WC; omega))
        have f_46 := f_22.fr (fun j9 _ => fr_40.2.2 137 j9 (by unfold WC; omega))
        have f_47 := f_23.fr (fun j9 _ => fr_40.2.2 138 j9 (by unfold WC; omega))
        have f_48 := f_24.fr (fun j9 _ _ => ⟨fr_40.2.2 131 j9 (by unfold WC; omega), fr_40.2.2 132 j9 (by unfold WC; omega)⟩)
        have f_49 := f_25.fr (fun j9 _ _ => ⟨fr_40.2.2 131 j9 (by unfold WC; omega), fr_40.2.2 132 j9 (by unfold WC; omega)⟩)
        have f_50 := rd_fr fr_40 f_26 (by unfold WC; omega)
        have fr_51 := fr_27.tr fr_40
        have hr_38 := iv_addN hr_14 (show (1 : Int32).toInt = ((1 : Nat) : Int) from by decide) (show ((r + 1) + 1) < 2147483648 by omega)
        clear rw_17 f_18 f_19 f_20 f_21 f_22 f_23 f_24 f_25 f_26 hA_10 hb_11 h8_13 fr_27
        show WpN (gp g0 wp) CLS p l e R s m args below meth c Q D_234.2.2.1 kc0 ks0 155 [some (.ref 124), some (.int xi), none, none] (hs_39, kc, ks) []
        refine g_loadA act (gx gp_234 (w := 0x9c03) rfl (by decide) rfl) (a := 0) (n := 156) rfl rfl rfl ?_
        refine r_getf act (gx gp_234 (w := 0x609009f04) rfl (by decide) rfl) (n := 159) (ci := 9) (j := 24) (N := 39) rfl rfl rfl rw_41.1 (by decide) (v := .int oi) f_50 ?_
        refine g_constI act (gx gp_234 (w := 0x3fffffffbfffffff900000000a001) rfl (by decide) rfl) (n := 160) (x := (-1 : Int32)) (by decide) rfl ?_
        refine g_icmpEq act (gx gp_234 (w := 0xc700a32e) rfl (by decide) rfl) (tgt := 199) (n := 163) rfl rfl (fun h21 => ?_) (fun h21 => ?_)
        · simp only [i_eq, show (-1 : Int32).toInt = -1 from by decide] at h21
          refine g_iinc act (gx gp_234 (w := 0x8000000100000100ca09) rfl (by decide) rfl) (a := 1) (i := (1 : Int32)) (n := 202) rfl (by decide) rfl rfl (L2 := [some (.ref 124), some (.int (xi + (1 : Int32))), none, none]) rfl ?_
          have v_52 := iv_addN hxi (show (1 : Int32).toInt = ((1 : Nat) : Int) from by decide) (show (j9 + 1) < 2147483648 by omega)
          refine g_goto act (gx gp_234 (w := 0x7507) rfl (by decide) rfl) (n := 117) rfl ?_
          exact ih (j9 + 1) (by omega) (by omega) _ _ _ _ _ _ v_52 hr_38 (by rw [fl_len]; rw [if_neg (by omega)]; omega) hI_36 rw_41 f_42 f_43 f_44 f_45 f_46 f_47 f_48 f_49 f_50 hb_35 h8_37 hA_34 fr_51
        · simp only [i_eq, show (-1 : Int32).toInt = -1 from by decide] at h21
          refine g_loadI act (gx gp_234 (w := 0x100a402) rfl (by decide) rfl) (a := 1) (n := 164) rfl rfl rfl ?_
          refine g_loadA act (gx gp_234 (w := 0xa503) rfl (by decide) rfl) (a := 0) (n := 165) rfl rfl rfl ?_
          refine r_getf act (gx gp_234 (w := 0x60900a804) rfl (by decide) rfl) (n := 168) (ci := 9) (j := 24) (N := 39) rfl rfl rfl rw_41.1 (by decide) (v := .int oi) f_50 ?_
          refine g_icmpEq act (gx gp_234 (w := 0xc700ab2e) rfl (by decide) rfl) (tgt := 199) (n := 171) rfl rfl (fun h25 => ?_) (fun h25 => ?_)
          · simp only [i_eq] at h25
            refine g_iinc act (gx gp_234 (w := 0x8000000100000100ca09) rfl (by decide) rfl) (a := 1) (i := (1 : Int32)) (n := 202) rfl (by decide) rfl rfl (L2 := [some (.ref 124), some (.int (xi + (1 : Int32))), none, none]) rfl ?_
            have v_53 := iv_addN hxi (show (1 : Int32).toInt = ((1 : Nat) : Int) from by decide) (show (j9 + 1) < 2147483648 by omega)
            refine g_goto act (gx gp_234 (w := 0x7507) rfl (by decide) rfl) (n := 117) rfl ?_
            exact ih (j9 + 1) (by omega) (by omega) _ _ _ _ _ _ v_53 hr_38 (by rw [fl_len]; rw [if_neg (by omega)]; omega) hI_36 rw_41 f_42 f_43 f_44 f_45 f_46 f_47 f_48 f_49 f_50 hb_35 h8_37 hA_34 fr_51
          · simp only [i_eq] at h25
            refine g_loadA act (gx gp_234 (w := 0xac03) rfl (by decide) rfl) (a := 0) (n := 172) rfl rfl rfl ?_
            refine g_loadI act (gx gp_234 (w := 0x100ad02) rfl (by decide) rfl) (a := 1) (n := 173) rfl rfl rfl ?_
            refine g_constI act (gx gp_234 (w := 0x40000000c0000000900000000ae01) rfl (by decide) rfl) (n := 174) (x := (1 : Int32)) (by decide) rfl ?_
            refine g_loadA act (gx gp_234 (w := 0xaf03) rfl (by decide) rfl) (a := 0) (n := 175) rfl rfl rfl ?_
            refine r_getf act (gx gp_234 (w := 0x300058900b204) rfl (by decide) rfl) (n := 178) (ci := 9) (j := 22) (N := 39) rfl rfl rfl rw_41.1 (by decide) (rw_41.2 (22, 137, 32, 6) (by decide)).1 ?_
            refine g_loadI act (gx gp_234 (w := 0x100b302) rfl (by decide) rfl) (a := 1) (n := 179) rfl rfl rfl ?_
            obtain ⟨x_54, e_55, hx_56⟩ := f_46 j9 (by omega)
            have b_57 := hem j9
            refine r_iald act (gx gp_234 (w := 0xb41a) rfl (by decide) rfl) (n := 180) (j := j9) rfl (rw_41.2 (22, 137, 32, 6) (by decide)).2 hxi (show j9 < 6 by omega) (v := .int x_54) e_55 ?_
            refine g_constL act (gx gp_234 (w := 0x4000000000000000a00000000b501) rfl (by decide) rfl) (n := 181) (x := 1) (by decide) rfl ?_
            refine n_call tb_pres act hEnd (gx (P := G_call) gp_234 (w := 0xa000000000000820650000ec00b80f) rfl (by decide) rfl) (d' := D_236) rfl (as := [.ref 124, .int xi, .int (1 : Int32), .int x_54, .long (1 : Int64)]) (rest := []) (b_limP (T := T_32) (fac := fac) (ct := ct) (bz := bz_33) (tl := tl) (dm := dm) (r := ((r + 1) + 1)) (ln9 := j9) (gr := 1) (nn := nn) (ng := ng) (gd := ng) (lam9 := lam9) (lm := em j9) (S := (specS fac tl dm lm em cp nn ng nl ou)) hr_38 (by omega) hxi (by decide) (by omega) (by decide) hx_56 (hem j9).1 (hem j9).2 hnn hn4 hng hn5 hat hdm (fun j a1 a2 => sml_of (X := 1) h0 h256 (hF1 (by omega) j (by omega) (by omega)).1 (hF1 (by omega) j (by omega) (by omega)).2 (by decide)) (fun j a1 => prod_sm h0 h256 (Or.inl rfl) ((fun j (hj : j < 4) => hF1 (by omega) (24 * 1 + 4 * j9 + j) (by omega) (by omega)) j (by omega)) (hdm j)) (fun j a1 => sdn_sml h0 h256 (sdn_ok (Or.inl rfl) (fun j (hj : j < 4) => hF1 (by omega) (24 * 1 + 4 * j9 + j) (by omega) (by omega)) hdm j (by omega)) (by omega) (hem j9).1 (hem j9).2) hI_36 (specS_fl (o := ou) (nl := nl) (ng := ng) (nn := nn) (fac := fac) (tl := tl) (dm := dm) (lm := lm) (em := em) (cp := cp) (l := j9) (k := 2) (x := (j9, 1, 1)) (by omega) (by omega) (by rw [if_pos (by omega)]; rfl)) h0 h256 (fun i _ => specS_sm hn4 hn6 hat hdm hlm hem hcp hF0 hF1 i) rw_41 f_42 (by have q9 := hhi (by omega); subst q9; exact f_49) f_44 hb_35 h8_37 hA_34) (show (5 : Nat) = fb 0xa000000000000820650000ec00b80f % 16 by decide) (by show (6 : Nat) ≤ 8; decide) (fun _ => ⟨_, _, rfl, _, shp_at rw_41.1, Or.inr (show fb 0xa000000000000820650000ec00b80f >>> 68 = 10 by decide)⟩) (by omega) (by show 8 + (8 + 11) + 136 ≤ R.locals; omega) (by show (0 : Nat) ≤ 8; decide) (by show kc + 0 ≤ _; omega) (by show ks + 0 ≤ _; omega) (fun r9 hs_65 hpo hr9 => ?_) (fun x9 hs9 hx9 hpo => ?_)
            · obtain rfl : r9 = none := hr9.elim (fun q => q.2) (fun q => absurd rfl q.1)
              obtain ⟨-, T_58, bz_59, hA_60, hb_61, hI_62, h8_63, fr_66⟩ := hpo
              have rw_67 := rw_41.fr fr_66 WC_rw
              have f_68 := f_42.fr (fun j9 _ => fr_66.2.2 125 j9 (by unfold WC; omega))
              have f_69 := f_43.fr (fun j9 _ => fr_66.2.2 127 j9 (by unfold WC; omega))
              have f_70 := f_44.fr (fun j9 _ => fr_66.2.2 135 j9 (by unfold WC; omega))
              have f_71 := f_45.fr (fun j9 _ => fr_66.2.2 136 j9 (by unfold WC; omega))
              have f_72 := f_46.fr (fun j9 _ => fr_66.2.2 137 j9 (by unfold WC; omega))
              have f_73 := f_47.fr (fun j9 _ => fr_66.2.2 138 j9 (by unfold WC; omega))
              have f_74 := f_48.fr (fun j9 _ _ => ⟨fr_66.2.2 131 j9 (by unfold WC; omega), fr_66.2.2 132 j9 (by unfold WC; omega)⟩)
              have f_75 := f_49.fr (fun j9 _ _ => ⟨fr_66.2.2 131 j9 (by unfold WC; omega), fr_66.2.2 132 j9 (by unfold WC; omega)⟩)
              have f_76 := rd_fr fr_66 f_50 (by unfold WC; omega)
              have fr_77 := fr_51.tr fr_66
              have hr_64 := iv_addN hr_38 (show (1 : Int32).toInt = ((1 : Nat) : Int) from by decide) (show (((r + 1) + 1) + 1) < 2147483648 by omega)
              clear rw_41 f_42 f_43 f_44 f_45 f_46 f_47 f_48 f_49 f_50 hA_34 hb_35 h8_37 fr_51
              show WpN (gp g0 wp) CLS p l e R s m args below meth c Q D_234.2.2.1 kc0 ks0 184 [some (.ref 124), some (.int xi), none, none] (hs_65, kc, ks) []
              refine g_loadA act (gx gp_234 (w := 0xb903) rfl (by decide) rfl) (a := 0) (n := 185) rfl rfl rfl ?_
              refine g_loadI act (gx gp_234 (w := 0x100ba02) rfl (by decide) rfl) (a := 1) (n := 186) rfl rfl rfl ?_
              refine g_constI act (gx gp_234 (w := 0x40000000c0000000900000000bb01) rfl (by decide) rfl) (n := 187) (x := (1 : Int32)) (by decide) rfl ?_
              refine g_loadA act (gx gp_234 (w := 0xbc03) rfl (by decide) rfl) (a := 0) (n := 188) rfl rfl rfl ?_
              refine r_getf act (gx gp_234 (w := 0x300058900bf04) rfl (by decide) rfl) (n := 191) (ci := 9) (j := 22) (N := 39) rfl rfl rfl rw_67.1 (by decide) (rw_67.2 (22, 137, 32, 6) (by decide)).1 ?_
              refine g_loadI act (gx gp_234 (w := 0x100c002) rfl (by decide) rfl) (a := 1) (n := 192) rfl rfl rfl ?_
              obtain ⟨x_78, e_79, hx_80⟩ := f_72 j9 (by omega)
              have b_81 := hem j9
              refine r_iald act (gx gp_234 (w := 0xc11a) rfl (by decide) rfl) (n := 193) (j := j9) rfl (rw_67.2 (22, 137, 32, 6) (by decide)).2 hxi (show j9 < 6 by omega) (v := .int x_78) e_79 ?_
              refine g_constL act (gx gp_234 (w := 0x3fffffffffffffffa00000000c401) rfl (by decide) rfl) (n := 196) (x := (-1 : Int64)) (by decide) rfl ?_
              refine n_call tb_pres act hEnd (gx (P := G_call) gp_234 (w := 0xa000000000000820650000ec00c70f) rfl (by decide) rfl) (d' := D_236) rfl (as := [.ref 124, .int xi, .int (1 : Int32), .int x_78, .long (-1 : Int64)]) (rest := []) (b_limM (T := T_58) (fac := fac) (ct := ct) (bz := bz_59) (tl := tl) (dm := dm) (r := (((r + 1) + 1) + 1)) (ln9 := j9) (gr := 1) (nn := nn) (ng := ng) (gd := ng) (lam9 := lam9) (lm := em j9) (S := (specS fac tl dm lm em cp nn ng nl ou)) hr_64 (by omega) hxi (by decide) (by omega) (by decide) hx_80 (hem j9).1 (hem j9).2 hnn hn4 hng hn5 hat hdm (fun j a1 a2 => sml_of (X := 1) h0 h256 (hF1 (by omega) j (by omega) (by omega)).1 (hF1 (by omega) j (by omega) (by omega)).2 (by decide)) (fun j a1 => prod_sm h0 h256 (Or.inr rfl) ((fun j (hj : j < 4) => hF1 (by omega) (24 * 1 + 4 * j9 + j) (by omega) (by omega)) j (by omega)) (hdm j)) (fun j a1 => sdn_sml h0 h256 (sdn_ok (Or.inr rfl) (fun j (hj : j < 4) => hF1 (by omega) (24 * 1 + 4 * j9 + j) (by omega) (by omega)) hdm j (by omega)) (by omega) (hem j9).1 (hem j9).2) hI_62 (specS_fl (o := ou) (nl := nl) (ng := ng) (nn := nn) (fac := fac) (tl := tl) (dm := dm) (lm := lm) (em := em) (cp := cp) (l := j9) (k := 3) (x := (j9, 1, (-1))) (by omega) (by omega) (by rw [if_pos (by omega)]; rfl)) h0 h256 (fun i _ => specS_sm hn4 hn6 hat hdm hlm hem hcp hF0 hF1 i) rw_67 f_68 (by have q9 := hhi (by omega); subst q9; exact f_75) f_70 hb_61 h8_63 hA_60) (show (5 : Nat) = fb 0xa000000000000820650000ec00c70f % 16 by decide) (by show (6 : Nat) ≤ 8; decide) (fun _ => ⟨_, _, rfl, _, shp_at rw_67.1, Or.inr (show fb 0xa000000000000820650000ec00c70f >>> 68 = 10 by decide)⟩) (by omega) (by show 8 + (8 + 11) + 136 ≤ R.locals; omega) (by show (0 : Nat) ≤ 8; decide) (by show kc + 0 ≤ _; omega) (by show ks + 0 ≤ _; omega) (fun r9 hs_89 hpo hr9 => ?_) (fun x9 hs9 hx9 hpo => ?_)
              · obtain rfl : r9 = none := hr9.elim (fun q => q.2) (fun q => absurd rfl q.1)
                obtain ⟨-, T_82, bz_83, hA_84, hb_85, hI_86, h8_87, fr_90⟩ := hpo
                have rw_91 := rw_67.fr fr_90 WC_rw
                have f_92 := f_68.fr (fun j9 _ => fr_90.2.2 125 j9 (by unfold WC; omega))
                have f_93 := f_69.fr (fun j9 _ => fr_90.2.2 127 j9 (by unfold WC; omega))
                have f_94 := f_70.fr (fun j9 _ => fr_90.2.2 135 j9 (by unfold WC; omega))
                have f_95 := f_71.fr (fun j9 _ => fr_90.2.2 136 j9 (by unfold WC; omega))
                have f_96 := f_72.fr (fun j9 _ => fr_90.2.2 137 j9 (by unfold WC; omega))
                have f_97 := f_73.fr (fun j9 _ => fr_90.2.2 138 j9 (by unfold WC; omega))
                have f_98 := f_74.fr (fun j9 _ _ => ⟨fr_90.2.2 131 j9 (by unfold WC; omega), fr_90.2.2 132 j9 (by unfold WC; omega)⟩)
                have f_99 := f_75.fr (fun j9 _ _ => ⟨fr_90.2.2 131 j9 (by unfold WC; omega), fr_90.2.2 132 j9 (by unfold WC; omega)⟩)
                have f_100 := rd_fr fr_90 f_76 (by unfold WC; omega)
                have fr_101 := fr_77.tr fr_90
                have hr_88 := iv_addN hr_64 (show (1 : Int32).toInt = ((1 : Nat) : Int) from by decide) (show ((((r + 1) + 1) + 1) + 1) < 2147483648 by omega)
                clear rw_67 f_68 f_69 f_70 f_71 f_72 f_73 f_74 f_75 f_76 hA_60 hb_61 h8_63 fr_77
                show WpN (gp g0 wp) CLS p l e R s m args below meth c Q D_234.2.2.1 kc0 ks0 199 [some (.ref 124), some (.int xi), none, none] (hs_89, kc, ks) []
                refine g_iinc act (gx gp_234 (w := 0x8000000100000100ca09) rfl (by decide) rfl) (a := 1) (i := (1 : Int32)) (n := 202) rfl (by decide) rfl rfl (L2 := [some (.ref 124), some (.int (xi + (1 : Int32))), none, none]) rfl ?_
                have v_102 := iv_addN hxi (show (1 : Int32).toInt = ((1 : Nat) : Int) from by decide) (show (j9 + 1) < 2147483648 by omega)
                refine g_goto act (gx gp_234 (w := 0x7507) rfl (by decide) rfl) (n := 117) rfl ?_
                exact ih (j9 + 1) (by omega) (by omega) _ _ _ _ _ _ v_102 hr_88 (by rw [fl_len]; rw [if_pos (by omega)]; omega) hI_86 rw_91 f_92 f_93 f_94 f_95 f_96 f_97 f_98 f_99 f_100 hb_85 h8_87 hA_84 fr_101
              · exact absurd hpo.1 (by omega)
            · exact absurd hpo.1 (by omega)
      · exact absurd hpo.1 (by omega)
    · exact absurd hpo.1 (by omega)

theorem rows_2 {g0 : GG} {bl : Nat} {xs : Nat → Int32} {l : Launch} {wp : va_W} {p : Program} {e : Env} {R : Room} {s : State} {m : MethodId} {args : Array Value} {below : List Frame} {meth : Method} {c : Code} {Q : State → Prop} {kc0 ks0 kc ks f lam KC KS : Nat} {hs : List CE} {fac ct : Nat → Rat} {tl wl dm lm em cp : Nat → Int} {oi : Int32} {nn ng nl lam9 hi1 : Nat} {ou : Int} (hoi : oi.toInt = ou) (hnn : tl 0 = (nn : Int)) (hn4 : nn ≤ 4) (hnl : tl 2 = (nl : Int)) (hn6 : nl ≤ 6) (hou : ou = -1 ∨ (0 ≤ ou ∧ ou < (nl : Int))) (hng : tl 3 = (ng : Int)) (hn5 : ng ≤ 5) (hat : ∀ g, g < ng → 0 ≤ tl (17 + g) ∧ tl (17 + g) ≤ 3) (hdm : ∀ j, 0 ≤ dm j ∧ dm j ≤ 220) (hlm : ∀ j, 0 ≤ lm j ∧ lm j ≤ 100001) (hem : ∀ j, 0 ≤ em j ∧ em j ≤ 100001) (hcp : ∀ j, 0 ≤ cp j ∧ cp j ≤ 200) (hF0 : ∀ j, j < 24 → IsI ((lam9 : Rat) * fac j) ∧ Ab 1 (fac j)) (hF1 : ou ≠ -1 → ∀ j, 24 ≤ j → j < 48 → IsI ((lam9 : Rat) * fac j) ∧ Ab 1 (fac j)) (h0 : 0 < lam9) (h256 : lam9 ≤ 256) (hhi : ou ≠ -1 → hi1 = 48) (hct : ∀ g, g < ng → ct g = ((wl (12 + g) : Int) : Rat)) (hwl : ∀ g, g < ng → 0 ≤ wl (12 + g) ∧ wl (12 + g) ≤ 99) (hf : 6 ≤ R.frames) (hl : 163 ≤ R.locals) (hc : kc ≤ R.cells + kc0) (hsl : ks ≤ R.slots + ks0) (act : Act SSX TBL (gp g0 wp) CLS bl xs D_234 p l s m args meth c) (hEnd : EndN SSX TBL (gp g0 wp) CLS D_234 p l e R s m args below meth c Q kc0 ks0 f lam KC KS (fun kd _ h2 => kd = 0 ∧ ∃ (T : Nat → Rat) (bz : Nat → Int) (ri : Int32), QArr h2 139 140 1295 T ∧ IArr h2 141 30 bz ∧ TIf T bz (ng + (fl ou nl).length) (specS fac tl dm lm em cp nn ng nl ou) ng ct ∧ rd h2 124 28 = .int ri ∧ ri.toInt = ((ng + (fl ou nl).length + 1 : Nat) : Int) ∧ FrS WC hs h2)) (hk1 : kc ≤ KC) (hk2 : ks ≤ KS) : ∀ j9 : Nat, j9 ≤ ng → ∀ (xi ri : Int32) (T : Nat → Rat) (bz : Nat → Int) (hj : List CE), xi.toInt = (j9 : Int) → ri.toInt = (j9 : Int) → TI T bz j9 (specS fac tl dm lm em cp nn ng nl ou) j9 ct → RW hj → IArr hj 125 46 tl → IArr hj 127 39 wl → IArr hj 135 4 dm → IArr hj 136 6 lm → IArr hj 137 6 em → IArr hj 138 5 cp → QRng hj 131 132 0 24 fac → QRng hj 131 132 24 hi1 fac → rd hj 124 24 = .int oi → IArr hj 141 30 bz → rd hj 124 28 = .int ri → QArr hj 139 140 1295 T → FrS WC hs hj → WpN (gp g0 wp) CLS p l e R s m args below meth c Q D_234.2.2.1 kc0 ks0 36 [some (.ref 124), some (.int xi), none, none] (hj, kc, ks) [] := by
  refine dn (fun j9 hj9 ih => ?_)
  intro xi ri T bz hj hxi hri hTI rwj hTo hW hD hLi hEm hCp hR0 hR1 h24 hB h28 hT hfr
  have hwj := hwl j9
  refine g_loadI act (gx gp_234 (w := 0x1002502) rfl (by decide) rfl) (a := 1) (n := 37) rfl rfl rfl ?_
  refine g_loadA act (gx gp_234 (w := 0x2603) rfl (by decide) rfl) (a := 0) (n := 38) rfl rfl rfl ?_
  refine r_getf act (gx gp_234 (w := 0x3000049002904) rfl (by decide) rfl) (n := 41) (ci := 9) (j := 1) (N := 39) rfl rfl rfl rwj.1 (by decide) (rwj.2 (1, 125, 32, 46) (by decide)).1 ?_
  refine g_constI act (gx gp_234 (w := 0x40000001c00000019000000002a01) rfl (by decide) rfl) (n := 42) (x := (3 : Int32)) (by decide) rfl ?_
  obtain ⟨x_1, e_2, hx_3⟩ := hTo 3 (by omega)
  refine r_iald act (gx gp_234 (w := 0x2b1a) rfl (by decide) rfl) (n := 43) (j := 3) rfl (rwj.2 (1, 125, 32, 46) (by decide)).2 (show (3 : Int32).toInt = ((3 : Nat) : Int) from by decide) (show 3 < 46 by omega) (v := .int x_1) e_2 ?_
  refine g_icmpGe act (gx gp_234 (w := 0x73002e08) rfl (by decide) rfl) (tgt := 115) (n := 46) rfl rfl (fun h4 => ?_) (fun h4 => ?_)
  · simp only [i_le] at h4
    refine g_constI act (gx gp_234 (w := 0x40000000400000001000000007401) rfl (by decide) rfl) (n := 116) (x := (0 : Int32)) (by decide) rfl ?_
    refine g_storeI act (gx gp_234 (w := 0x1007510) rfl (by decide) rfl) (a := 1) (n := 117) rfl rfl (L2 := [some (.ref 124), some (.int (0 : Int32)), none, none]) rfl ?_
    obtain rfl : j9 = ng := by omega
    exact rows_3 hoi hnn hn4 hnl hn6 hou hng hn5 hat hdm hlm hem hcp hF0 hF1 h0 h256 hhi hct hwl hf hl hc hsl act hEnd hk1 hk2 0 (by omega) _ _ T bz _ hj rfl hri rfl hTI rwj hTo hW hD hLi hEm hCp hR0 hR1 h24 hB h28 hT hfr
  · simp only [i_le] at h4
    refine g_loadA act (gx gp_234 (w := 0x2f03) rfl (by decide) rfl) (a := 0) (n := 47) rfl rfl rfl ?_
    refine g_constI act (gx gp_234 (w := 0x4000000fc000000f9000000003101) rfl (by decide) rfl) (n := 49) (x := (31 : Int32)) (by decide) rfl ?_
    refine g_loadI act (gx gp_234 (w := 0x1003202) rfl (by decide) rfl) (a := 1) (n := 50) rfl rfl rfl ?_
    refine g_loadA act (gx gp_234 (w := 0x3303) rfl (by decide) rfl) (a := 0) (n := 51) rfl rfl rfl ?_
    refine r_getf act (gx gp_234 (w := 0x30000c9003604) rfl (by decide) rfl) (n := 54) (ci := 9) (j := 3) (N := 39) rfl rfl rfl rwj.1 (by decide) (rwj.2 (3, 127, 32, 39) (by decide)).1 ?_
    refine g_constI act (gx gp_234 (w := 0x40000006400000061000000003801) rfl (by decide) rfl) (n := 56) (x := (12 : Int32)) (by decide) rfl ?_
    refine g_loadI act (gx gp_234 (w := 0x1003902) rfl (by decide) rfl) (a := 1) (n := 57) rfl rfl rfl ?_
    refine g_iadd act (gx gp_234 (w := 0x3a0a) rfl (by decide) rfl) (n := 58) rfl ?_
    have v_4 := iv_addN (show (12 : Int32).toInt = ((12 : Nat) : Int) from by decide) hxi (show (12 + j9) < 2147483648 by omega)
    obtain ⟨x_5, e_6, hx_7⟩ := hW (12 + j9) (by omega)
    refine r_iald act (gx gp_234 (w := 0x3b1a) rfl (by decide) rfl) (n := 59) (j := (12 + j9)) rfl (rwj.2 (3, 127, 32, 39) (by decide)).2 v_4 (show (12 + j9) < 39 by omega) (v := .int x_5) e_6 ?_
    refine g_i2l act (gx gp_234 (w := 0x3c2c) rfl (by decide) rfl) (n := 60) rfl ?_
    have v_8 := lw_i2l hx_7
    refine g_constL act (gx gp_234 (w := 0x4000000000000000a000000003d01) rfl (by decide) rfl) (n := 61) (x := 1) (by decide) rfl ?_
    refine n_call tb_pres act hEnd (gx (P := G_call) gp_234 (w := 0xa00000000000081c7500010000400f) rfl (by decide) rfl) (d' := D_256) rfl (as := [.ref 124, .int (31 : Int32), .int xi, .long (x_5).toInt64, .long (1 : Int64)]) (rest := []) (b_putsQ (R9 := 31) (C9 := j9) rwj hT (show (31 : Int32).toInt = ((31 : Nat) : Int) from by decide) hxi (by omega) (fr_int v_8 (by decide))) (show (5 : Nat) = fb 0xa00000000000081c7500010000400f % 16 by decide) (by show (7 : Nat) ≤ 7; decide) (fun _ => ⟨_, _, rfl, _, shp_at rwj.1, Or.inr (show fb 0xa00000000000081c7500010000400f >>> 68 = 10 by decide)⟩) (by omega) (by show 8 + (7 + 11) + 0 ≤ R.locals; omega) (by show (0 : Nat) ≤ 8; decide) (by show kc + 0 ≤ _; omega) (by show ks + 0 ≤ _; omega) (fun r9 hs_10 hpo hr9 => ?_) (fun x9 hs9 hx9 hpo => ?_)
    · obtain rfl : r9 = none := hr9.elim (fun q => q.2) (fun q => absurd rfl q.1)
      obtain ⟨-, hT_9, fr_11⟩ := hpo
      have rw_12 := rwj.fr fr_11 W1_rw
      have f_13 := hTo.fr (fun j9 _ => fr_11.2.2 125 j9 (by unfold W1; omega))
      have f_14 := hW.fr (fun j9 _ => fr_11.2.2 127 j9 (by unfold W1; omega))
      have f_15 := hD.fr (fun j9 _ => fr_11.2.2 135 j9 (by unfold W1; omega))
      have f_16 := hLi.fr (fun j9 _ => fr_11.2.2 136 j9 (by unfold W1; omega))
      have f_17 := hEm.fr (fun j9 _ => fr_11.2.2 137 j9 (by unfold W1; omega))
      have f_18 := hCp.fr (fun j9 _ => fr_11.2.2 138 j9 (by unfold W1; omega))
      have f_19 := hR0.fr (fun j9 _ _ => ⟨fr_11.2.2 131 j9 (by unfold W1; omega), fr_11.2.2 132 j9 (by unfold W1; omega)⟩)
      have f_20 := hR1.fr (fun j9 _ _ => ⟨fr_11.2.2 131 j9 (by unfold W1; omega), fr_11.2.2 132 j9 (by unfold W1; omega)⟩)
      have f_21 := rd_fr fr_11 h24 (by unfold W1; omega)
      have f_22 := hB.fr (fun j9 _ => fr_11.2.2 141 j9 (by unfold W1; omega))
      have f_23 := rd_fr fr_11 h28 (by unfold W1; omega)
      have fr_24 := hfr.tr (fr_11.mono (fun k9 j9 h9 => by unfold W1 at h9; unfold WC; omega))
      clear rwj hTo hW hD hLi hEm hCp hR0 hR1 h24 hB h28 hT hfr
      show WpN (gp g0 wp) CLS p l e R s m args below meth c Q D_234.2.2.1 kc0 ks0 64 [some (.ref 124), some (.int xi), none, none] (hs_10, kc, ks) []
      refine g_loadA act (gx gp_234 (w := 0x4103) rfl (by decide) rfl) (a := 0) (n := 65) rfl rfl rfl ?_
      refine g_constI act (gx gp_234 (w := 0x40000010400000101000000004301) rfl (by decide) rfl) (n := 67) (x := (32 : Int32)) (by decide) rfl ?_
      refine g_loadI act (gx gp_234 (w := 0x1004402) rfl (by decide) rfl) (a := 1) (n := 68) rfl rfl rfl ?_
      refine g_iadd act (gx gp_234 (w := 0x450a) rfl (by decide) rfl) (n := 69) rfl ?_
      have v_25 := iv_addN (show (32 : Int32).toInt = ((32 : Nat) : Int) from by decide) hxi (show (32 + j9) < 2147483648 by omega)
      refine g_loadI act (gx gp_234 (w := 0x1004602) rfl (by decide) rfl) (a := 1) (n := 70) rfl rfl rfl ?_
      refine g_constL act (gx gp_234 (w := 0x4000000000000000a000000004701) rfl (by decide) rfl) (n := 71) (x := 1) (by decide) rfl ?_
      refine g_constL act (gx gp_234 (w := 0x4000000000000000a000000004801) rfl (by decide) rfl) (n := 72) (x := 1) (by decide) rfl ?_
      refine n_call tb_pres act hEnd (gx (P := G_call) gp_234 (w := 0xa00000000000081c75000100004b0f) rfl (by decide) rfl) (d' := D_256) rfl (as := [.ref 124, .int ((32 : Int32) + xi), .int xi, .long (1 : Int64), .long (1 : Int64)]) (rest := []) (b_putsQ (R9 := (32 + j9)) (C9 := j9) rw_12 hT_9 v_25 hxi (by omega) frp1) (show (5 : Nat) = fb 0xa00000000000081c75000100004b0f % 16 by decide) (by show (7 : Nat) ≤ 7; decide) (fun _ => ⟨_, _, rfl, _, shp_at rw_12.1, Or.inr (show fb 0xa00000000000081c75000100004b0f >>> 68 = 10 by decide)⟩) (by omega) (by show 8 + (7 + 11) + 0 ≤ R.locals; omega) (by show (0 : Nat) ≤ 8; decide) (by show kc + 0 ≤ _; omega) (by show ks + 0 ≤ _; omega) (fun r9 hs_27 hpo hr9 => ?_) (fun x9 hs9 hx9 hpo => ?_)
      · obtain rfl : r9 = none := hr9.elim (fun q => q.2) (fun q => absurd rfl q.1)
        obtain ⟨-, hT_26, fr_28⟩ := hpo
        have rw_29 := rw_12.fr fr_28 W1_rw
        have f_30 := f_13.fr (fun j9 _ => fr_28.2.2 125 j9 (by unfold W1; omega))
        have f_31 := f_14.fr (fun j9 _ => fr_28.2.2 127 j9 (by unfold W1; omega))
        have f_32 := f_15.fr (fun j9 _ => fr_28.2.2 135 j9 (by unfold W1; omega))
        have f_33 := f_16.fr (fun j9 _ => fr_28.2.2 136 j9 (by unfold W1; omega))
        have f_34 := f_17.fr (fun j9 _ => fr_28.2.2 137 j9 (by unfold W1; omega))
        have f_35 := f_18.fr (fun j9 _ => fr_28.2.2 138 j9 (by unfold W1; omega))
        have f_36 := f_19.fr (fun j9 _ _ => ⟨fr_28.2.2 131 j9 (by unfold W1; omega), fr_28.2.2 132 j9 (by unfold W1; omega)⟩)
        have f_37 := f_20.fr (fun j9 _ _ => ⟨fr_28.2.2 131 j9 (by unfold W1; omega), fr_28.2.2 132 j9 (by unfold W1; omega)⟩)
        have f_38 := rd_fr fr_28 f_21 (by unfold W1; omega)
        have f_39 := f_22.fr (fun j9 _ => fr_28.2.2 141 j9 (by unfold W1; omega))
        have f_40 := rd_fr fr_28 f_23 (by unfold W1; omega)
        have fr_41 := fr_24.tr (fr_28.mono (fun k9 j9 h9 => by unfold W1 at h9; unfold WC; omega))
        clear rw_12 f_13 f_14 f_15 f_16 f_17 f_18 f_19 f_20 f_21 f_22 f_23 hT_9 fr_24
        show WpN (gp g0 wp) CLS p l e R s m args below meth c Q D_234.2.2.1 kc0 ks0 75 [some (.ref 124), some (.int xi), none, none] (hs_27, kc, ks) []
        refine g_loadA act (gx gp_234 (w := 0x4c03) rfl (by decide) rfl) (a := 0) (n := 76) rfl rfl rfl ?_
        refine g_loadA act (gx gp_234 (w := 0x4d03) rfl (by decide) rfl) (a := 0) (n := 77) rfl rfl rfl ?_
        refine r_getf act (gx gp_234 (w := 0x709005004) rfl (by decide) rfl) (n := 80) (ci := 9) (j := 28) (N := 39) rfl rfl rfl rw_29.1 (by decide) (v := .int ri) f_40 ?_
        refine g_loadI act (gx gp_234 (w := 0x1005102) rfl (by decide) rfl) (a := 1) (n := 81) rfl rfl rfl ?_
        refine g_constL act (gx gp_234 (w := 0x4000000000000000a000000005201) rfl (by decide) rfl) (n := 82) (x := 1) (by decide) rfl ?_
        refine g_constL act (gx gp_234 (w := 0x4000000000000000a000000005301) rfl (by decide) rfl) (n := 83) (x := 1) (by decide) rfl ?_
        refine n_call tb_pres act hEnd (gx (P := G_call) gp_234 (w := 0xa00000000000081c7500010000560f) rfl (by decide) rfl) (d' := D_256) rfl (as := [.ref 124, .int ri, .int xi, .long (1 : Int64), .long (1 : Int64)]) (rest := []) (b_putsQ (R9 := j9) (C9 := j9) rw_29 hT_26 hri hxi (by omega) frp1) (show (5 : Nat) = fb 0xa00000000000081c7500010000560f % 16 by decide) (by show (7 : Nat) ≤ 7; decide) (fun _ => ⟨_, _, rfl, _, shp_at rw_29.1, Or.inr (show fb 0xa00000000000081c7500010000560f >>> 68 = 10 by decide)⟩) (by omega) (by show 8 + (7 + 11) + 0 ≤ R.locals; omega) (by show (0 : Nat) ≤ 8; decide) (by show kc + 0 ≤ _; omega) (by show ks + 0 ≤ _; omega) (fun r9 hs_43 hpo hr9 => ?_) (fun x9 hs9 hx9 hpo => ?_)
        · obtain rfl : r9 = none := hr9.elim (fun q => q.2) (fun q => absurd rfl q.1)
          obtain ⟨-, hT_42, fr_44⟩ := hpo
          have rw_45 := rw_29.fr fr_44 W1_rw
          have f_46 := f_30.fr (fun j9 _ => fr_44.2.2 125 j9 (by unfold W1; omega))
          have f_47 := f_31.fr (fun j9 _ => fr_44.2.2 127 j9 (by unfold W1; omega))
          have f_48 := f_32.fr (fun j9 _ => fr_44.2.2 135 j9 (by unfold W1; omega))
          have f_49 := f_33.fr (fun j9 _ => fr_44.2.2 136 j9 (by unfold W1; omega))
          have f_50 := f_34.fr (fun j9 _ => fr_44.2.2 137 j9 (by unfold W1; omega))
          have f_51 := f_35.fr (fun j9 _ => fr_44.2.2 138 j9 (by unfold W1; omega))
          have f_52 := f_36.fr (fun j9 _ _ => ⟨fr_44.2.2 131 j9 (by unfold W1; omega), fr_44.2.2 132 j9 (by unfold W1; omega)⟩)
          have f_53 := f_37.fr (fun j9 _ _ => ⟨fr_44.2.2 131 j9 (by unfold W1; omega), fr_44.2.2 132 j9 (by unfold W1; omega)⟩)
          have f_54 := rd_fr fr_44 f_38 (by unfold W1; omega)
          have f_55 := f_39.fr (fun j9 _ => fr_44.2.2 141 j9 (by unfold W1; omega))
          have f_56 := rd_fr fr_44 f_40 (by unfold W1; omega)
          have fr_57 := fr_41.tr (fr_44.mono (fun k9 j9 h9 => by unfold W1 at h9; unfold WC; omega))
          clear rw_29 f_30 f_31 f_32 f_33 f_34 f_35 f_36 f_37 f_38 f_39 f_40 hT_26 fr_41
          show WpN (gp g0 wp) CLS p l e R s m args below meth c Q D_234.2.2.1 kc0 ks0 86 [some (.ref 124), some (.int xi), none, none] (hs_43, kc, ks) []
          refine g_loadA act (gx gp_234 (w := 0x5703) rfl (by decide) rfl) (a := 0) (n := 87) rfl rfl rfl ?_
          refine g_loadA act (gx gp_234 (w := 0x5803) rfl (by decide) rfl) (a := 0) (n := 88) rfl rfl rfl ?_
          refine r_getf act (gx gp_234 (w := 0x709005b04) rfl (by decide) rfl) (n := 91) (ci := 9) (j := 28) (N := 39) rfl rfl rfl rw_45.1 (by decide) (v := .int ri) f_56 ?_
          refine g_constI act (gx gp_234 (w := 0x40000011400000111000000005d01) rfl (by decide) rfl) (n := 93) (x := (34 : Int32)) (by decide) rfl ?_
          refine g_loadA act (gx gp_234 (w := 0x5e03) rfl (by decide) rfl) (a := 0) (n := 94) rfl rfl rfl ?_
          refine r_getf act (gx gp_234 (w := 0x30005c9006104) rfl (by decide) rfl) (n := 97) (ci := 9) (j := 23) (N := 39) rfl rfl rfl rw_45.1 (by decide) (rw_45.2 (23, 138, 32, 5) (by decide)).1 ?_
          refine g_loadI act (gx gp_234 (w := 0x1006202) rfl (by decide) rfl) (a := 1) (n := 98) rfl rfl rfl ?_
          obtain ⟨x_58, e_59, hx_60⟩ := f_51 j9 (by omega)
          have b_61 := hcp j9
          refine r_iald act (gx gp_234 (w := 0x631a) rfl (by decide) rfl) (n := 99) (j := j9) rfl (rw_45.2 (23, 138, 32, 5) (by decide)).2 hxi (show j9 < 5 by omega) (v := .int x_58) e_59 ?_
          refine g_i2l act (gx gp_234 (w := 0x642c) rfl (by decide) rfl) (n := 100) rfl ?_
          have v_62 := lw_i2l hx_60
          refine g_constL act (gx gp_234 (w := 0x4000000000000000a000000006501) rfl (by decide) rfl) (n := 101) (x := 1) (by decide) rfl ?_
          refine n_call tb_pres act hEnd (gx (P := G_call) gp_234 (w := 0xa00000000000081c7500010000680f) rfl (by decide) rfl) (d' := D_256) rfl (as := [.ref 124, .int ri, .int (34 : Int32), .long (x_58).toInt64, .long (1 : Int64)]) (rest := []) (b_putsQ (R9 := j9) (C9 := 34) rw_45 hT_42 hri (show (34 : Int32).toInt = ((34 : Nat) : Int) from by decide) (by omega) (fr_int v_62 (by decide))) (show (5 : Nat) = fb 0xa00000000000081c7500010000680f % 16 by decide) (by show (7 : Nat) ≤ 7; decide) (fun _ => ⟨_, _, rfl, _, shp_at rw_45.1, Or.inr (show fb 0xa00000000000081c7500010000680f >>> 68 = 10 by decide)⟩) (by omega) (by show 8 + (7 + 11) + 0 ≤ R.locals; omega) (by show (0 : Nat) ≤ 8; decide) (by show kc + 0 ≤ _; omega) (by show ks + 0 ≤ _; omega) (fun r9 hs_64 hpo hr9 => ?_) (fun x9 hs9 hx9 hpo => ?_)
          · obtain rfl : r9 = none := hr9.elim (fun q => q.2) (fun q => absurd rfl q.1)
            obtain ⟨-, hT_63, fr_65⟩ := hpo
            have rw_66 := rw_45.fr fr_65 W1_rw
            have f_67 := f_46.fr (fun j9 _ => fr_65.2.2 125 j9 (by unfold W1; omega))
            have f_68 := f_47.fr (fun j9 _ => fr_65.2.2 127 j9 (by unfold W1; omega))
            have f_69 := f_48.fr (fun j9 _ => fr_65.2.2 135 j9 (by unfold W1; omega))
            have f_70 := f_49.fr (fun j9 _ => fr_65.2.2 136 j9 (by unfold W1; omega))
            have f_71 := f_50.fr (fun j9 _ => fr_65.2.2 137 j9 (by unfold W1; omega))
            have f_72 := f_51.fr (fun j9 _ => fr_65.2.2 138 j9 (by unfold W1; omega))
            have f_73 := f_52.fr (fun j9 _ _ => ⟨fr_65.2.2 131 j9 (by unfold W1; omega), fr_65.2.2 132 j9 (by unfold W1; omega)⟩)
            have f_74 := f_53.fr (fun j9 _ _ => ⟨fr_65.2.2 131 j9 (by unfold W1; omega), fr_65.2.2 132 j9 (by unfold W1; omega)⟩)
            have f_75 := rd_fr fr_65 f_54 (by unfold W1; omega)
            have f_76 := f_55.fr (fun j9 _ => fr_65.2.2 141 j9 (by unfold W1; omega))
            have f_77 := rd_fr fr_65 f_56 (by unfold W1; omega)
            have fr_78 := fr_57.tr (fr_65.mono (fun k9 j9 h9 => by unfold W1 at h9; unfold WC; omega))
            clear rw_45 f_46 f_47 f_48 f_49 f_50 f_51 f_52 f_53 f_54 f_55 f_56 hT_42 fr_57
            show WpN (gp g0 wp) CLS p l e R s m args below meth c Q D_234.2.2.1 kc0 ks0 104 [some (.ref 124), some (.int xi), none, none] (hs_64, kc, ks) []
            refine g_loadA act (gx gp_234 (w := 0x6903) rfl (by decide) rfl) (a := 0) (n := 105) rfl rfl rfl ?_
            refine g_constI act (gx gp_234 (w := 0x40000000400000001000000006a01) rfl (by decide) rfl) (n := 106) (x := (0 : Int32)) (by decide) rfl ?_
            have hO_84 := gen_opens hTI (by omega) (hct j9 (by omega)) (show (specS fac tl dm lm em cp nn ng nl ou) j9 = _ from if_pos (by omega))
            refine n_call tb_pres act hEnd (gx (P := G_call) gp_234 (w := 0xa000000000000814220000bd006d0f) rfl (by decide) rfl) (d' := D_189) rfl (as := [.ref 124, .int (0 : Int32)]) (rest := []) (b_closes0 (r := j9) hri (by omega) (fun k hk => by rw [hO_84.2.1 k hk]; exact opn_sm h0 h256 (specS_sm hn4 hn6 hat hdm hlm hem hcp hF0 hF1 j9) k) (gol_sm h0 h256 (by omega) (fun i _ => specS_sm hn4 hn6 hat hdm hlm hem hcp hF0 hF1 i) hO_84.1) rw_66 hT_63 f_76 f_77) (show (2 : Nat) = fb 0xa000000000000814220000bd006d0f % 16 by decide) (by show (2 : Nat) ≤ 5; decide) (fun _ => ⟨_, _, rfl, _, shp_at rw_66.1, Or.inr (show fb 0xa000000000000814220000bd006d0f >>> 68 = 10 by decide)⟩) (by omega) (by show 8 + (5 + 11) + 112 ≤ R.locals; omega) (by show (0 : Nat) ≤ 8; decide) (by show kc + 0 ≤ _; omega) (by show ks + 0 ≤ _; omega) (fun r9 hs_85 hpo hr9 => ?_) (fun x9 hs9 hx9 hpo => ?_)
            · obtain rfl : r9 = none := hr9.elim (fun q => q.2) (fun q => absurd rfl q.1)
              obtain ⟨-, tr_82, hn_83, hA_79, hb_80, h8_81, fr_86⟩ := hpo
              have rw_87 := rw_66.fr fr_86 WC_rw
              have f_88 := f_67.fr (fun j9 _ => fr_86.2.2 125 j9 (by unfold WC; omega))
              have f_89 := f_68.fr (fun j9 _ => fr_86.2.2 127 j9 (by unfold WC; omega))
              have f_90 := f_69.fr (fun j9 _ => fr_86.2.2 135 j9 (by unfold WC; omega))
              have f_91 := f_70.fr (fun j9 _ => fr_86.2.2 136 j9 (by unfold WC; omega))
              have f_92 := f_71.fr (fun j9 _ => fr_86.2.2 137 j9 (by unfold WC; omega))
              have f_93 := f_72.fr (fun j9 _ => fr_86.2.2 138 j9 (by unfold WC; omega))
              have f_94 := f_73.fr (fun j9 _ _ => ⟨fr_86.2.2 131 j9 (by unfold WC; omega), fr_86.2.2 132 j9 (by unfold WC; omega)⟩)
              have f_95 := f_74.fr (fun j9 _ _ => ⟨fr_86.2.2 131 j9 (by unfold WC; omega), fr_86.2.2 132 j9 (by unfold WC; omega)⟩)
              have f_96 := rd_fr fr_86 f_75 (by unfold WC; omega)
              have fr_97 := fr_78.tr fr_86
              clear rw_66 f_67 f_68 f_69 f_70 f_71 f_72 f_73 f_74 f_75 f_76 f_77 hT_63 fr_78
              show WpN (gp g0 wp) CLS p l e R s m args below meth c Q D_234.2.2.1 kc0 ks0 109 [some (.ref 124), some (.int xi), none, none] (hs_85, kc, ks) []
              refine g_iinc act (gx gp_234 (w := 0x80000001000001007009) rfl (by decide) rfl) (a := 1) (i := (1 : Int32)) (n := 112) rfl (by decide) rfl rfl (L2 := [some (.ref 124), some (.int (xi + (1 : Int32))), none, none]) rfl ?_
              have v_98 := iv_addN hxi (show (1 : Int32).toInt = ((1 : Nat) : Int) from by decide) (show (j9 + 1) < 2147483648 by omega)
              refine g_goto act (gx gp_234 (w := 0x2407) rfl (by decide) rfl) (n := 36) rfl ?_
              rw [hO_84.2.1 34 (by decide)] at hn_83
              exact ih (j9 + 1) (by omega) (by omega) _ _ _ _ _ v_98 (iv_addN hri (show (1 : Int32).toInt = ((1 : Nat) : Int) from by decide) (show (j9 + 1) < 2147483648 by omega)) (hO_84.close (by omega) hn_83) rw_87 f_88 f_89 f_90 f_91 f_92 f_93 f_94 f_95 f_96 hb_80 h8_81 hA_79 fr_97
            · exact absurd hpo.1 (by omega)
          · exact absurd hpo.1 (by omega)
        · exact absurd hpo.1 (by omega)
      · exact absurd hpo.1 (by omega)
    · exact absurd hpo.1 (by omega)

theorem rows_1 {g0 : GG} {bl : Nat} {xs : Nat → Int32} {l : Launch} {wp : va_W} {p : Program} {e : Env} {R : Room} {s : State} {m : MethodId} {args : Array Value} {below : List Frame} {meth : Method} {c : Code} {Q : State → Prop} {kc0 ks0 kc ks f lam KC KS : Nat} {hs : List CE} {fac ct : Nat → Rat} {tl wl dm lm em cp : Nat → Int} {oi : Int32} {nn ng nl lam9 hi1 : Nat} {ou : Int} (hoi : oi.toInt = ou) (hnn : tl 0 = (nn : Int)) (hn4 : nn ≤ 4) (hnl : tl 2 = (nl : Int)) (hn6 : nl ≤ 6) (hou : ou = -1 ∨ (0 ≤ ou ∧ ou < (nl : Int))) (hng : tl 3 = (ng : Int)) (hn5 : ng ≤ 5) (hat : ∀ g, g < ng → 0 ≤ tl (17 + g) ∧ tl (17 + g) ≤ 3) (hdm : ∀ j, 0 ≤ dm j ∧ dm j ≤ 220) (hlm : ∀ j, 0 ≤ lm j ∧ lm j ≤ 100001) (hem : ∀ j, 0 ≤ em j ∧ em j ≤ 100001) (hcp : ∀ j, 0 ≤ cp j ∧ cp j ≤ 200) (hF0 : ∀ j, j < 24 → IsI ((lam9 : Rat) * fac j) ∧ Ab 1 (fac j)) (hF1 : ou ≠ -1 → ∀ j, 24 ≤ j → j < 48 → IsI ((lam9 : Rat) * fac j) ∧ Ab 1 (fac j)) (h0 : 0 < lam9) (h256 : lam9 ≤ 256) (hhi : ou ≠ -1 → hi1 = 48) (hct : ∀ g, g < ng → ct g = ((wl (12 + g) : Int) : Rat)) (hwl : ∀ g, g < ng → 0 ≤ wl (12 + g) ∧ wl (12 + g) ≤ 99) (hf : 6 ≤ R.frames) (hl : 163 ≤ R.locals) (hc : kc ≤ R.cells + kc0) (hsl : ks ≤ R.slots + ks0) {bz : Nat → Int} {ri : Int32} (hri0 : ri.toInt = ((0 : Nat) : Int)) (act : Act SSX TBL (gp g0 wp) CLS bl xs D_234 p l s m args meth c) (hEnd : EndN SSX TBL (gp g0 wp) CLS D_234 p l e R s m args below meth c Q kc0 ks0 f lam KC KS (fun kd _ h2 => kd = 0 ∧ ∃ (T : Nat → Rat) (bz : Nat → Int) (ri : Int32), QArr h2 139 140 1295 T ∧ IArr h2 141 30 bz ∧ TIf T bz (ng + (fl ou nl).length) (specS fac tl dm lm em cp nn ng nl ou) ng ct ∧ rd h2 124 28 = .int ri ∧ ri.toInt = ((ng + (fl ou nl).length + 1 : Nat) : Int) ∧ FrS WC hs h2)) (hk1 : kc ≤ KC) (hk2 : ks ≤ KS) : ∀ j9 : Nat, j9 ≤ 1295 → ∀ (xi : Int32) (hj : List CE) (fA fB : Nat → Int), xi.toInt = (j9 : Int) → RW hj → IArr hj 125 46 tl → IArr hj 127 39 wl → IArr hj 135 4 dm → IArr hj 136 6 lm → IArr hj 137 6 em → IArr hj 138 5 cp → QRng hj 131 132 0 24 fac → QRng hj 131 132 24 hi1 fac → rd hj 124 24 = .int oi → IArr hj 141 30 bz → rd hj 124 28 = .int ri → LArr hj 139 1295 fA → LArr hj 140 1295 fB → (∀ j, j < j9 → fA j = 0 ∧ fB j = 1) → FrS WC hs hj → WpN (gp g0 wp) CLS p l e R s m args below meth c Q D_234.2.2.1 kc0 ks0 7 [some (.ref 124), some (.int xi), none, none] (hj, kc, ks) [] := by
  refine dn (fun j9 hj9 ih => ?_)
  intro xi hj fA fB hxi rwj hTo hW hD hLi hEm hCp hR0 hR1 h24 hB h28 hA hA2 hz hfr
  refine g_loadI act (gx gp_234 (w := 0x1000802) rfl (by decide) rfl) (a := 1) (n := 8) rfl rfl rfl ?_
  refine g_constI act (gx gp_234 (w := 0x40000287c00002879000000000b01) rfl (by decide) rfl) (n := 11) (x := (1295 : Int32)) (by decide) rfl ?_
  refine g_icmpGe act (gx gp_234 (w := 0x22000e08) rfl (by decide) rfl) (tgt := 34) (n := 14) rfl rfl (fun h3 => ?_) (fun h3 => ?_)
  · simp only [i_le, show (1295 : Int32).toInt = 1295 from by decide] at h3
    refine g_constI act (gx gp_234 (w := 0x40000000400000001000000002301) rfl (by decide) rfl) (n := 35) (x := (0 : Int32)) (by decide) rfl ?_
    refine g_storeI act (gx gp_234 (w := 0x1002410) rfl (by decide) rfl) (a := 1) (n := 36) rfl rfl (L2 := [some (.ref 124), some (.int (0 : Int32)), none, none]) rfl ?_
    obtain rfl : j9 = 1295 := by omega
    have hT : QArr hj 139 140 1295 (fun j => ((fA j : Int) : Rat)) := hA.qarr hA2 (fun j hj => (hz j hj).2)
    exact rows_2 hoi hnn hn4 hnl hn6 hou hng hn5 hat hdm hlm hem hcp hF0 hF1 h0 h256 hhi hct hwl hf hl hc hsl act hEnd hk1 hk2 0 (by omega) _ ri _ bz hj rfl hri0 (TI.zero (fun i hi => by show ((fA i : Int) : Rat) = 0; rw [(hz i hi).1]; rfl)) rwj hTo hW hD hLi hEm hCp hR0 hR1 h24 hB h28 hT hfr
  · simp only [i_le, show (1295 : Int32).toInt = 1295 from by decide] at h3
    refine g_loadA act (gx gp_234 (w := 0xf03) rfl (by decide) rfl) (a := 0) (n := 15) rfl rfl rfl ?_
    refine r_getf act (gx gp_234 (w := 0x3000649001204) rfl (by decide) rfl) (n := 18) (ci := 9) (j := 25) (N := 39) rfl rfl rfl rwj.1 (by decide) (rwj.2 (25, 139, 33, 1295) (by decide)).1 ?_
    refine g_loadI act (gx gp_234 (w := 0x1001302) rfl (by decide) rfl) (a := 1) (n := 19) rfl rfl rfl ?_
    refine g_constL act (gx gp_234 (w := 0x40000000000000002000000001401) rfl (by decide) rfl) (n := 20) (x := 0) (by decide) rfl ?_
    refine r_last act (gx gp_234 (w := 0x1505) rfl (by decide) rfl) (n := 21) (j := j9) rfl (rwj.2 (25, 139, 33, 1295) (by decide)).2 hxi (show j9 < 1295 by omega) ?_
    have rw_1 := RW.wr (k := 139) (j := j9) (v := .long (0 : Int64)) rwj (Or.inl (by decide))
    have f_2 := hTo.ne (k := 139) (j := j9) (v := .long (0 : Int64)) (by decide)
    have f_3 := hW.ne (k := 139) (j := j9) (v := .long (0 : Int64)) (by decide)
    have f_4 := hD.ne (k := 139) (j := j9) (v := .long (0 : Int64)) (by decide)
    have f_5 := hLi.ne (k := 139) (j := j9) (v := .long (0 : Int64)) (by decide)
    have f_6 := hEm.ne (k := 139) (j := j9) (v := .long (0 : Int64)) (by decide)
    have f_7 := hCp.ne (k := 139) (j := j9) (v := .long (0 : Int64)) (by decide)
    have f_8 := hR0.ne (k := 139) (j := j9) (v := .long (0 : Int64)) (by decide) (by decide)
    have f_9 := hR1.ne (k := 139) (j := j9) (v := .long (0 : Int64)) (by decide) (by decide)
    have f_10 := (rd_ne hj (k := 139) (j := j9) (.long (0 : Int64)) (Or.inl (by decide))).trans h24
    have f_11 := hB.ne (k := 139) (j := j9) (v := .long (0 : Int64)) (by decide)
    have f_12 := (rd_ne hj (k := 139) (j := j9) (.long (0 : Int64)) (Or.inl (by decide))).trans h28
    have f_13 := hA.put (j := j9) (rwj.2 (25, 139, 33, 1295) (by decide)).2 (show (0 : Int64).toInt = (0 : Int) from by decide)
    have f_14 := hA2.ne (k := 139) (j := j9) (v := .long (0 : Int64)) (by decide)
    have fr_15 := hfr.wr (k := 139) (j := j9) (.long (0 : Int64)) (by unfold WC; omega)
    clear rwj hfr hTo hW hD hLi hEm hCp hR0 hR1 h24 hB h28 hA hA2
    generalize (wr hj 139 j9 (.long (0 : Int64))) = hs_16 at *
    refine g_loadA act (gx gp_234 (w := 0x1603) rfl (by decide) rfl) (a := 0) (n := 22) rfl rfl rfl ?_
    refine r_getf act (gx gp_234 (w := 0x3000689001904) rfl (by decide) rfl) (n := 25) (ci := 9) (j := 26) (N := 39) rfl rfl rfl rw_1.1 (by decide) (rw_1.2 (26, 140, 33, 1295) (by decide)).1 ?_
    refine g_loadI act (gx gp_234 (w := 0x1001a02) rfl (by decide) rfl) (a := 1) (n := 26) rfl rfl rfl ?_
    refine g_constL act (gx gp_234 (w := 0x4000000000000000a000000001b01) rfl (by decide) rfl) (n := 27) (x := 1) (by decide) rfl ?_
    refine r_last act (gx gp_234 (w := 0x1c05) rfl (by decide) rfl) (n := 28) (j := j9) rfl (rw_1.2 (26, 140, 33, 1295) (by decide)).2 hxi (show j9 < 1295 by omega) ?_
    have rw_17 := RW.wr (k := 140) (j := j9) (v := .long (1 : Int64)) rw_1 (Or.inl (by decide))
    have f_18 := f_2.ne (k := 140) (j := j9) (v := .long (1 : Int64)) (by decide)
    have f_19 := f_3.ne (k := 140) (j := j9) (v := .long (1 : Int64)) (by decide)
    have f_20 := f_4.ne (k := 140) (j := j9) (v := .long (1 : Int64)) (by decide)
    have f_21 := f_5.ne (k := 140) (j := j9) (v := .long (1 : Int64)) (by decide)
    have f_22 := f_6.ne (k := 140) (j := j9) (v := .long (1 : Int64)) (by decide)
    have f_23 := f_7.ne (k := 140) (j := j9) (v := .long (1 : Int64)) (by decide)
    have f_24 := f_8.ne (k := 140) (j := j9) (v := .long (1 : Int64)) (by decide) (by decide)
    have f_25 := f_9.ne (k := 140) (j := j9) (v := .long (1 : Int64)) (by decide) (by decide)
    have f_26 := (rd_ne hs_16 (k := 140) (j := j9) (.long (1 : Int64)) (Or.inl (by decide))).trans f_10
    have f_27 := f_11.ne (k := 140) (j := j9) (v := .long (1 : Int64)) (by decide)
    have f_28 := (rd_ne hs_16 (k := 140) (j := j9) (.long (1 : Int64)) (Or.inl (by decide))).trans f_12
    have f_29 := f_13.ne (k := 140) (j := j9) (v := .long (1 : Int64)) (by decide)
    have f_30 := f_14.put (j := j9) (rw_1.2 (26, 140, 33, 1295) (by decide)).2 (show (1 : Int64).toInt = (1 : Int) from by decide)
    have fr_31 := fr_15.wr (k := 140) (j := j9) (.long (1 : Int64)) (by unfold WC; omega)
    clear rw_1 fr_15 f_2 f_3 f_4 f_5 f_6 f_7 f_8 f_9 f_10 f_11 f_12 f_13 f_14
    generalize (wr hs_16 140 j9 (.long (1 : Int64))) = hs_32 at *
    refine g_iinc act (gx gp_234 (w := 0x80000001000001001f09) rfl (by decide) rfl) (a := 1) (i := (1 : Int32)) (n := 31) rfl (by decide) rfl rfl (L2 := [some (.ref 124), some (.int (xi + (1 : Int32))), none, none]) rfl ?_
    have v_33 := iv_addN hxi (show (1 : Int32).toInt = ((1 : Nat) : Int) from by decide) (show (j9 + 1) < 2147483648 by omega)
    refine g_goto act (gx gp_234 (w := 0x707) rfl (by decide) rfl) (n := 7) rfl ?_
    exact ih (j9 + 1) (by omega) (by omega) _ _ _ _ v_33 rw_17 f_18 f_19 f_20 f_21 f_22 f_23 f_24 f_25 f_26 f_27 f_28 f_29 f_30 (fun j h2 => by unfold upI; split <;> first | exact ⟨rfl, rfl⟩ | exact hz j (by omega)) fr_31

theorem b_rows {g0 : GG} {bl : Nat} {xs : Nat → Int32} {l : Launch} {hs : List CE} {fac ct : Nat → Rat} {tl wl dm lm em cp : Nat → Int} {oi : Int32} {nn ng nl lam9 hi1 : Nat} {ou : Int} (hoi : oi.toInt = ou) (hnn : tl 0 = (nn : Int)) (hn4 : nn ≤ 4) (hnl : tl 2 = (nl : Int)) (hn6 : nl ≤ 6) (hou : ou = -1 ∨ (0 ≤ ou ∧ ou < (nl : Int))) (hng : tl 3 = (ng : Int)) (hn5 : ng ≤ 5) (hat : ∀ g, g < ng → 0 ≤ tl (17 + g) ∧ tl (17 + g) ≤ 3) (hdm : ∀ j, 0 ≤ dm j ∧ dm j ≤ 220) (hlm : ∀ j, 0 ≤ lm j ∧ lm j ≤ 100001) (hem : ∀ j, 0 ≤ em j ∧ em j ≤ 100001) (hcp : ∀ j, 0 ≤ cp j ∧ cp j ≤ 200) (hF0 : ∀ j, j < 24 → IsI ((lam9 : Rat) * fac j) ∧ Ab 1 (fac j)) (hF1 : ou ≠ -1 → ∀ j, 24 ≤ j → j < 48 → IsI ((lam9 : Rat) * fac j) ∧ Ab 1 (fac j)) (h0 : 0 < lam9) (h256 : lam9 ≤ 256) (hhi : ou ≠ -1 → hi1 = 48) (hct : ∀ g, g < ng → ct g = ((wl (12 + g) : Int) : Rat)) (hwl : ∀ g, g < ng → 0 ≤ wl (12 + g) ∧ wl (12 + g) ≤ 99) (rw0 : RW hs) (hTo : IArr hs 125 46 tl) (hW : IArr hs 127 39 wl) (hD : IArr hs 135 4 dm) (hLi : IArr hs 136 6 lm) (hEm : IArr hs 137 6 em) (hCp : IArr hs 138 5 cp) (hR0 : QRng hs 131 132 0 24 fac) (hR1 : QRng hs 131 132 24 hi1 fac) (h24 : rd hs 124 24 = .int oi) {bz : Nat → Int} (hB : IArr hs 141 30 bz) (h139 : ALng hs 139 1295) (h140 : ALng hs 140 1295) : BodyN SSX TBL g0 CLS bl xs l D_234 6 163 0 0 [.ref 124] hs (fun kd _ h2 => kd = 0 ∧ ∃ (T : Nat → Rat) (bz : Nat → Int) (ri : Int32), QArr h2 139 140 1295 T ∧ IArr h2 141 30 bz ∧ TIf T bz (ng + (fl ou nl).length) (specS fac tl dm lm em cp nn ng nl ou) ng ct ∧ rd h2 124 28 = .int ri ∧ ri.toInt = ((ng + (fl ou nl).length + 1 : Nat) : Int) ∧ FrS WC hs h2) := by
  intro wp p e R s m args below meth c Q kc0 ks0 kc ks act hf hl hc hsl hEnd
  obtain ⟨fA, hA⟩ := LArr.any h139
  obtain ⟨fB, hA2⟩ := LArr.any h140
  show WpN (gp g0 wp) CLS p l e R s m args below meth c Q D_234.2.2.1 kc0 ks0 0 [some (.ref 124), none, none, none] (hs, kc, ks) []
  refine g_loadA act (gx gp_234 (w := 0x103) rfl (by decide) rfl) (a := 0) (n := 1) rfl rfl rfl ?_
  refine g_constI act (gx gp_234 (w := 0x40000000400000001000000000201) rfl (by decide) rfl) (n := 2) (x := (0 : Int32)) (by decide) rfl ?_
  refine r_putf act (gx gp_234 (w := 0x709000513) rfl (by decide) rfl) (n := 5) (ci := 9) (j := 28) (N := 39) rfl rfl rfl rw0.1 (by decide) (Or.inl ⟨rfl, _, rfl⟩) ?_
  have rw_1 := RW.wr (k := 124) (j := 28) (v := .int (0 : Int32)) rw0 (Or.inr (by decide))
  have f_2 := hTo.ne (k := 124) (j := 28) (v := .int (0 : Int32)) (by decide)
  have f_3 := hW.ne (k := 124) (j := 28) (v := .int (0 : Int32)) (by decide)
  have f_4 := hD.ne (k := 124) (j := 28) (v := .int (0 : Int32)) (by decide)
  have f_5 := hLi.ne (k := 124) (j := 28) (v := .int (0 : Int32)) (by decide)
  have f_6 := hEm.ne (k := 124) (j := 28) (v := .int (0 : Int32)) (by decide)
  have f_7 := hCp.ne (k := 124) (j := 28) (v := .int (0 : Int32)) (by decide)
  have f_8 := hR0.ne (k := 124) (j := 28) (v := .int (0 : Int32)) (by decide) (by decide)
  have f_9 := hR1.ne (k := 124) (j := 28) (v := .int (0 : Int32)) (by decide) (by decide)
  have f_10 := (rd_ne hs (k := 124) (j := 28) (.int (0 : Int32)) (Or.inr (by decide))).trans h24
  have f_11 := hB.ne (k := 124) (j := 28) (v := .int (0 : Int32)) (by decide)
  have f_12 := hA.ne (k := 124) (j := 28) (v := .int (0 : Int32)) (by decide)
  have f_13 := hA2.ne (k := 124) (j := 28) (v := .int (0 : Int32)) (by decide)
  have f_14 := rd_same (j := 28) (v := .int (0 : Int32)) rw0.1
  have fr_15 := (FrS.rf WC hs).wr (k := 124) (j := 28) (.int (0 : Int32)) (by unfold WC; omega)
  clear hTo hW hD hLi hEm hCp hR0 hR1 h24 hB hA hA2
  generalize (wr hs 124 28 (.int (0 : Int32))) = hs_16 at *
  refine g_constI act (gx gp_234 (w := 0x40000000400000001000000000601) rfl (by decide) rfl) (n := 6) (x := (0 : Int32)) (by decide) rfl ?_
  refine g_storeI act (gx gp_234 (w := 0x1000710) rfl (by decide) rfl) (a := 1) (n := 7) rfl rfl (L2 := [some (.ref 124), some (.int (0 : Int32)), none, none]) rfl ?_
  exact rows_1 hoi hnn hn4 hnl hn6 hou hng hn5 hat hdm hlm hem hcp hF0 hF1 h0 h256 hhi hct hwl hf hl hc hsl (show (0 : Int32).toInt = ((0 : Nat) : Int) from by decide) act hEnd (by omega) (by omega) 0 (by omega) _ _ fA fB rfl rw_1 f_2 f_3 f_4 f_5 f_6 f_7 f_8 f_9 f_10 f_11 f_14 f_12 f_13 (fun j h => absurd h (by omega)) fr_15
