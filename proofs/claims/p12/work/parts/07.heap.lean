/-! The heap of the engine: reading, writing, new cells. -/
theorem hput_s {h : HP} {o v : Nat} {k : HP → Option RES} {res : RES} (hk : hput h o v k = some res) : v < WB ∧ ∃ h' : HP, k h' = some res ∧ (∀ x : Nat, hget h' x = if x = o then v else hget h x) ∧ h'.2.2 = h.2.2 := by
  obtain ⟨h1, h2⟩ := br_n hk
  have hv : v < WB := ble_f h1
  refine ⟨hv, ?_⟩
  obtain ⟨hp, hb, r⟩ := h
  have h2 : br (Nat.ble 65536 o) (fc (pset hb (Nat.sub o 65536) v) (fun hb => k (hp, hb, r))) (fc (pset hp o v) (fun hp => k (hp, hb, r))) = some res := h2
  rcases br_o h2 with ⟨h3, h4⟩ | ⟨h3, h4⟩
  · have h3 := ble_t h3
    refine ⟨_, h4, fun x => ?_, rfl⟩
    show br (Nat.ble 65536 x) (pget (pset hb (Nat.sub o 65536) v) (Nat.sub x 65536)) (pget hp x) = if x = o then v else br (Nat.ble 65536 x) (pget hb (Nat.sub x 65536)) (pget hp x)
    cases hx : Nat.ble 65536 x with
    | true =>
      have hx := ble_t hx
      rw [br_true, br_true, pget_pset hv]
      have e1 : Nat.sub x 65536 = x - 65536 := rfl
      have e2 : Nat.sub o 65536 = o - 65536 := rfl
      by_cases hxo : x = o
      · rw [if_pos (by rw [hxo]), if_pos hxo]
      · rw [if_neg (by omega), if_neg hxo]
    | false =>
      have hx := ble_f hx
      rw [br_false, br_false, if_neg (by omega)]
  · have h3 := ble_f h3
    refine ⟨_, h4, fun x => ?_, rfl⟩
    show br (Nat.ble 65536 x) (pget hb (Nat.sub x 65536)) (pget (pset hp o v) x) = if x = o then v else br (Nat.ble 65536 x) (pget hb (Nat.sub x 65536)) (pget hp x)
    cases hx : Nat.ble 65536 x with
    | true =>
      have hx := ble_t hx
      rw [br_true, br_true, if_neg (by omega)]
    | false =>
      rw [br_false, br_false, pget_pset hv]
theorem mln_lt (m : Nat) : mln m < 65536 := Nat.mod_lt _ (by decide)
theorem CR.keep {g : GG} {ft : Nat → Nat → Nat} {ws ws' : va_W} {h h' : HP} {m : Nat} {e : va_E} (hc : CR g ft ws h m e) (hl : wsle ws ws') (hh : ∀ j : Nat, j < mln m → hget h' (mof m + j) = hget h (mof m + j)) : CR g ft ws' h' m e := by
  rcases hc with ⟨h1, fs, h2, h3, h4⟩ | ⟨h1, cA, f, h2, h3, h4⟩ | ⟨h1, cA, f, h2, h3, h4⟩ | ⟨h1, cA, f, h2, h3, h4⟩ | ⟨h1, cA, f, h2, h3, h4⟩
  · refine Or.inl ⟨h1, fs, h2, h3, fun j hj => ?_⟩
    obtain ⟨v, a, b⟩ := h4 j hj
    exact ⟨v, a, by rw [hh j hj]; exact b.mono hl⟩
  · exact Or.inr (Or.inl ⟨h1, cA, f, h2, h3, fun j hj => by rw [hh j hj]; exact (h4 j hj).mono hl⟩)
  · exact Or.inr (Or.inr (Or.inl ⟨h1, cA, f, h2, h3, fun j hj => by rw [hh j hj]; exact (h4 j hj).mono hl⟩))
  · exact Or.inr (Or.inr (Or.inr (Or.inl ⟨h1, cA, f, h2, h3, fun j hj => by rw [hh j hj]; exact (h4 j hj).mono hl⟩)))
  · exact Or.inr (Or.inr (Or.inr (Or.inr ⟨h1, cA, f, h2, h3, fun j hj => by rw [hh j hj]; exact (h4 j hj).mono hl⟩)))
theorem HR.put {g : GG} {ft : Nat → Nat → Nat} {ws : va_W} {h h' : HP} {a j v ad : Nat} {e e' : va_E} (hH : HR g ft ws h) (ha : ws[a]? = some (ad, e)) (hj : j < mln (mrw h a)) (hh : ∀ x : Nat, hget h' x = if x = mof (mrw h a) + j then v else hget h x) (hr : h'.2.2 = h.2.2)
    (hC : CR g ft (ws.set a (ad, e')) h' (mrw h a) e') : HR g ft (ws.set a (ad, e')) h' := by
  obtain ⟨h1, h2, h3, l1, l2, l3, l4, l5, l6⟩ := hH
  have hal : a < ws.length := (List.getElem?_eq_some_iff.mp ha).1
  have em : ∀ b : Nat, mrw h' b = mrw h b := fun b => by unfold mrw; rw [hr]
  refine ⟨by rw [List.length_set, hr]; exact h1, by rw [hr]; exact h2, fun b q hb => ?_, by rw [hr]; exact l1, by rw [hr]; exact l2, by rw [hr]; exact l3, fun b hb => ?_, fun b d hb hd hbd => ?_, fun o ho => ?_⟩
  · rw [em b]
    by_cases hab : a = b
    · subst hab
      rw [List.getElem?_set_self hal] at hb
      cases hb
      exact hC
    · rw [List.getElem?_set_ne hab] at hb
      refine (h3 b q hb).keep (wsle.set ha) (fun i hi => ?_)
      rw [hh, if_neg]
      have hbl : b < h.2.2.2.1 := by rw [← h1]; exact (List.getElem?_eq_some_iff.mp hb).1
      have := l5 a b (by rw [← h1]; exact hal) hbl hab
      omega
  · rw [em b, hr]; rw [hr] at hb; exact l4 b hb
  · rw [em b, em d]; rw [hr] at hb hd; exact l5 b d hb hd hbd
  · rw [hr] at ho
    rw [hh, if_neg]
    · exact l6 o ho
    · have := l4 a (by rw [← h1]; exact hal)
      omega
-- rows of cells
theorem row_new {D r N : Nat} (hD : D < 2 ^ (64 * N)) (hr : r < 18446744073709551616) (a : Nat) (ha : a ≤ N) : ((D + (r <<< (64 * N))) >>> (64 * a)) % 18446744073709551616 = if a = N then r else (D >>> (64 * a)) % 18446744073709551616 := by
  rw [Nat.shiftLeft_eq, Nat.shiftRight_eq_div_pow, Nat.shiftRight_eq_div_pow]
  by_cases h : a = N
  · subst h
    rw [if_pos rfl, Nat.add_mul_div_right _ _ (Nat.two_pow_pos _), Nat.div_eq_of_lt hD, Nat.zero_add, Nat.mod_eq_of_lt hr]
  · rw [if_neg h]
    have e : 2 ^ (64 * N) = 2 ^ (64 * (N - a - 1)) * 18446744073709551616 * 2 ^ (64 * a) := by
      rw [show (18446744073709551616 : Nat) = 2 ^ 64 from rfl, ← Nat.pow_add, ← Nat.pow_add]
      congr 1
      omega
    rw [e, ← Nat.mul_assoc, Nat.add_mul_div_right _ _ (Nat.two_pow_pos _), ← Nat.mul_assoc, Nat.add_mul_mod_self_right]
theorem row_bound {D r N : Nat} (hD : D < 2 ^ (64 * N)) (hr : r < 18446744073709551616) : D + (r <<< (64 * N)) < 2 ^ (64 * (N + 1)) := by
  rw [Nat.shiftLeft_eq, show 2 ^ (64 * (N + 1)) = 18446744073709551616 * 2 ^ (64 * N) by rw [show (18446744073709551616 : Nat) = 2 ^ 64 from rfl, ← Nat.pow_add]; congr 1; omega]
  have : (r + 1) * 2 ^ (64 * N) ≤ 18446744073709551616 * 2 ^ (64 * N) := Nat.mul_le_mul_right _ hr
  rw [Nat.add_mul, Nat.one_mul] at this
  omega
/-- what a new cell of class c and length n does to the heap -/
def Alc (c n : Nat) (h h' : HP) : Prop := n < 65536 ∧ c < 64 ∧ h.2.2.2.1 < 1000000 ∧ h'.1 = h.1 ∧ h'.2.1 = h.2.1 ∧ h'.2.2.2.1 = h.2.2.2.1 + 1 ∧ h'.2.2.2.2.2.2.1 = h.2.2.2.2.2.2.1 + 1 ∧ h'.2.2.2.2.2.2.2 = h.2.2.2.2.2.2.2 + n ∧
  (∃ o : Nat, dt h'.2.2.1 = dt h.2.2.1 + ((c + 64 * n + 4194304 * o) <<< (64 * h.2.2.2.1)) ∧ o < 1100000 ∧
    ((o = h.2.2.2.2.1 ∧ n ≤ 100 ∧ o < 65000 ∧ h'.2.2.2.2.1 = o + n ∧ h'.2.2.2.2.2.1 = h.2.2.2.2.2.1) ∨ (o = h.2.2.2.2.2.1 ∧ h'.2.2.2.2.2.1 = o + n ∧ h'.2.2.2.2.1 = h.2.2.2.2.1)))
theorem alloc_s {c n : Nat} {h : HP} {k : Nat → HP → Option RES} {res : RES} (hk : alloc c n h k = some res) : ∃ h' : HP, k h.2.2.2.1 h' = some res ∧ Alc c n h h' := by
  obtain ⟨hp, hb, mt, nc, t1, t2, kc, ks⟩ := h
  have hk : al8 c n k hp hb mt nc t1 t2 kc ks = some res := hk
  obtain ⟨h1, h2⟩ := br_n hk
  obtain ⟨h1, h3⟩ := orr_f h1
  obtain ⟨h3, h4⟩ := orr_f h3
  have h1 := ble_f h1
  have h3 := ble_f h3
  have h4 := ble_f h4
  rcases br_o h2 with ⟨h5, h6⟩ | ⟨h5, h6⟩
  · have h5 := ble_t h5
    obtain ⟨h7, h8⟩ := br_n h6
    have h7 := ble_f h7
    exact ⟨_, h8, h1, h3, h4, rfl, rfl, rfl, rfl, rfl, t1, dt_mk _, by omega, Or.inl ⟨rfl, h5, h7, rfl, rfl⟩⟩
  · obtain ⟨h7, h8⟩ := br_n h6
    have h7 := ble_f h7
    exact ⟨_, h8, h1, h3, h4, rfl, rfl, rfl, rfl, rfl, t2, dt_mk _, by omega, Or.inr ⟨rfl, rfl, rfl⟩⟩
theorem Alc.get {c n : Nat} {h h' : HP} (a : Alc c n h h') (x : Nat) : hget h' x = hget h x := by
  obtain ⟨-, -, -, e1, e2, -⟩ := a
  unfold hget
  rw [e1, e2]
theorem row_parts {c n o : Nat} (hc : c < 64) (hn : n < 65536) : mcl (c + 64 * n + 4194304 * o) = c ∧ mln (c + 64 * n + 4194304 * o) = n ∧ mof (c + 64 * n + 4194304 * o) = o := by
  refine ⟨?_, ?_, ?_⟩
  · show (c + 64 * n + 4194304 * o) % 64 = c; omega
  · show (c + 64 * n + 4194304 * o) / 64 % 65536 = n; omega
  · show (c + 64 * n + 4194304 * o) / 4194304 = o; omega
theorem Alc.old {c n : Nat} {h h' : HP} (a : Alc c n h h') (hl : Lay h) {b : Nat} (hb : b < h.2.2.2.1) : mrw h' b = mrw h b := by
  obtain ⟨h1, h2, -, -, -, -, -, -, o, e, ho, -⟩ := a
  unfold mrw
  rw [e, row_new hl.2.2.1 (by omega) b (by omega), if_neg (by omega)]
theorem Alc.new {c n : Nat} {h h' : HP} (a : Alc c n h h') (hl : Lay h) : mcl (mrw h' h.2.2.2.1) = c ∧ mln (mrw h' h.2.2.2.1) = n ∧ (mof (mrw h' h.2.2.2.1) = h.2.2.2.2.1 ∧ n ≤ 100 ∧ h.2.2.2.2.1 < 65000 ∨ mof (mrw h' h.2.2.2.1) = h.2.2.2.2.2.1) := by
  obtain ⟨h1, h2, -, -, -, -, -, -, o, e, ho, hq⟩ := a
  have er : mrw h' h.2.2.2.1 = c + 64 * n + 4194304 * o := by
    unfold mrw
    rw [e, row_new hl.2.2.1 (by omega) _ (Nat.le_refl _), if_pos rfl]
  obtain ⟨p1, p2, p3⟩ := row_parts (o := o) h2 h1
  rw [er]
  refine ⟨p1, p2, ?_⟩
  rw [p3]
  rcases hq with q | q
  · exact Or.inl ⟨q.1, q.2.1, by omega⟩
  · exact Or.inr q.1
theorem Alc.zero {c n : Nat} {h h' : HP} (a : Alc c n h h') (hl : Lay h) {j : Nat} (hj : j < n) : hget h' (mof (mrw h' h.2.2.2.1) + j) = 0 := by
  rw [a.get]
  have h1 := hl.1
  have h2 := hl.2.1
  refine hl.2.2.2.2.2 _ ?_
  rcases (a.new hl).2.2 with q | q <;> omega
theorem HR.push {g : GG} {ft : Nat → Nat → Nat} {ws : va_W} {h h' : HP} {c n q : Nat} {e : va_E} (hH : HR g ft ws h) (a : Alc c n h h') (hC : CR g ft (ws ++ [(q, e)]) h' (mrw h' h.2.2.2.1) e) : HR g ft (ws ++ [(q, e)]) h' := by
  have hl := hH.2.2.2
  have ao := fun {b : Nat} (hb : b < h.2.2.2.1) => a.old hl hb
  have an := a.new hl
  have ag := a.get
  obtain ⟨a1, a2, a3, a4, a5, a6, a7, a8, o, e9, ho, hq⟩ := a
  obtain ⟨h1, h2, h3, l1, l2, l3, l4, l5, l6⟩ := hH
  have bd := row_bound (r := c + 64 * n + 4194304 * o) l3 (by omega)
  have er : mof (mrw h' h.2.2.2.1) = o := by
    have : mrw h' h.2.2.2.1 = c + 64 * n + 4194304 * o := by
      unfold mrw
      rw [e9, row_new l3 (by omega) _ (Nat.le_refl _), if_pos rfl]
    rw [this]
    exact (row_parts a2 a1).2.2
  refine ⟨by rw [List.length_append, a6, h1]; rfl, by omega, fun b r hb => ?_, ?_, ?_, ?_, fun b hb => ?_, fun b d hb hd hbd => ?_, fun x hx => ?_⟩
  · by_cases hbn : b < ws.length
    · rw [List.getElem?_append_left hbn] at hb
      rw [ao (by omega)]
      exact (h3 b r hb).keep (wsle.app _ _) (fun j _ => ag _)
    · rw [List.getElem?_append_right (by omega)] at hb
      have hz : b - ws.length < 1 := (List.getElem?_eq_some_iff.mp hb).1
      have hb0 : b - ws.length = 0 := by omega
      rw [hb0] at hb
      cases hb
      rw [show b = h.2.2.2.1 by omega]
      exact hC
  · rcases hq with q | q <;> omega
  · rcases hq with q | q <;> omega
  · rw [e9, a6]; exact bd
  · by_cases hbn : b < h.2.2.2.1
    · rw [ao hbn]
      have := l4 b hbn
      rcases hq with q | q <;> omega
    · rw [show b = h.2.2.2.1 by omega]
      rcases hq with q | q <;> omega
  · by_cases hbn : b < h.2.2.2.1
    · by_cases hdn : d < h.2.2.2.1
      · rw [ao hbn, ao hdn]; exact l5 b d hbn hdn hbd
      · rw [ao hbn, show d = h.2.2.2.1 by omega]
        have := l4 b hbn
        rcases an.2.2 with q | q <;> omega
    · by_cases hdn : d < h.2.2.2.1
      · rw [ao hdn, show b = h.2.2.2.1 by omega]
        have := l4 d hdn
        rcases an.2.2 with q | q <;> omega
      · omega
  · rw [ag]
    refine l6 x ?_
    rcases hq with q | q <;> omega
/-- an index that is one number -/
theorem isb_def (x : Nat) : isb x = x - 2147483648 := rfl
theorem idx {i : Int32} {e n : Nat} (h1 : iEx i = e) (h2 : 2147483648 ≤ e) (h3 : isb e < n) (h4 : n < 65536) : vp_in i n ∧ i.toNatClampNeg = isb e := by
  rw [isb_def] at h3 ⊢
  have h5 := iEx_int i
  have h6 : i.toInt = ((e - 2147483648 : Nat) : Int) := by omega
  have h7 : i.toNatClampNeg = e - 2147483648 := by
    show i.toInt.toNat = _
    rw [h6, Int.toNat_natCast]
  exact ⟨vp_in_iff.mpr ⟨by omega, by omega⟩, h7⟩
