/-! Arguments: from the caller's stack into the callee's locals. -/
theorem pget_mk (x j : Nat) : pget (mk x) j = x / 2 ^ (72 * j) % WB := by rw [pget_dt, dt_mk, Nat.shiftRight_eq_div_pow]
theorem WB_pow : WB = 2 ^ 72 := rfl
theorem arg_new {A v i i' j : Nat} (hv : v < WB) (hi : i' < i) (h2 : i ≤ i' + 2) : pget (mk (A * 2 ^ (72 * i) + v <<< (72 * i'))) j = if j = i' then v else pget (mk (A * 2 ^ (72 * i))) j := by
  rw [Nat.shiftLeft_eq, pget_mk, pget_mk]
  obtain ⟨k, hk⟩ : ∃ k, i = i' + 1 + k := ⟨i - i' - 1, by omega⟩
  have e1 : 2 ^ (72 * i) = 2 ^ (72 * k) * WB * 2 ^ (72 * i') := by
    rw [WB_pow, ← Nat.pow_add, ← Nat.pow_add]; congr 1; omega
  by_cases hj : j = i'
  · subst hj
    rw [if_pos rfl, e1, ← Nat.mul_assoc, ← Nat.add_mul, Nat.mul_div_cancel _ (Nat.two_pow_pos _), ← Nat.mul_assoc, Nat.add_comm, Nat.add_mul_mod_self_right, Nat.mod_eq_of_lt hv]
  · rw [if_neg hj]
    by_cases hl : j < i'
    · have e2 : 2 ^ (72 * i') = 2 ^ (72 * (i' - j - 1)) * WB * 2 ^ (72 * j) := by
        rw [WB_pow, ← Nat.pow_add, ← Nat.pow_add]; congr 1; omega
      have e3 : 2 ^ (72 * i) = 2 ^ (72 * (i - j - 1)) * WB * 2 ^ (72 * j) := by
        rw [WB_pow, ← Nat.pow_add, ← Nat.pow_add]; congr 1; omega
      rw [e2, e3, ← Nat.mul_assoc, ← Nat.mul_assoc v, ← Nat.add_mul, Nat.mul_div_cancel _ (Nat.two_pow_pos _), Nat.mul_div_cancel _ (Nat.two_pow_pos _), ← Nat.mul_assoc, ← Nat.mul_assoc v, ← Nat.add_mul, Nat.mul_mod_left, Nat.mul_mod_left]
    · have hji : i' + 1 ≤ j := by omega
      have e4 : 2 ^ (72 * j) = 2 ^ (72 * (i' + 1)) * 2 ^ (72 * (j - i' - 1)) := by rw [← Nat.pow_add]; congr 1; omega
      have e5 : 2 ^ (72 * i) = 2 ^ (72 * k) * 2 ^ (72 * (i' + 1)) := by rw [← Nat.pow_add]; congr 1; omega
      have hlt : v * 2 ^ (72 * i') < 2 ^ (72 * (i' + 1)) := by
        rw [show 2 ^ (72 * (i' + 1)) = WB * 2 ^ (72 * i') by rw [WB_pow, ← Nat.pow_add]; congr 1; omega]
        exact Nat.mul_lt_mul_of_pos_right hv (Nat.two_pow_pos _)
      rw [e4, ← Nat.div_div_eq_div_mul, ← Nat.div_div_eq_div_mul, e5, ← Nat.mul_assoc, Nat.add_comm, Nat.add_mul_div_right _ _ (Nat.two_pow_pos _), Nat.div_eq_of_lt hlt, Nat.zero_add, Nat.mul_div_cancel _ (Nat.two_pow_pos _)]
theorem arg_div {A v i i' : Nat} (hi : i' < i) : ∃ B : Nat, A * 2 ^ (72 * i) + v <<< (72 * i') = B * 2 ^ (72 * i') := by
  refine ⟨A * 2 ^ (72 * (i - i')) + v, ?_⟩
  rw [Nat.shiftLeft_eq, Nat.add_mul, Nat.mul_assoc, ← Nat.pow_add]
  congr 3
  omega
theorem lv_args_ge : ∀ (l : List Value) {i j : Nat} {v : Value}, (j, v) ∈ lv_args i l → i ≤ j
  | [], _, _, _, h => by cases h
  | x :: l, i, j, v, h => by
    have h : (j, v) = (i, x) ∨ (j, v) ∈ lv_args (if x.category = 2 then i + 2 else i + 1) l := List.mem_cons.mp h
    rcases h with h | h
    · cases h; exact Nat.le_refl _
    · have := lv_args_ge l h
      split at this <;> omega
def ArR (g : GG) (ws : va_W) (L i : Nat) (us : List Value) : Prop := ∀ x : Nat, pget L x ≠ 0 → ∃ v : Value, (x, v) ∈ lv_args i us ∧ VR g ws (pget L x) v
theorem lg_len_cons (v : Value) (vs : List Value) : (lg_sl (v :: vs)).length = (if v.category = 2 then 2 else 1) + (lg_sl vs).length := by
  unfold lg_sl
  rw [List.flatMap_cons, List.length_append]
  split <;> rfl
theorem lg_len_app (a b : List Value) : (lg_sl (a ++ b)).length = (lg_sl a).length + (lg_sl b).length := by
  unfold lg_sl
  rw [List.flatMap_append, List.length_append]
theorem takeA_s {g : GG} {res : RES} {k : Nat → Nat → Option RES} : ∀ (n i S A : Nat), takeA n i S (A * 2 ^ (72 * i)) k = some res →
    ∃ L2 r : Nat, k L2 r = some res ∧ ∀ (ws : va_W) (st us : List Value), SR g ws S st → ArR g ws (mk (A * 2 ^ (72 * i))) i us →
      ∃ vs rest : List Value, st = vs.reverse ++ rest ∧ vs.length = n ∧ SR g ws r rest ∧ ArR g ws L2 0 (vs ++ us) ∧ (lg_sl vs).length = i
  | 0, i, S, A, h => by
    have h : br (Nat.beq i 0) (fc (mk (A * 2 ^ (72 * i))) (fun acc => k acc S)) none = some res := h
    obtain ⟨h1, h2⟩ := br_s h
    have h1 := beq_t h1
    subst h1
    rw [fc_eq] at h2
    exact ⟨_, S, h2, fun ws st us hS hA => ⟨[], st, rfl, rfl, hS, hA, rfl⟩⟩
  | n + 1, i, S, A, h => by
    have h : br (Nat.beq (tp S) 0) none (br (cat2 (tp S)) (br (Nat.ble 2 i) (fc (r1 S) (fun r => fc (Nat.sub i 2) (fun i' => fc (Nat.add (A * 2 ^ (72 * i)) (Nat.shiftLeft (tp S) (Nat.mul 72 i'))) (fun acc => takeA n i' r acc k)))) none) (br (Nat.ble 1 i) (fc (r1 S) (fun r => fc (Nat.sub i 1) (fun i' => fc (Nat.add (A * 2 ^ (72 * i)) (Nat.shiftLeft (tp S) (Nat.mul 72 i'))) (fun acc => takeA n i' r acc k)))) none)) = some res := h
    obtain ⟨h0, h⟩ := br_n h
    have h0 := beq_f h0
    have htp : tp S < WB := Nat.mod_lt _ (by decide)
    rcases br_o h with ⟨hc, h⟩ | ⟨hc, h⟩
    · obtain ⟨h1, h2⟩ := br_s h
      have h1 := ble_t h1
      rw [fc_eq, fc_eq, fc_eq] at h2
      have h2 : takeA n (i - 2) (r1 S) (A * 2 ^ (72 * i) + tp S <<< (72 * (i - 2))) k = some res := h2
      obtain ⟨B, hB⟩ := arg_div (A := A) (v := tp S) (i := i) (i' := i - 2) (by omega)
      rw [hB] at h2
      obtain ⟨L2, r, hk, hh⟩ := takeA_s n (i - 2) (r1 S) B h2
      refine ⟨L2, r, hk, fun ws st us hS hA => ?_⟩
      obtain ⟨v, st', rfl, hv, hS'⟩ := hS.pop h0
      have hcat := hv.c2 hc
      obtain ⟨vs, rest, e1, e2, e3, e4, e5⟩ := hh ws st' (v :: us) hS' (fun x hx => by
        rw [← hB, arg_new htp (by omega) (by omega)] at hx ⊢
        show ∃ u : Value, (x, u) ∈ (i - 2, v) :: lv_args (if v.category = 2 then i - 2 + 2 else i - 2 + 1) us ∧ _
        rw [if_pos hcat, show i - 2 + 2 = i by omega]
        by_cases hxi : x = i - 2
        · rw [if_pos hxi]; exact ⟨v, by rw [hxi]; exact List.mem_cons_self, hv⟩
        · rw [if_neg hxi] at hx ⊢
          obtain ⟨u, q1, q2⟩ := hA x hx
          exact ⟨u, List.mem_cons_of_mem _ q1, q2⟩)
      refine ⟨vs ++ [v], rest, by rw [e1, List.reverse_append]; rfl, by rw [List.length_append, e2]; rfl, e3, by rw [List.append_assoc]; exact e4, ?_⟩
      rw [lg_len_app, lg_len_cons, if_pos hcat, e5]
      show i - 2 + (2 + 0) = i
      omega
    · obtain ⟨h1, h2⟩ := br_s h
      have h1 := ble_t h1
      rw [fc_eq, fc_eq, fc_eq] at h2
      have h2 : takeA n (i - 1) (r1 S) (A * 2 ^ (72 * i) + tp S <<< (72 * (i - 1))) k = some res := h2
      obtain ⟨B, hB⟩ := arg_div (A := A) (v := tp S) (i := i) (i' := i - 1) (by omega)
      rw [hB] at h2
      obtain ⟨L2, r, hk, hh⟩ := takeA_s n (i - 1) (r1 S) B h2
      refine ⟨L2, r, hk, fun ws st us hS hA => ?_⟩
      obtain ⟨v, st', rfl, hv, hS'⟩ := hS.pop h0
      have hcat := hv.cat1 hc
      have hcat2 : ¬ v.category = 2 := by omega
      obtain ⟨vs, rest, e1, e2, e3, e4, e5⟩ := hh ws st' (v :: us) hS' (fun x hx => by
        rw [← hB, arg_new htp (by omega) (by omega)] at hx ⊢
        show ∃ u : Value, (x, u) ∈ (i - 1, v) :: lv_args (if v.category = 2 then i - 1 + 2 else i - 1 + 1) us ∧ _
        rw [if_neg hcat2, show i - 1 + 1 = i by omega]
        by_cases hxi : x = i - 1
        · rw [if_pos hxi]; exact ⟨v, by rw [hxi]; exact List.mem_cons_self, hv⟩
        · rw [if_neg hxi] at hx ⊢
          obtain ⟨u, q1, q2⟩ := hA x hx
          exact ⟨u, List.mem_cons_of_mem _ q1, q2⟩)
      refine ⟨vs ++ [v], rest, by rw [e1, List.reverse_append]; rfl, by rw [List.length_append, e2]; rfl, e3, by rw [List.append_assoc]; exact e4, ?_⟩
      rw [lg_len_app, lg_len_cons, if_neg hcat2, e5]
      show i - 1 + (1 + 0) = i
      omega
/-- the receiver -/
theorem ArR.first {g : GG} {ws : va_W} {L : Nat} {vs : List Value} (h : ArR g ws L 0 vs) (hn : pget L 0 ≠ 0) : ∃ (v : Value) (vs' : List Value), vs = v :: vs' ∧ VR g ws (pget L 0) v := by
  obtain ⟨v, hm, hv⟩ := h 0 hn
  cases vs with
  | nil => cases hm
  | cons x l =>
    have hm : (0, v) = (0, x) ∨ (0, v) ∈ lv_args (if x.category = 2 then 0 + 2 else 0 + 1) l := List.mem_cons.mp hm
    rcases hm with hm | hm
    · cases hm; exact ⟨v, l, rfl, hv⟩
    · have := lv_args_ge l hm
      split at this <;> omega
