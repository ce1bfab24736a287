/-! Nets: what the list says. -/
theorem all_r {n i : Nat} {p : Nat → Bool} (h : (List.range n).all p = true) (hi : i < n) : p i = true := List.all_eq_true.mp h i (List.mem_range.mpr hi)
theorem n3_ab {a b : Nat} (h : a + b ≤ 6) : all3 a b = true := by
  match a, b, h with
  | 0, 0, _ => exact n3_00
  | 0, 1, _ => exact n3_01
  | 0, 2, _ => exact n3_02
  | 0, 3, _ => exact n3_03
  | 0, 4, _ => exact n3_04
  | 0, 5, _ => exact n3_05
  | 0, 6, _ => exact n3_06
  | 1, 0, _ => exact n3_10
  | 1, 1, _ => exact n3_11
  | 1, 2, _ => exact n3_12
  | 1, 3, _ => exact n3_13
  | 1, 4, _ => exact n3_14
  | 1, 5, _ => exact n3_15
  | 2, 0, _ => exact n3_20
  | 2, 1, _ => exact n3_21
  | 2, 2, _ => exact n3_22
  | 2, 3, _ => exact n3_23
  | 2, 4, _ => exact n3_24
  | 3, 0, _ => exact n3_30
  | 3, 1, _ => exact n3_31
  | 3, 2, _ => exact n3_32
  | 3, 3, _ => exact n3_33
  | 4, 0, _ => exact n3_40
  | 4, 1, _ => exact n3_41
  | 4, 2, _ => exact n3_42
  | 5, 0, _ => exact n3_50
  | 5, 1, _ => exact n3_51
  | 6, 0, _ => exact n3_60
  | 0, b + 7, h => exact absurd h (by omega)
  | 1, b + 6, h => exact absurd h (by omega)
  | 2, b + 5, h => exact absurd h (by omega)
  | 3, b + 4, h => exact absurd h (by omega)
  | 4, b + 3, h => exact absurd h (by omega)
  | 5, b + 2, h => exact absurd h (by omega)
  | 6, b + 1, h => exact absurd h (by omega)
  | a + 7, b, h => exact absurd h (by omega)
theorem okNet_all {n a b c d e f : Nat} (hn : 1 ≤ n) (hn3 : n ≤ 3) (h : a + b + c + d + e + f ≤ 6) (h3 : n < 3 → c = 0 ∧ e = 0 ∧ f = 0) (h2 : n < 2 → b = 0 ∧ d = 0) : okNet n a b c d e f = true := by
  have : n = 1 ∨ n = 2 ∨ n = 3 := by omega
  rcases this with rfl | rfl | rfl
  · obtain ⟨rfl, rfl, rfl⟩ := h3 (by omega)
    obtain ⟨rfl, rfl⟩ := h2 (by omega)
    exact all_r (n := 7) (p := fun a => okNet 1 a 0 0 0 0 0) n1_a (by omega)
  · obtain ⟨rfl, rfl, rfl⟩ := h3 (by omega)
    exact all_r (all_r (all_r n2_a (i := a) (by omega)) (i := b) (by omega)) (i := d) (by omega)
  · exact all_r (all_r (all_r (all_r (n3_ab (a := a) (b := b) (by omega)) (i := c) (by omega)) (i := d) (by omega)) (i := e) (by omega)) (i := f) (by omega)
theorem lc4_t {S : List Nat} (hS : S ∈ S5) {a b c d : Nat} (ha : a ∈ S) (hb : b ∈ S) (hc : c ∈ S) (hd : d ∈ S) : ∃ L : Nat, L ≤ 15000000 ∧ ¬ 128 ∣ L ∧ a ∣ L ∧ b ∣ L ∧ c ∣ L ∧ d ∣ L := by
  have h := List.all_eq_true.mp lc4_a S hS
  have h := List.all_eq_true.mp (List.all_eq_true.mp h a ha) b hb
  rw [fN_t] at h
  have h := List.all_eq_true.mp h c hc
  rw [fN_t] at h
  have h := List.all_eq_true.mp h d hd
  rw [fN_t, Bool.and_eq_true, Bool.not_eq_true'] at h
  have e1 := Nat.dvd_lcm_left a b
  have e2 := Nat.dvd_lcm_right a b
  generalize Nat.lcm a b = x at *
  have e3 := Nat.dvd_lcm_left x c
  have e4 := Nat.dvd_lcm_right x c
  generalize Nat.lcm x c = y at *
  have e5 := Nat.dvd_lcm_left y d
  have e6 := Nat.dvd_lcm_right y d
  generalize Nat.lcm y d = z at *
  refine ⟨z, Nat.le_of_ble_eq_true h.1, fun q => ?_, Nat.dvd_trans e1 (Nat.dvd_trans e3 e5), Nat.dvd_trans e2 (Nat.dvd_trans e3 e5), Nat.dvd_trans e4 e5, e6⟩
  exact Nat.ne_of_beq_eq_false h.2 (Nat.mod_eq_zero_of_dvd q)
