/-! The class's factors are computed: the number of trees, exactly. -/
def LAQ (hs : List CE) (b : Nat) (M : Nat → Nat → Int) (k : Nat) : Prop := ∀ i j, i < 3 → j < 3 → 3 * i + j < k → ∃ x : Int64, rd hs (b + (9 + i)) j = .long x ∧ x.toInt = M i j
theorem LAQ.put {hs : List CE} {b i j k : Nat} {M : Nat → Nat → Int} {x : Int64} (h : LAQ hs b M k) (hF : FLS hs b) (hi : i < 3) (hj : j < 3) (hk : k = 3 * i + j) (e : x.toInt = M i j) : LAQ (wr hs (b + (9 + i)) j (.long x)) b M (k + 1) := fun i' j' hi' hj' hk' => by
  by_cases q : i' = i ∧ j' = j
  · rw [q.1, q.2]
    exact ⟨x, rd_same (hF.2.2.2.2.2.1 i hi).2, e⟩
  · obtain ⟨y, e1, e2⟩ := h i' j' hi' hj' (by omega)
    exact ⟨y, (rd_ne _ _ (by omega)).trans e1, e2⟩
theorem LAQ.all {hs : List CE} {b : Nat} {M : Nat → Nat → Int} (h : LAQ hs b M 9) : LAP hs b M := fun i j hi hj => h i j hi hj (by omega)
/-- the matrix before there is a line -/
def m0M (nd : Int) (i j : Nat) : Int := if i = j ∧ nd - 1 ≤ (i : Int) then 1 else 0
theorem GIM.nF {hs : List CE} {g k j : Nat} {F : Nat → Nat → Int32} {v : Value} (h : GIM hs g F) (hk : ¬ (g ≤ k ∧ k ≤ g + 16)) : GIM (wr hs k j v) g F :=
  ⟨h.1.wr (Or.inl (by omega)) (by omega), fun a' j' hp2 => (rd_ne _ _ (Or.inl (by unfold gpl at hp2; omega))).trans (h.2 a' j' hp2)⟩
theorem GIM.frF {W : Nat → Nat → Prop} {hs h2 : List CE} {g : Nat} {F : Nat → Nat → Int32} (h : GIM hs g F) (f : FrS W hs h2) (hw : ∀ k j, W k j → ¬ (g ≤ k ∧ k ≤ g + 16)) : GIM h2 g F :=
  ⟨h.1.fr f (fun j _ z => hw _ _ z (by omega)) (fun j z => hw _ _ z (by omega)), fun a j hp => (f.2.2 _ _ (fun z => hw _ _ z (by unfold gpl at hp; omega))).trans (h.2 a j hp)⟩
def tsum (M : Nat → Nat → Int) : Nat → Int
  | 0 => 0
  | i + 1 => tsum M i + M 0 i * cof3 M 0 i
theorem cof3_bd {M : Nat → Nat → Int} (hB : BdM M 25) (i j : Nat) : (cof3 M i j).natAbs ≤ 1250 := by
  unfold cof3
  have p : ∀ x y : Int, (-25 ≤ x ∧ x ≤ 25) → (-25 ≤ y ∧ y ≤ 25) → (x * y).natAbs ≤ 25 * 25 := fun x y hx hy => by
    rw [Int.natAbs_mul]
    exact Nat.mul_le_mul (by omega) (by omega)
  have a := p _ _ (hB ((i + 1) % 3) ((j + 1) % 3)) (hB ((i + 2) % 3) ((j + 2) % 3))
  have b := p _ _ (hB ((i + 1) % 3) ((j + 2) % 3)) (hB ((i + 2) % 3) ((j + 1) % 3))
  omega
theorem tsum_bd {M : Nat → Nat → Int} (hB : BdM M 25) : ∀ i : Nat, (tsum M i).natAbs ≤ 31250 * i
  | 0 => Nat.le_refl 0
  | i + 1 => by
    have ih := tsum_bd hB i
    have h : (M 0 i * cof3 M 0 i).natAbs ≤ 25 * 1250 := by
      rw [Int.natAbs_mul]
      exact Nat.mul_le_mul (by have := hB 0 i; omega) (cof3_bd hB 0 i)
    show (tsum M i + M 0 i * cof3 M 0 i).natAbs ≤ 31250 * (i + 1)
    omega
/-- the matrix after t lines -/
def mT (fv : Nat → Int) (nd z : Int) : Nat → Nat → Nat → Int
  | 0 => m0M nd
  | t + 1 => fun i j => if (t : Int) = z then mT fv nd z t i j else mT fv nd z t i j + addE (fv (5 + t) - 1) (fv (11 + t) - 1) i j
theorem addE_bd (a c : Int) (i j : Nat) : -1 ≤ addE a c i j ∧ addE a c i j ≤ 2 := by
  unfold addE
  (repeat' split) <;> omega
theorem mT_bd {fv : Nat → Int} {nd z : Int} : ∀ t : Nat, BdM (mT fv nd z t) (1 + 2 * (t : Int))
  | 0 => fun i j => by
    show -(1 + 2 * ((0 : Nat) : Int)) ≤ m0M nd i j ∧ m0M nd i j ≤ 1 + 2 * ((0 : Nat) : Int)
    unfold m0M
    split <;> omega
  | t + 1 => fun i j => by
    have ih := mT_bd (fv := fv) (nd := nd) (z := z) t i j
    have e := addE_bd (fv (5 + t) - 1) (fv (11 + t) - 1) i j
    show -(1 + 2 * ((t + 1 : Nat) : Int)) ≤ (if (t : Int) = z then mT fv nd z t i j else mT fv nd z t i j + addE (fv (5 + t) - 1) (fv (11 + t) - 1) i j) ∧ (if (t : Int) = z then mT fv nd z t i j else mT fv nd z t i j + addE (fv (5 + t) - 1) (fv (11 + t) - 1) i j) ≤ 1 + 2 * ((t + 1 : Nat) : Int)
    split <;> omega
theorem BdM.mono {M : Nat → Nat → Int} {B B2 : Int} (h : BdM M B) (hB : B ≤ B2) : BdM M B2 := fun i j => by
  have := h i j
  omega
theorem det3_cong {M M2 : Nat → Nat → Int} (h : ∀ i j, i < 3 → j < 3 → M i j = M2 i j) : det3 M = det3 M2 := by
  have c : ∀ j, j < 3 → cof3 M 0 j = cof3 M2 0 j := fun j hj => by
    unfold cof3
    rw [h _ _ (by omega) (by omega), h ((0 + 2) % 3) ((j + 2) % 3) (by omega) (by omega), h ((0 + 1) % 3) ((j + 2) % 3) (by omega) (by omega), h ((0 + 2) % 3) ((j + 1) % 3) (by omega) (by omega)]
  unfold det3
  rw [c 0 (by decide), c 1 (by decide), c 2 (by decide), h 0 0 (by decide) (by decide), h 0 1 (by decide) (by decide), h 0 2 (by decide) (by decide)]
theorem dK {c : Prop} [Decidable c] {k d : Nat} (h : d = (if c then 1 else 0)) : (d = 1 ∧ c) ∨ (d = 0 ∧ ¬ c) := by
  rw [h]
  split
  · rename_i q; exact Or.inl ⟨rfl, q⟩
  · rename_i q; exact Or.inr ⟨rfl, q⟩
theorem kcn_z {fv : Nat → Int} {z x y : Int} {t : Nat} (hz : (t : Int) = z) : kcn fv z x y (t + 1) = kcn fv z x y t := by
  show kcn fv z x y t + (if _ then 1 else 0) = _
  rw [if_neg (fun q => q.1 hz)]
  rfl
theorem kcn_s {fv : Nat → Int} {z x y : Int} {t : Nat} (hz : ¬ (t : Int) = z) : kcn fv z x y (t + 1) = kcn fv z x y t + (if (fv (5 + t) = x ∧ fv (11 + t) = y) ∨ (fv (5 + t) = y ∧ fv (11 + t) = x) then 1 else 0) := by
  show kcn fv z x y t + (if _ then 1 else 0) = _
  by_cases h : (fv (5 + t) = x ∧ fv (11 + t) = y) ∨ (fv (5 + t) = y ∧ fv (11 + t) = x)
  · rw [if_pos ⟨hz, h⟩, if_pos h]
  · rw [if_neg (fun q => h q.2), if_neg h]
theorem mTK_01 (n k1 k2 k3 k4 k5 k6 : Nat) : ∀ i j : Nat, i < 3 → j < 3 → mK n k1 k2 k3 k4 k5 k6 i j + addE (0 - 1) (1 - 1) i j = mK n (k1 + 1) (k2 + 0) (k3 + 0) (k4 + 0) (k5 + 0) (k6 + 0) i j := by
  intro i j hi hj
  rcases (show i = 0 ∨ i = 1 ∨ i = 2 by omega) with rfl | rfl | rfl <;> rcases (show j = 0 ∨ j = 1 ∨ j = 2 by omega) with rfl | rfl | rfl
  · rw [show addE (0 - 1) (1 - 1) 0 0 = 1 from by decide]
    show ((k1 + k4 + k5 : Nat) : Int) + (if n ≤ 0 then 1 else 0) + (1) = (((k1 + 1) + (k4 + 0) + (k5 + 0) : Nat) : Int) + (if n ≤ 0 then 1 else 0)
    omega
  · rw [show addE (0 - 1) (1 - 1) 0 1 = 0 from by decide]
    show -((k4 : Nat) : Int) + (0) = -(((k4 + 0) : Nat) : Int)
    omega
  · rw [show addE (0 - 1) (1 - 1) 0 2 = 0 from by decide]
    show -((k5 : Nat) : Int) + (0) = -(((k5 + 0) : Nat) : Int)
    omega
  · rw [show addE (0 - 1) (1 - 1) 1 0 = 0 from by decide]
    show -((k4 : Nat) : Int) + (0) = -(((k4 + 0) : Nat) : Int)
    omega
  · rw [show addE (0 - 1) (1 - 1) 1 1 = 0 from by decide]
    show ((k2 + k4 + k6 : Nat) : Int) + (if n ≤ 1 then 1 else 0) + (0) = (((k2 + 0) + (k4 + 0) + (k6 + 0) : Nat) : Int) + (if n ≤ 1 then 1 else 0)
    omega
  · rw [show addE (0 - 1) (1 - 1) 1 2 = 0 from by decide]
    show -((k6 : Nat) : Int) + (0) = -(((k6 + 0) : Nat) : Int)
    omega
  · rw [show addE (0 - 1) (1 - 1) 2 0 = 0 from by decide]
    show -((k5 : Nat) : Int) + (0) = -(((k5 + 0) : Nat) : Int)
    omega
  · rw [show addE (0 - 1) (1 - 1) 2 1 = 0 from by decide]
    show -((k6 : Nat) : Int) + (0) = -(((k6 + 0) : Nat) : Int)
    omega
  · rw [show addE (0 - 1) (1 - 1) 2 2 = 0 from by decide]
    show ((k3 + k5 + k6 : Nat) : Int) + (if n ≤ 2 then 1 else 0) + (0) = (((k3 + 0) + (k5 + 0) + (k6 + 0) : Nat) : Int) + (if n ≤ 2 then 1 else 0)
    omega
theorem mTK_02 (n k1 k2 k3 k4 k5 k6 : Nat) : ∀ i j : Nat, i < 3 → j < 3 → mK n k1 k2 k3 k4 k5 k6 i j + addE (0 - 1) (2 - 1) i j = mK n (k1 + 0) (k2 + 1) (k3 + 0) (k4 + 0) (k5 + 0) (k6 + 0) i j := by
  intro i j hi hj
  rcases (show i = 0 ∨ i = 1 ∨ i = 2 by omega) with rfl | rfl | rfl <;> rcases (show j = 0 ∨ j = 1 ∨ j = 2 by omega) with rfl | rfl | rfl
  · rw [show addE (0 - 1) (2 - 1) 0 0 = 0 from by decide]
    show ((k1 + k4 + k5 : Nat) : Int) + (if n ≤ 0 then 1 else 0) + (0) = (((k1 + 0) + (k4 + 0) + (k5 + 0) : Nat) : Int) + (if n ≤ 0 then 1 else 0)
    omega
  · rw [show addE (0 - 1) (2 - 1) 0 1 = 0 from by decide]
    show -((k4 : Nat) : Int) + (0) = -(((k4 + 0) : Nat) : Int)
    omega
  · rw [show addE (0 - 1) (2 - 1) 0 2 = 0 from by decide]
    show -((k5 : Nat) : Int) + (0) = -(((k5 + 0) : Nat) : Int)
    omega
  · rw [show addE (0 - 1) (2 - 1) 1 0 = 0 from by decide]
    show -((k4 : Nat) : Int) + (0) = -(((k4 + 0) : Nat) : Int)
    omega
  · rw [show addE (0 - 1) (2 - 1) 1 1 = 1 from by decide]
    show ((k2 + k4 + k6 : Nat) : Int) + (if n ≤ 1 then 1 else 0) + (1) = (((k2 + 1) + (k4 + 0) + (k6 + 0) : Nat) : Int) + (if n ≤ 1 then 1 else 0)
    omega
  · rw [show addE (0 - 1) (2 - 1) 1 2 = 0 from by decide]
    show -((k6 : Nat) : Int) + (0) = -(((k6 + 0) : Nat) : Int)
    omega
  · rw [show addE (0 - 1) (2 - 1) 2 0 = 0 from by decide]
    show -((k5 : Nat) : Int) + (0) = -(((k5 + 0) : Nat) : Int)
    omega
  · rw [show addE (0 - 1) (2 - 1) 2 1 = 0 from by decide]
    show -((k6 : Nat) : Int) + (0) = -(((k6 + 0) : Nat) : Int)
    omega
  · rw [show addE (0 - 1) (2 - 1) 2 2 = 0 from by decide]
    show ((k3 + k5 + k6 : Nat) : Int) + (if n ≤ 2 then 1 else 0) + (0) = (((k3 + 0) + (k5 + 0) + (k6 + 0) : Nat) : Int) + (if n ≤ 2 then 1 else 0)
    omega
theorem mTK_03 (n k1 k2 k3 k4 k5 k6 : Nat) : ∀ i j : Nat, i < 3 → j < 3 → mK n k1 k2 k3 k4 k5 k6 i j + addE (0 - 1) (3 - 1) i j = mK n (k1 + 0) (k2 + 0) (k3 + 1) (k4 + 0) (k5 + 0) (k6 + 0) i j := by
  intro i j hi hj
  rcases (show i = 0 ∨ i = 1 ∨ i = 2 by omega) with rfl | rfl | rfl <;> rcases (show j = 0 ∨ j = 1 ∨ j = 2 by omega) with rfl | rfl | rfl
  · rw [show addE (0 - 1) (3 - 1) 0 0 = 0 from by decide]
    show ((k1 + k4 + k5 : Nat) : Int) + (if n ≤ 0 then 1 else 0) + (0) = (((k1 + 0) + (k4 + 0) + (k5 + 0) : Nat) : Int) + (if n ≤ 0 then 1 else 0)
    omega
  · rw [show addE (0 - 1) (3 - 1) 0 1 = 0 from by decide]
    show -((k4 : Nat) : Int) + (0) = -(((k4 + 0) : Nat) : Int)
    omega
  · rw [show addE (0 - 1) (3 - 1) 0 2 = 0 from by decide]
    show -((k5 : Nat) : Int) + (0) = -(((k5 + 0) : Nat) : Int)
    omega
  · rw [show addE (0 - 1) (3 - 1) 1 0 = 0 from by decide]
    show -((k4 : Nat) : Int) + (0) = -(((k4 + 0) : Nat) : Int)
    omega
  · rw [show addE (0 - 1) (3 - 1) 1 1 = 0 from by decide]
    show ((k2 + k4 + k6 : Nat) : Int) + (if n ≤ 1 then 1 else 0) + (0) = (((k2 + 0) + (k4 + 0) + (k6 + 0) : Nat) : Int) + (if n ≤ 1 then 1 else 0)
    omega
  · rw [show addE (0 - 1) (3 - 1) 1 2 = 0 from by decide]
    show -((k6 : Nat) : Int) + (0) = -(((k6 + 0) : Nat) : Int)
    omega
  · rw [show addE (0 - 1) (3 - 1) 2 0 = 0 from by decide]
    show -((k5 : Nat) : Int) + (0) = -(((k5 + 0) : Nat) : Int)
    omega
  · rw [show addE (0 - 1) (3 - 1) 2 1 = 0 from by decide]
    show -((k6 : Nat) : Int) + (0) = -(((k6 + 0) : Nat) : Int)
    omega
  · rw [show addE (0 - 1) (3 - 1) 2 2 = 1 from by decide]
    show ((k3 + k5 + k6 : Nat) : Int) + (if n ≤ 2 then 1 else 0) + (1) = (((k3 + 1) + (k5 + 0) + (k6 + 0) : Nat) : Int) + (if n ≤ 2 then 1 else 0)
    omega
theorem mTK_10 (n k1 k2 k3 k4 k5 k6 : Nat) : ∀ i j : Nat, i < 3 → j < 3 → mK n k1 k2 k3 k4 k5 k6 i j + addE (1 - 1) (0 - 1) i j = mK n (k1 + 1) (k2 + 0) (k3 + 0) (k4 + 0) (k5 + 0) (k6 + 0) i j := by
  intro i j hi hj
  rcases (show i = 0 ∨ i = 1 ∨ i = 2 by omega) with rfl | rfl | rfl <;> rcases (show j = 0 ∨ j = 1 ∨ j = 2 by omega) with rfl | rfl | rfl
  · rw [show addE (1 - 1) (0 - 1) 0 0 = 1 from by decide]
    show ((k1 + k4 + k5 : Nat) : Int) + (if n ≤ 0 then 1 else 0) + (1) = (((k1 + 1) + (k4 + 0) + (k5 + 0) : Nat) : Int) + (if n ≤ 0 then 1 else 0)
    omega
  · rw [show addE (1 - 1) (0 - 1) 0 1 = 0 from by decide]
    show -((k4 : Nat) : Int) + (0) = -(((k4 + 0) : Nat) : Int)
    omega
  · rw [show addE (1 - 1) (0 - 1) 0 2 = 0 from by decide]
    show -((k5 : Nat) : Int) + (0) = -(((k5 + 0) : Nat) : Int)
    omega
  · rw [show addE (1 - 1) (0 - 1) 1 0 = 0 from by decide]
    show -((k4 : Nat) : Int) + (0) = -(((k4 + 0) : Nat) : Int)
    omega
  · rw [show addE (1 - 1) (0 - 1) 1 1 = 0 from by decide]
    show ((k2 + k4 + k6 : Nat) : Int) + (if n ≤ 1 then 1 else 0) + (0) = (((k2 + 0) + (k4 + 0) + (k6 + 0) : Nat) : Int) + (if n ≤ 1 then 1 else 0)
    omega
  · rw [show addE (1 - 1) (0 - 1) 1 2 = 0 from by decide]
    show -((k6 : Nat) : Int) + (0) = -(((k6 + 0) : Nat) : Int)
    omega
  · rw [show addE (1 - 1) (0 - 1) 2 0 = 0 from by decide]
    show -((k5 : Nat) : Int) + (0) = -(((k5 + 0) : Nat) : Int)
    omega
  · rw [show addE (1 - 1) (0 - 1) 2 1 = 0 from by decide]
    show -((k6 : Nat) : Int) + (0) = -(((k6 + 0) : Nat) : Int)
    omega
  · rw [show addE (1 - 1) (0 - 1) 2 2 = 0 from by decide]
    show ((k3 + k5 + k6 : Nat) : Int) + (if n ≤ 2 then 1 else 0) + (0) = (((k3 + 0) + (k5 + 0) + (k6 + 0) : Nat) : Int) + (if n ≤ 2 then 1 else 0)
    omega
theorem mTK_12 (n k1 k2 k3 k4 k5 k6 : Nat) : ∀ i j : Nat, i < 3 → j < 3 → mK n k1 k2 k3 k4 k5 k6 i j + addE (1 - 1) (2 - 1) i j = mK n (k1 + 0) (k2 + 0) (k3 + 0) (k4 + 1) (k5 + 0) (k6 + 0) i j := by
  intro i j hi hj
  rcases (show i = 0 ∨ i = 1 ∨ i = 2 by omega) with rfl | rfl | rfl <;> rcases (show j = 0 ∨ j = 1 ∨ j = 2 by omega) with rfl | rfl | rfl
  · rw [show addE (1 - 1) (2 - 1) 0 0 = 1 from by decide]
    show ((k1 + k4 + k5 : Nat) : Int) + (if n ≤ 0 then 1 else 0) + (1) = (((k1 + 0) + (k4 + 1) + (k5 + 0) : Nat) : Int) + (if n ≤ 0 then 1 else 0)
    omega
  · rw [show addE (1 - 1) (2 - 1) 0 1 = -1 from by decide]
    show -((k4 : Nat) : Int) + (-1) = -(((k4 + 1) : Nat) : Int)
    omega
  · rw [show addE (1 - 1) (2 - 1) 0 2 = 0 from by decide]
    show -((k5 : Nat) : Int) + (0) = -(((k5 + 0) : Nat) : Int)
    omega
  · rw [show addE (1 - 1) (2 - 1) 1 0 = -1 from by decide]
    show -((k4 : Nat) : Int) + (-1) = -(((k4 + 1) : Nat) : Int)
    omega
  · rw [show addE (1 - 1) (2 - 1) 1 1 = 1 from by decide]
    show ((k2 + k4 + k6 : Nat) : Int) + (if n ≤ 1 then 1 else 0) + (1) = (((k2 + 0) + (k4 + 1) + (k6 + 0) : Nat) : Int) + (if n ≤ 1 then 1 else 0)
    omega
  · rw [show addE (1 - 1) (2 - 1) 1 2 = 0 from by decide]
    show -((k6 : Nat) : Int) + (0) = -(((k6 + 0) : Nat) : Int)
    omega
  · rw [show addE (1 - 1) (2 - 1) 2 0 = 0 from by decide]
    show -((k5 : Nat) : Int) + (0) = -(((k5 + 0) : Nat) : Int)
    omega
  · rw [show addE (1 - 1) (2 - 1) 2 1 = 0 from by decide]
    show -((k6 : Nat) : Int) + (0) = -(((k6 + 0) : Nat) : Int)
    omega
  · rw [show addE (1 - 1) (2 - 1) 2 2 = 0 from by decide]
    show ((k3 + k5 + k6 : Nat) : Int) + (if n ≤ 2 then 1 else 0) + (0) = (((k3 + 0) + (k5 + 0) + (k6 + 0) : Nat) : Int) + (if n ≤ 2 then 1 else 0)
    omega
theorem mTK_13 (n k1 k2 k3 k4 k5 k6 : Nat) : ∀ i j : Nat, i < 3 → j < 3 → mK n k1 k2 k3 k4 k5 k6 i j + addE (1 - 1) (3 - 1) i j = mK n (k1 + 0) (k2 + 0) (k3 + 0) (k4 + 0) (k5 + 1) (k6 + 0) i j := by
  intro i j hi hj
  rcases (show i = 0 ∨ i = 1 ∨ i = 2 by omega) with rfl | rfl | rfl <;> rcases (show j = 0 ∨ j = 1 ∨ j = 2 by omega) with rfl | rfl | rfl
  · rw [show addE (1 - 1) (3 - 1) 0 0 = 1 from by decide]
    show ((k1 + k4 + k5 : Nat) : Int) + (if n ≤ 0 then 1 else 0) + (1) = (((k1 + 0) + (k4 + 0) + (k5 + 1) : Nat) : Int) + (if n ≤ 0 then 1 else 0)
    omega
  · rw [show addE (1 - 1) (3 - 1) 0 1 = 0 from by decide]
    show -((k4 : Nat) : Int) + (0) = -(((k4 + 0) : Nat) : Int)
    omega
  · rw [show addE (1 - 1) (3 - 1) 0 2 = -1 from by decide]
    show -((k5 : Nat) : Int) + (-1) = -(((k5 + 1) : Nat) : Int)
    omega
  · rw [show addE (1 - 1) (3 - 1) 1 0 = 0 from by decide]
    show -((k4 : Nat) : Int) + (0) = -(((k4 + 0) : Nat) : Int)
    omega
  · rw [show addE (1 - 1) (3 - 1) 1 1 = 0 from by decide]
    show ((k2 + k4 + k6 : Nat) : Int) + (if n ≤ 1 then 1 else 0) + (0) = (((k2 + 0) + (k4 + 0) + (k6 + 0) : Nat) : Int) + (if n ≤ 1 then 1 else 0)
    omega
  · rw [show addE (1 - 1) (3 - 1) 1 2 = 0 from by decide]
    show -((k6 : Nat) : Int) + (0) = -(((k6 + 0) : Nat) : Int)
    omega
  · rw [show addE (1 - 1) (3 - 1) 2 0 = -1 from by decide]
    show -((k5 : Nat) : Int) + (-1) = -(((k5 + 1) : Nat) : Int)
    omega
  · rw [show addE (1 - 1) (3 - 1) 2 1 = 0 from by decide]
    show -((k6 : Nat) : Int) + (0) = -(((k6 + 0) : Nat) : Int)
    omega
  · rw [show addE (1 - 1) (3 - 1) 2 2 = 1 from by decide]
    show ((k3 + k5 + k6 : Nat) : Int) + (if n ≤ 2 then 1 else 0) + (1) = (((k3 + 0) + (k5 + 1) + (k6 + 0) : Nat) : Int) + (if n ≤ 2 then 1 else 0)
    omega
theorem mTK_20 (n k1 k2 k3 k4 k5 k6 : Nat) : ∀ i j : Nat, i < 3 → j < 3 → mK n k1 k2 k3 k4 k5 k6 i j + addE (2 - 1) (0 - 1) i j = mK n (k1 + 0) (k2 + 1) (k3 + 0) (k4 + 0) (k5 + 0) (k6 + 0) i j := by
  intro i j hi hj
  rcases (show i = 0 ∨ i = 1 ∨ i = 2 by omega) with rfl | rfl | rfl <;> rcases (show j = 0 ∨ j = 1 ∨ j = 2 by omega) with rfl | rfl | rfl
  · rw [show addE (2 - 1) (0 - 1) 0 0 = 0 from by decide]
    show ((k1 + k4 + k5 : Nat) : Int) + (if n ≤ 0 then 1 else 0) + (0) = (((k1 + 0) + (k4 + 0) + (k5 + 0) : Nat) : Int) + (if n ≤ 0 then 1 else 0)
    omega
  · rw [show addE (2 - 1) (0 - 1) 0 1 = 0 from by decide]
    show -((k4 : Nat) : Int) + (0) = -(((k4 + 0) : Nat) : Int)
    omega
  · rw [show addE (2 - 1) (0 - 1) 0 2 = 0 from by decide]
    show -((k5 : Nat) : Int) + (0) = -(((k5 + 0) : Nat) : Int)
    omega
  · rw [show addE (2 - 1) (0 - 1) 1 0 = 0 from by decide]
    show -((k4 : Nat) : Int) + (0) = -(((k4 + 0) : Nat) : Int)
    omega
  · rw [show addE (2 - 1) (0 - 1) 1 1 = 1 from by decide]
    show ((k2 + k4 + k6 : Nat) : Int) + (if n ≤ 1 then 1 else 0) + (1) = (((k2 + 1) + (k4 + 0) + (k6 + 0) : Nat) : Int) + (if n ≤ 1 then 1 else 0)
    omega
  · rw [show addE (2 - 1) (0 - 1) 1 2 = 0 from by decide]
    show -((k6 : Nat) : Int) + (0) = -(((k6 + 0) : Nat) : Int)
    omega
  · rw [show addE (2 - 1) (0 - 1) 2 0 = 0 from by decide]
    show -((k5 : Nat) : Int) + (0) = -(((k5 + 0) : Nat) : Int)
    omega
  · rw [show addE (2 - 1) (0 - 1) 2 1 = 0 from by decide]
    show -((k6 : Nat) : Int) + (0) = -(((k6 + 0) : Nat) : Int)
    omega
  · rw [show addE (2 - 1) (0 - 1) 2 2 = 0 from by decide]
    show ((k3 + k5 + k6 : Nat) : Int) + (if n ≤ 2 then 1 else 0) + (0) = (((k3 + 0) + (k5 + 0) + (k6 + 0) : Nat) : Int) + (if n ≤ 2 then 1 else 0)
    omega
theorem mTK_21 (n k1 k2 k3 k4 k5 k6 : Nat) : ∀ i j : Nat, i < 3 → j < 3 → mK n k1 k2 k3 k4 k5 k6 i j + addE (2 - 1) (1 - 1) i j = mK n (k1 + 0) (k2 + 0) (k3 + 0) (k4 + 1) (k5 + 0) (k6 + 0) i j := by
  intro i j hi hj
  rcases (show i = 0 ∨ i = 1 ∨ i = 2 by omega) with rfl | rfl | rfl <;> rcases (show j = 0 ∨ j = 1 ∨ j = 2 by omega) with rfl | rfl | rfl
  · rw [show addE (2 - 1) (1 - 1) 0 0 = 1 from by decide]
    show ((k1 + k4 + k5 : Nat) : Int) + (if n ≤ 0 then 1 else 0) + (1) = (((k1 + 0) + (k4 + 1) + (k5 + 0) : Nat) : Int) + (if n ≤ 0 then 1 else 0)
    omega
  · rw [show addE (2 - 1) (1 - 1) 0 1 = -1 from by decide]
    show -((k4 : Nat) : Int) + (-1) = -(((k4 + 1) : Nat) : Int)
    omega
  · rw [show addE (2 - 1) (1 - 1) 0 2 = 0 from by decide]
    show -((k5 : Nat) : Int) + (0) = -(((k5 + 0) : Nat) : Int)
    omega
  · rw [show addE (2 - 1) (1 - 1) 1 0 = -1 from by decide]
    show -((k4 : Nat) : Int) + (-1) = -(((k4 + 1) : Nat) : Int)
    omega
  · rw [show addE (2 - 1) (1 - 1) 1 1 = 1 from by decide]
    show ((k2 + k4 + k6 : Nat) : Int) + (if n ≤ 1 then 1 else 0) + (1) = (((k2 + 0) + (k4 + 1) + (k6 + 0) : Nat) : Int) + (if n ≤ 1 then 1 else 0)
    omega
  · rw [show addE (2 - 1) (1 - 1) 1 2 = 0 from by decide]
    show -((k6 : Nat) : Int) + (0) = -(((k6 + 0) : Nat) : Int)
    omega
  · rw [show addE (2 - 1) (1 - 1) 2 0 = 0 from by decide]
    show -((k5 : Nat) : Int) + (0) = -(((k5 + 0) : Nat) : Int)
    omega
  · rw [show addE (2 - 1) (1 - 1) 2 1 = 0 from by decide]
    show -((k6 : Nat) : Int) + (0) = -(((k6 + 0) : Nat) : Int)
    omega
  · rw [show addE (2 - 1) (1 - 1) 2 2 = 0 from by decide]
    show ((k3 + k5 + k6 : Nat) : Int) + (if n ≤ 2 then 1 else 0) + (0) = (((k3 + 0) + (k5 + 0) + (k6 + 0) : Nat) : Int) + (if n ≤ 2 then 1 else 0)
    omega
theorem mTK_23 (n k1 k2 k3 k4 k5 k6 : Nat) : ∀ i j : Nat, i < 3 → j < 3 → mK n k1 k2 k3 k4 k5 k6 i j + addE (2 - 1) (3 - 1) i j = mK n (k1 + 0) (k2 + 0) (k3 + 0) (k4 + 0) (k5 + 0) (k6 + 1) i j := by
  intro i j hi hj
  rcases (show i = 0 ∨ i = 1 ∨ i = 2 by omega) with rfl | rfl | rfl <;> rcases (show j = 0 ∨ j = 1 ∨ j = 2 by omega) with rfl | rfl | rfl
  · rw [show addE (2 - 1) (3 - 1) 0 0 = 0 from by decide]
    show ((k1 + k4 + k5 : Nat) : Int) + (if n ≤ 0 then 1 else 0) + (0) = (((k1 + 0) + (k4 + 0) + (k5 + 0) : Nat) : Int) + (if n ≤ 0 then 1 else 0)
    omega
  · rw [show addE (2 - 1) (3 - 1) 0 1 = 0 from by decide]
    show -((k4 : Nat) : Int) + (0) = -(((k4 + 0) : Nat) : Int)
    omega
  · rw [show addE (2 - 1) (3 - 1) 0 2 = 0 from by decide]
    show -((k5 : Nat) : Int) + (0) = -(((k5 + 0) : Nat) : Int)
    omega
  · rw [show addE (2 - 1) (3 - 1) 1 0 = 0 from by decide]
    show -((k4 : Nat) : Int) + (0) = -(((k4 + 0) : Nat) : Int)
    omega
  · rw [show addE (2 - 1) (3 - 1) 1 1 = 1 from by decide]
    show ((k2 + k4 + k6 : Nat) : Int) + (if n ≤ 1 then 1 else 0) + (1) = (((k2 + 0) + (k4 + 0) + (k6 + 1) : Nat) : Int) + (if n ≤ 1 then 1 else 0)
    omega
  · rw [show addE (2 - 1) (3 - 1) 1 2 = -1 from by decide]
    show -((k6 : Nat) : Int) + (-1) = -(((k6 + 1) : Nat) : Int)
    omega
  · rw [show addE (2 - 1) (3 - 1) 2 0 = 0 from by decide]
    show -((k5 : Nat) : Int) + (0) = -(((k5 + 0) : Nat) : Int)
    omega
  · rw [show addE (2 - 1) (3 - 1) 2 1 = -1 from by decide]
    show -((k6 : Nat) : Int) + (-1) = -(((k6 + 1) : Nat) : Int)
    omega
  · rw [show addE (2 - 1) (3 - 1) 2 2 = 1 from by decide]
    show ((k3 + k5 + k6 : Nat) : Int) + (if n ≤ 2 then 1 else 0) + (1) = (((k3 + 0) + (k5 + 0) + (k6 + 1) : Nat) : Int) + (if n ≤ 2 then 1 else 0)
    omega
theorem mTK_30 (n k1 k2 k3 k4 k5 k6 : Nat) : ∀ i j : Nat, i < 3 → j < 3 → mK n k1 k2 k3 k4 k5 k6 i j + addE (3 - 1) (0 - 1) i j = mK n (k1 + 0) (k2 + 0) (k3 + 1) (k4 + 0) (k5 + 0) (k6 + 0) i j := by
  intro i j hi hj
  rcases (show i = 0 ∨ i = 1 ∨ i = 2 by omega) with rfl | rfl | rfl <;> rcases (show j = 0 ∨ j = 1 ∨ j = 2 by omega) with rfl | rfl | rfl
  · rw [show addE (3 - 1) (0 - 1) 0 0 = 0 from by decide]
    show ((k1 + k4 + k5 : Nat) : Int) + (if n ≤ 0 then 1 else 0) + (0) = (((k1 + 0) + (k4 + 0) + (k5 + 0) : Nat) : Int) + (if n ≤ 0 then 1 else 0)
    omega
  · rw [show addE (3 - 1) (0 - 1) 0 1 = 0 from by decide]
    show -((k4 : Nat) : Int) + (0) = -(((k4 + 0) : Nat) : Int)
    omega
  · rw [show addE (3 - 1) (0 - 1) 0 2 = 0 from by decide]
    show -((k5 : Nat) : Int) + (0) = -(((k5 + 0) : Nat) : Int)
    omega
  · rw [show addE (3 - 1) (0 - 1) 1 0 = 0 from by decide]
    show -((k4 : Nat) : Int) + (0) = -(((k4 + 0) : Nat) : Int)
    omega
  · rw [show addE (3 - 1) (0 - 1) 1 1 = 0 from by decide]
    show ((k2 + k4 + k6 : Nat) : Int) + (if n ≤ 1 then 1 else 0) + (0) = (((k2 + 0) + (k4 + 0) + (k6 + 0) : Nat) : Int) + (if n ≤ 1 then 1 else 0)
    omega
  · rw [show addE (3 - 1) (0 - 1) 1 2 = 0 from by decide]
    show -((k6 : Nat) : Int) + (0) = -(((k6 + 0) : Nat) : Int)
    omega
  · rw [show addE (3 - 1) (0 - 1) 2 0 = 0 from by decide]
    show -((k5 : Nat) : Int) + (0) = -(((k5 + 0) : Nat) : Int)
    omega
  · rw [show addE (3 - 1) (0 - 1) 2 1 = 0 from by decide]
    show -((k6 : Nat) : Int) + (0) = -(((k6 + 0) : Nat) : Int)
    omega
  · rw [show addE (3 - 1) (0 - 1) 2 2 = 1 from by decide]
    show ((k3 + k5 + k6 : Nat) : Int) + (if n ≤ 2 then 1 else 0) + (1) = (((k3 + 1) + (k5 + 0) + (k6 + 0) : Nat) : Int) + (if n ≤ 2 then 1 else 0)
    omega
theorem mTK_31 (n k1 k2 k3 k4 k5 k6 : Nat) : ∀ i j : Nat, i < 3 → j < 3 → mK n k1 k2 k3 k4 k5 k6 i j + addE (3 - 1) (1 - 1) i j = mK n (k1 + 0) (k2 + 0) (k3 + 0) (k4 + 0) (k5 + 1) (k6 + 0) i j := by
  intro i j hi hj
  rcases (show i = 0 ∨ i = 1 ∨ i = 2 by omega) with rfl | rfl | rfl <;> rcases (show j = 0 ∨ j = 1 ∨ j = 2 by omega) with rfl | rfl | rfl
  · rw [show addE (3 - 1) (1 - 1) 0 0 = 1 from by decide]
    show ((k1 + k4 + k5 : Nat) : Int) + (if n ≤ 0 then 1 else 0) + (1) = (((k1 + 0) + (k4 + 0) + (k5 + 1) : Nat) : Int) + (if n ≤ 0 then 1 else 0)
    omega
  · rw [show addE (3 - 1) (1 - 1) 0 1 = 0 from by decide]
    show -((k4 : Nat) : Int) + (0) = -(((k4 + 0) : Nat) : Int)
    omega
  · rw [show addE (3 - 1) (1 - 1) 0 2 = -1 from by decide]
    show -((k5 : Nat) : Int) + (-1) = -(((k5 + 1) : Nat) : Int)
    omega
  · rw [show addE (3 - 1) (1 - 1) 1 0 = 0 from by decide]
    show -((k4 : Nat) : Int) + (0) = -(((k4 + 0) : Nat) : Int)
    omega
  · rw [show addE (3 - 1) (1 - 1) 1 1 = 0 from by decide]
    show ((k2 + k4 + k6 : Nat) : Int) + (if n ≤ 1 then 1 else 0) + (0) = (((k2 + 0) + (k4 + 0) + (k6 + 0) : Nat) : Int) + (if n ≤ 1 then 1 else 0)
    omega
  · rw [show addE (3 - 1) (1 - 1) 1 2 = 0 from by decide]
    show -((k6 : Nat) : Int) + (0) = -(((k6 + 0) : Nat) : Int)
    omega
  · rw [show addE (3 - 1) (1 - 1) 2 0 = -1 from by decide]
    show -((k5 : Nat) : Int) + (-1) = -(((k5 + 1) : Nat) : Int)
    omega
  · rw [show addE (3 - 1) (1 - 1) 2 1 = 0 from by decide]
    show -((k6 : Nat) : Int) + (0) = -(((k6 + 0) : Nat) : Int)
    omega
  · rw [show addE (3 - 1) (1 - 1) 2 2 = 1 from by decide]
    show ((k3 + k5 + k6 : Nat) : Int) + (if n ≤ 2 then 1 else 0) + (1) = (((k3 + 0) + (k5 + 1) + (k6 + 0) : Nat) : Int) + (if n ≤ 2 then 1 else 0)
    omega
theorem mTK_32 (n k1 k2 k3 k4 k5 k6 : Nat) : ∀ i j : Nat, i < 3 → j < 3 → mK n k1 k2 k3 k4 k5 k6 i j + addE (3 - 1) (2 - 1) i j = mK n (k1 + 0) (k2 + 0) (k3 + 0) (k4 + 0) (k5 + 0) (k6 + 1) i j := by
  intro i j hi hj
  rcases (show i = 0 ∨ i = 1 ∨ i = 2 by omega) with rfl | rfl | rfl <;> rcases (show j = 0 ∨ j = 1 ∨ j = 2 by omega) with rfl | rfl | rfl
  · rw [show addE (3 - 1) (2 - 1) 0 0 = 0 from by decide]
    show ((k1 + k4 + k5 : Nat) : Int) + (if n ≤ 0 then 1 else 0) + (0) = (((k1 + 0) + (k4 + 0) + (k5 + 0) : Nat) : Int) + (if n ≤ 0 then 1 else 0)
    omega
  · rw [show addE (3 - 1) (2 - 1) 0 1 = 0 from by decide]
    show -((k4 : Nat) : Int) + (0) = -(((k4 + 0) : Nat) : Int)
    omega
  · rw [show addE (3 - 1) (2 - 1) 0 2 = 0 from by decide]
    show -((k5 : Nat) : Int) + (0) = -(((k5 + 0) : Nat) : Int)
    omega
  · rw [show addE (3 - 1) (2 - 1) 1 0 = 0 from by decide]
    show -((k4 : Nat) : Int) + (0) = -(((k4 + 0) : Nat) : Int)
    omega
  · rw [show addE (3 - 1) (2 - 1) 1 1 = 1 from by decide]
    show ((k2 + k4 + k6 : Nat) : Int) + (if n ≤ 1 then 1 else 0) + (1) = (((k2 + 0) + (k4 + 0) + (k6 + 1) : Nat) : Int) + (if n ≤ 1 then 1 else 0)
    omega
  · rw [show addE (3 - 1) (2 - 1) 1 2 = -1 from by decide]
    show -((k6 : Nat) : Int) + (-1) = -(((k6 + 1) : Nat) : Int)
    omega
  · rw [show addE (3 - 1) (2 - 1) 2 0 = 0 from by decide]
    show -((k5 : Nat) : Int) + (0) = -(((k5 + 0) : Nat) : Int)
    omega
  · rw [show addE (3 - 1) (2 - 1) 2 1 = -1 from by decide]
    show -((k6 : Nat) : Int) + (-1) = -(((k6 + 1) : Nat) : Int)
    omega
  · rw [show addE (3 - 1) (2 - 1) 2 2 = 1 from by decide]
    show ((k3 + k5 + k6 : Nat) : Int) + (if n ≤ 2 then 1 else 0) + (1) = (((k3 + 0) + (k5 + 0) + (k6 + 1) : Nat) : Int) + (if n ≤ 2 then 1 else 0)
    omega
/-- the matrix is the six counts' -/
theorem mT_mK {fv : Nat → Int} {z : Int} {n : Nat} (hn1 : 1 ≤ n) (hn3 : n ≤ 3) : ∀ t : Nat, (∀ l, l < t → 0 ≤ fv (5 + l) ∧ fv (5 + l) ≤ (n : Int) ∧ 0 ≤ fv (11 + l) ∧ fv (11 + l) ≤ (n : Int) ∧ fv (5 + l) ≠ fv (11 + l)) → ∀ i j, i < 3 → j < 3 → mT fv ((n : Int) + 1) z t i j = mK n (kcn fv z 0 1 t) (kcn fv z 0 2 t) (kcn fv z 0 3 t) (kcn fv z 1 2 t) (kcn fv z 1 3 t) (kcn fv z 2 3 t) i j
  | 0, _, i, j, hi, hj => by
    show m0M ((n : Int) + 1) i j = mK n 0 0 0 0 0 0 i j
    unfold m0M mK
    (repeat' split) <;> omega
  | t + 1, hr, i, j, hi, hj => by
    have ih := mT_mK (z := z) hn1 hn3 t (fun l hl => hr l (by omega)) i j hi hj
    obtain ⟨r1, r2, r3, r4, r5⟩ := hr t (Nat.lt_succ_self t)
    show (if (t : Int) = z then mT fv ((n : Int) + 1) z t i j else mT fv ((n : Int) + 1) z t i j + addE (fv (5 + t) - 1) (fv (11 + t) - 1) i j) = _
    rw [ih]
    by_cases hz : (t : Int) = z
    · rw [if_pos hz, kcn_z hz, kcn_z hz, kcn_z hz, kcn_z hz, kcn_z hz, kcn_z hz]
    · rw [if_neg hz, kcn_s hz, kcn_s hz, kcn_s hz, kcn_s hz, kcn_s hz, kcn_s hz]
      have f1 : fv (5 + t) = 0 ∨ fv (5 + t) = 1 ∨ fv (5 + t) = 2 ∨ fv (5 + t) = 3 := by omega
      have f2 : fv (11 + t) = 0 ∨ fv (11 + t) = 1 ∨ fv (11 + t) = 2 ∨ fv (11 + t) = 3 := by omega
      clear ih hr
      generalize kcn fv z 0 1 t = k1
      generalize kcn fv z 0 2 t = k2
      generalize kcn fv z 0 3 t = k3
      generalize kcn fv z 1 2 t = k4
      generalize kcn fv z 1 3 t = k5
      generalize kcn fv z 2 3 t = k6
      generalize fv (5 + t) = p at *
      generalize fv (11 + t) = q at *
      rcases f1 with rfl | rfl | rfl | rfl <;> rcases f2 with rfl | rfl | rfl | rfl
      · exact absurd rfl r5
      · exact mTK_01 n k1 k2 k3 k4 k5 k6 i j hi hj
      · exact mTK_02 n k1 k2 k3 k4 k5 k6 i j hi hj
      · exact mTK_03 n k1 k2 k3 k4 k5 k6 i j hi hj
      · exact mTK_10 n k1 k2 k3 k4 k5 k6 i j hi hj
      · exact absurd rfl r5
      · exact mTK_12 n k1 k2 k3 k4 k5 k6 i j hi hj
      · exact mTK_13 n k1 k2 k3 k4 k5 k6 i j hi hj
      · exact mTK_20 n k1 k2 k3 k4 k5 k6 i j hi hj
      · exact mTK_21 n k1 k2 k3 k4 k5 k6 i j hi hj
      · exact absurd rfl r5
      · exact mTK_23 n k1 k2 k3 k4 k5 k6 i j hi hj
      · exact mTK_30 n k1 k2 k3 k4 k5 k6 i j hi hj
      · exact mTK_31 n k1 k2 k3 k4 k5 k6 i j hi hj
      · exact mTK_32 n k1 k2 k3 k4 k5 k6 i j hi hj
      · exact absurd rfl r5

section CRDG
variable {g0 : GG} {bl : Nat} {xs : Nat → Int32} {l : Launch} {hs : List CE} {b : Nat} {M : Nat → Nat → Int}

theorem cx_clr {n9 : Int32} {nd : Int} (hF : FLS hs b) (hn : n9.toInt = nd) (hn1 : 0 ≤ nd) (hn2 : nd ≤ 10) : BodyN SSX TBL g0 CLS bl xs l D_73 0 0 0 0 [.ref b, .int n9] hs (fun kd r h2 => kd = 0 ∧ r = none ∧ FLS h2 b ∧ LAP h2 b (m0M nd) ∧ FrS (WFr b) hs h2) := by
  intro wp p e R sW m args below meth cW Q kc0 ks0 kc ks act hf hl hc hsl hEnd
  have hf : 0 ≤ R.frames := hf
  have hl : 0 ≤ R.locals := hl
  have hk1 : kc ≤ kc + 0 := by omega
  have hk2 : ks ≤ ks + 0 := by omega
  have inn : ∀ (i : Nat) (i9 : Int32), i < 3 → i9.toInt = (i : Int) → (∀ (hj : List CE) (w : Option Value), FLS hj b → LAQ hj b (m0M nd) (3 * (i + 1)) → FrS (WFr b) hs hj → WpN (gp g0 wp) CLS p l e R sW m args below meth cW Q D_73.2.2.1 kc0 ks0 45 [some (.ref b), some (.int n9), some (.int i9), w] (hj, kc, ks) []) → ∀ (hj : List CE) (j : Nat) (j9 : Int32), j ≤ 3 → j9.toInt = (j : Int) → FLS hj b → LAQ hj b (m0M nd) (3 * i + j) → FrS (WFr b) hs hj → WpN (gp g0 wp) CLS p l e R sW m args below meth cW Q D_73.2.2.1 kc0 ks0 9 [some (.ref b), some (.int n9), some (.int i9), some (.int j9)] (hj, kc, ks) [] := by
    intro i i9 hi3 hi K hj j j9 hj3 hjv hF hQ hfr
    generalize hm : 3 - j = m9
    induction m9 using Nat.strongRecOn generalizing hj j j9 with
    | _ m9 ih =>
    have hb0 := hF.1
    subst hm
    refine g_loadI act (gx gp_73 (w := 0x3000a02) rfl (by decide) rfl) (a := 3) (n := 10) rfl rfl rfl ?_
    refine g_constI act (gx gp_73 (w := 0x40000001c00000019000000000b01) rfl (by decide) rfl) (n := 11) (x := (3 : Int32)) (by decide) rfl ?_
    refine g_icmpGe act (gx gp_73 (w := 0x2d000e08) rfl (by decide) rfl) (tgt := 45) (n := 14) rfl rfl (fun h3 => ?_) (fun h3 => ?_)
    · simp only [i_le, show (3 : Int32).toInt = 3 from by decide] at h3
      exact K _ _ hF (by rw [show 3 * (i + 1) = 3 * i + j by omega]; exact hQ) hfr
    · simp only [i_le, show (3 : Int32).toInt = 3 from by decide] at h3
      refine g_loadA act (gx gp_73 (w := 0xf03) rfl (by decide) rfl) (a := 0) (n := 15) rfl rfl rfl ?_
      refine r_getf act (gx gp_73 (w := 0x3000081001204) rfl (by decide) rfl) (n := 18) (ci := 1) (j := 2) (N := 4) rfl rfl rfl hF.2.1 (by decide) (v := .ref (b + 8)) hF.2.2.1.2.1 ?_
      refine g_loadI act (gx gp_73 (w := 0x2001302) rfl (by decide) rfl) (a := 2) (n := 19) rfl rfl rfl ?_
      refine r_aald act (gx gp_73 (w := 0x1412) rfl (by decide) rfl) (n := 20) (N := 3) (j := i) rfl hF.2.2.2.1.2.1 (by decide) hi (show i < 3 by omega) (v := .ref (b + (9 + i))) (hF.2.2.2.2.2.1 i (by omega)).1 ?_
      refine g_loadI act (gx gp_73 (w := 0x3001502) rfl (by decide) rfl) (a := 3) (n := 21) rfl rfl rfl ?_
      refine g_loadI act (gx gp_73 (w := 0x2001602) rfl (by decide) rfl) (a := 2) (n := 22) rfl rfl rfl ?_
      refine g_loadI act (gx gp_73 (w := 0x3001702) rfl (by decide) rfl) (a := 3) (n := 23) rfl rfl rfl ?_
      refine g_icmpNe act (gx gp_73 (w := 0x25001a21) rfl (by decide) rfl) (tgt := 37) (n := 26) rfl rfl (fun h9 => ?_) (fun h9 => ?_)
      · simp only [i_eq] at h9
        refine g_constL act (gx gp_73 (w := 0x40000000000000002000000002601) rfl (by decide) rfl) (n := 38) (x := 0) (by decide) rfl ?_
        refine r_last act (gx gp_73 (w := 0x2705) rfl (by decide) rfl) (n := 39) (N := 3) (j := j) rfl (hF.2.2.2.2.2.1 i (by omega)).2 hjv (show j < 3 by omega) ?_
        have f_2 := hF.wr (k := (b + (9 + i))) (j := j) (v := .long (0 : Int64)) (by unfold WFr; omega)
        have fr_3 := hfr.wr (k := (b + (9 + i))) (j := j) (.long (0 : Int64)) (by unfold WFr; omega)
        have f_1 := hQ.put (i := i) (j := j) (x := (0 : Int64)) hF (by omega) (by omega) (by omega) (show (0 : Int64).toInt = m0M nd i j by unfold m0M; first | (rw [if_pos ⟨by omega, by omega⟩]; decide) | (rw [if_neg (fun q9 => by omega)]; decide))
        clear hF hfr hQ
        generalize (wr hj (b + (9 + i)) j (.long (0 : Int64))) = hs_4 at *
        refine g_iinc act (gx gp_73 (w := 0x80000001000003002a09) rfl (by decide) rfl) (a := 3) (i := (1 : Int32)) (n := 42) rfl (by decide) rfl rfl (L2 := [some (.ref b), some (.int n9), some (.int i9), some (.int (j9 + (1 : Int32)))]) rfl ?_
        have v_5 := iv_addN hjv (show (1 : Int32).toInt = ((1 : Nat) : Int) from by decide) (show (j + 1) < 2147483648 by omega)
        refine g_goto act (gx gp_73 (w := 0x907) rfl (by decide) rfl) (n := 9) rfl ?_
        exact ih _ (by omega) _ (j + 1) _ (by omega) v_5 f_2 f_1 fr_3 rfl
      · simp only [i_eq] at h9
        refine g_loadI act (gx gp_73 (w := 0x2001b02) rfl (by decide) rfl) (a := 2) (n := 27) rfl rfl rfl ?_
        refine g_loadI act (gx gp_73 (w := 0x1001c02) rfl (by decide) rfl) (a := 1) (n := 28) rfl rfl rfl ?_
        refine g_constI act (gx gp_73 (w := 0x40000000c00000009000000001d01) rfl (by decide) rfl) (n := 29) (x := (1 : Int32)) (by decide) rfl ?_
        refine g_isub act (gx gp_73 (w := 0x1e26) rfl (by decide) rfl) (n := 30) rfl ?_
        have v_6 := iv_sub hn (show (1 : Int32).toInt = ((1 : Nat) : Int) from by decide) (show -2147483648 ≤ (nd - ((1 : Nat) : Int)) by omega) (show (nd - ((1 : Nat) : Int)) < 2147483648 by omega)
        refine g_icmpLt act (gx gp_73 (w := 0x25002120) rfl (by decide) rfl) (tgt := 37) (n := 33) rfl rfl (fun h15 => ?_) (fun h15 => ?_)
        · simp only [i_lt, show (1 : Int32).toInt = 1 from by decide] at h15
          refine g_constL act (gx gp_73 (w := 0x40000000000000002000000002601) rfl (by decide) rfl) (n := 38) (x := 0) (by decide) rfl ?_
          refine r_last act (gx gp_73 (w := 0x2705) rfl (by decide) rfl) (n := 39) (N := 3) (j := j) rfl (hF.2.2.2.2.2.1 i (by omega)).2 hjv (show j < 3 by omega) ?_
          have f_8 := hF.wr (k := (b + (9 + i))) (j := j) (v := .long (0 : Int64)) (by unfold WFr; omega)
          have fr_9 := hfr.wr (k := (b + (9 + i))) (j := j) (.long (0 : Int64)) (by unfold WFr; omega)
          have f_7 := hQ.put (i := i) (j := j) (x := (0 : Int64)) hF (by omega) (by omega) (by omega) (show (0 : Int64).toInt = m0M nd i j by unfold m0M; first | (rw [if_pos ⟨by omega, by omega⟩]; decide) | (rw [if_neg (fun q9 => by omega)]; decide))
          clear hF hfr hQ
          generalize (wr hj (b + (9 + i)) j (.long (0 : Int64))) = hs_10 at *
          refine g_iinc act (gx gp_73 (w := 0x80000001000003002a09) rfl (by decide) rfl) (a := 3) (i := (1 : Int32)) (n := 42) rfl (by decide) rfl rfl (L2 := [some (.ref b), some (.int n9), some (.int i9), some (.int (j9 + (1 : Int32)))]) rfl ?_
          have v_11 := iv_addN hjv (show (1 : Int32).toInt = ((1 : Nat) : Int) from by decide) (show (j + 1) < 2147483648 by omega)
          refine g_goto act (gx gp_73 (w := 0x907) rfl (by decide) rfl) (n := 9) rfl ?_
          exact ih _ (by omega) _ (j + 1) _ (by omega) v_11 f_8 f_7 fr_9 rfl
        · simp only [i_lt, show (1 : Int32).toInt = 1 from by decide] at h15
          refine g_constL act (gx gp_73 (w := 0x4000000000000000a000000002201) rfl (by decide) rfl) (n := 34) (x := 1) (by decide) rfl ?_
          refine g_goto act (gx gp_73 (w := 0x2607) rfl (by decide) rfl) (n := 38) rfl ?_
          refine r_last act (gx gp_73 (w := 0x2705) rfl (by decide) rfl) (n := 39) (N := 3) (j := j) rfl (hF.2.2.2.2.2.1 i (by omega)).2 hjv (show j < 3 by omega) ?_
          have f_13 := hF.wr (k := (b + (9 + i))) (j := j) (v := .long (1 : Int64)) (by unfold WFr; omega)
          have fr_14 := hfr.wr (k := (b + (9 + i))) (j := j) (.long (1 : Int64)) (by unfold WFr; omega)
          have f_12 := hQ.put (i := i) (j := j) (x := (1 : Int64)) hF (by omega) (by omega) (by omega) (show (1 : Int64).toInt = m0M nd i j by unfold m0M; first | (rw [if_pos ⟨by omega, by omega⟩]; decide) | (rw [if_neg (fun q9 => by omega)]; decide))
          clear hF hfr hQ
          generalize (wr hj (b + (9 + i)) j (.long (1 : Int64))) = hs_15 at *
          refine g_iinc act (gx gp_73 (w := 0x80000001000003002a09) rfl (by decide) rfl) (a := 3) (i := (1 : Int32)) (n := 42) rfl (by decide) rfl rfl (L2 := [some (.ref b), some (.int n9), some (.int i9), some (.int (j9 + (1 : Int32)))]) rfl ?_
          have v_16 := iv_addN hjv (show (1 : Int32).toInt = ((1 : Nat) : Int) from by decide) (show (j + 1) < 2147483648 by omega)
          refine g_goto act (gx gp_73 (w := 0x907) rfl (by decide) rfl) (n := 9) rfl ?_
          exact ih _ (by omega) _ (j + 1) _ (by omega) v_16 f_13 f_12 fr_14 rfl
  have out : ∀ (hj : List CE) (i : Nat) (i9 : Int32) (w : Option Value), i ≤ 3 → i9.toInt = (i : Int) → FLS hj b → LAQ hj b (m0M nd) (3 * i) → FrS (WFr b) hs hj → WpN (gp g0 wp) CLS p l e R sW m args below meth cW Q D_73.2.2.1 kc0 ks0 2 [some (.ref b), some (.int n9), some (.int i9), w] (hj, kc, ks) [] := by
    intro hj i i9 w hi3 hi hF hQ hfr
    generalize hm : 3 - i = m9
    induction m9 using Nat.strongRecOn generalizing hj i i9 w with
    | _ m9 ih =>
    have hb0 := hF.1
    subst hm
    refine g_loadI act (gx gp_73 (w := 0x2000302) rfl (by decide) rfl) (a := 2) (n := 3) rfl rfl rfl ?_
    refine g_constI act (gx gp_73 (w := 0x40000001c00000019000000000401) rfl (by decide) rfl) (n := 4) (x := (3 : Int32)) (by decide) rfl ?_
    refine g_icmpGe act (gx gp_73 (w := 0x33000708) rfl (by decide) rfl) (tgt := 51) (n := 7) rfl rfl (fun h3 => ?_) (fun h3 => ?_)
    · simp only [i_le, show (3 : Int32).toInt = 3 from by decide] at h3
      exact g_retV hEnd (gx gp_73 (w := 0x18) rfl (by decide) rfl) ⟨rfl, rfl, hF, LAQ.all (by rw [show 9 = 3 * i by omega]; exact hQ), hfr⟩ hk1 hk2
    · simp only [i_le, show (3 : Int32).toInt = 3 from by decide] at h3
      refine g_constI act (gx gp_73 (w := 0x40000000400000001000000000801) rfl (by decide) rfl) (n := 8) (x := (0 : Int32)) (by decide) rfl ?_
      refine g_storeI act (gx gp_73 (w := 0x3000910) rfl (by decide) rfl) (a := 3) (n := 9) rfl rfl (L2 := [some (.ref b), some (.int n9), some (.int i9), some (.int (0 : Int32))]) rfl ?_
      refine inn i i9 (by omega) hi (fun h2 w2 hF2 hQ2 hfr2 => ?_) hj 0 _ (by omega) (by decide) hF (by rw [Nat.add_zero]; exact hQ) hfr
      refine g_iinc act (gx gp_73 (w := 0x80000001000002003009) rfl (by decide) rfl) (a := 2) (i := (1 : Int32)) (n := 48) rfl (by decide) rfl rfl (L2 := [some (.ref b), some (.int n9), some (.int (i9 + (1 : Int32))), w2]) rfl ?_
      have v_17 := iv_addN hi (show (1 : Int32).toInt = ((1 : Nat) : Int) from by decide) (show (i + 1) < 2147483648 by omega)
      refine g_goto act (gx gp_73 (w := 0x207) rfl (by decide) rfl) (n := 2) rfl ?_
      exact ih _ (by omega) _ (i + 1) _ _ (by omega) v_17 hF2 hQ2 hfr2 rfl
  show WpN (gp g0 wp) CLS p l e R sW m args below meth cW Q D_73.2.2.1 kc0 ks0 0 [some (.ref b), some (.int n9), none, none] (hs, kc, ks) []
  refine g_constI act (gx gp_73 (w := 0x40000000400000001000000000101) rfl (by decide) rfl) (n := 1) (x := (0 : Int32)) (by decide) rfl ?_
  refine g_storeI act (gx gp_73 (w := 0x2000210) rfl (by decide) rfl) (a := 2) (n := 2) rfl rfl (L2 := [some (.ref b), some (.int n9), some (.int (0 : Int32)), none]) rfl ?_
  exact out hs 0 _ _ (by omega) (by decide) hF (fun i j _ _ q => absurd q (by omega)) (FrS.rf _ hs)

theorem cx_ang (hF : FLS hs b) (hM : LAP hs b M) (hB : BdM M 25) : BodyN SSX TBL g0 CLS bl xs l D_76 1 26 0 0 [.ref b] hs (fun kd r h2 => kd = 0 ∧ r = none ∧ FLS h2 b ∧ (∃ t : Int64, rd h2 b 0 = .long t ∧ t.toInt = det3 M) ∧ FrS (WFr b) hs h2) := by
  intro wp p e R sW m args below meth cW Q kc0 ks0 kc ks act hf hl hc hsl hEnd
  have hf : 1 ≤ R.frames := hf
  have hl : 26 ≤ R.locals := hl
  have hfr0 := FrS.rf (WFr b) hs
  have hb0 := hF.1
  have hk1 : kc ≤ kc + 0 := by omega
  have hk2 : ks ≤ ks + 0 := by omega
  have inn : ∀ (i : Nat) (i9 : Int32) (t9 : Int64), i < 3 → i9.toInt = (i : Int) → (∀ (hj : List CE) (w : Option Value), FLS hj b → LAP hj b M → rd hj b 0 = .long t9 → FrS (WFr b) hs hj → WpN (gp g0 wp) CLS p l e R sW m args below meth cW Q D_76.2.2.1 kc0 ks0 43 [some (.ref b), some (.int i9), w] (hj, kc, ks) []) → ∀ (hj : List CE) (j : Nat) (j9 : Int32), j ≤ 3 → j9.toInt = (j : Int) → FLS hj b → LAP hj b M → rd hj b 0 = .long t9 → FrS (WFr b) hs hj → WpN (gp g0 wp) CLS p l e R sW m args below meth cW Q D_76.2.2.1 kc0 ks0 14 [some (.ref b), some (.int i9), some (.int j9)] (hj, kc, ks) [] := by
    intro i i9 t9 hi3 hi K hj j j9 hj3 hjv hF hM hT hfr
    generalize hm : 3 - j = m9
    induction m9 using Nat.strongRecOn generalizing hj j j9 with
    | _ m9 ih =>
    have hb0 := hF.1
    subst hm
    refine g_loadI act (gx gp_76 (w := 0x2000f02) rfl (by decide) rfl) (a := 2) (n := 15) rfl rfl rfl ?_
    refine g_constI act (gx gp_76 (w := 0x40000001c00000019000000001001) rfl (by decide) rfl) (n := 16) (x := (3 : Int32)) (by decide) rfl ?_
    refine g_icmpGe act (gx gp_76 (w := 0x2b001308) rfl (by decide) rfl) (tgt := 43) (n := 19) rfl rfl (fun h3 => ?_) (fun h3 => ?_)
    · simp only [i_le, show (3 : Int32).toInt = 3 from by decide] at h3
      exact K _ _ hF hM hT hfr
    · simp only [i_le, show (3 : Int32).toInt = 3 from by decide] at h3
      refine g_loadA act (gx gp_76 (w := 0x1403) rfl (by decide) rfl) (a := 0) (n := 20) rfl rfl rfl ?_
      refine r_getf act (gx gp_76 (w := 0x30000c1001704) rfl (by decide) rfl) (n := 23) (ci := 1) (j := 3) (N := 4) rfl rfl rfl hF.2.1 (by decide) (v := .ref (b + 12)) hF.2.2.1.2.2 ?_
      refine g_loadI act (gx gp_76 (w := 0x1001802) rfl (by decide) rfl) (a := 1) (n := 24) rfl rfl rfl ?_
      refine g_constI act (gx gp_76 (w := 0x40000000c00000009000000001901) rfl (by decide) rfl) (n := 25) (x := (1 : Int32)) (by decide) rfl ?_
      refine g_iadd act (gx gp_76 (w := 0x1a0a) rfl (by decide) rfl) (n := 26) rfl ?_
      have v_1 := iv_addN hi (show (1 : Int32).toInt = ((1 : Nat) : Int) from by decide) (show (i + 1) < 2147483648 by omega)
      refine r_aald act (gx gp_76 (w := 0x1b12) rfl (by decide) rfl) (n := 27) (N := 4) (j := (i + 1)) rfl hF.2.2.2.1.2.2 (by decide) v_1 (show (i + 1) < 4 by omega) (v := .ref (b + (13 + (i + 1)))) (hF.2.2.2.2.2.2 (i + 1) (by omega)).1 ?_
      refine g_loadI act (gx gp_76 (w := 0x2001c02) rfl (by decide) rfl) (a := 2) (n := 28) rfl rfl rfl ?_
      refine g_constI act (gx gp_76 (w := 0x40000000c00000009000000001d01) rfl (by decide) rfl) (n := 29) (x := (1 : Int32)) (by decide) rfl ?_
      refine g_iadd act (gx gp_76 (w := 0x1e0a) rfl (by decide) rfl) (n := 30) rfl ?_
      have v_2 := iv_addN hjv (show (1 : Int32).toInt = ((1 : Nat) : Int) from by decide) (show (j + 1) < 2147483648 by omega)
      refine g_loadA act (gx gp_76 (w := 0x1f03) rfl (by decide) rfl) (a := 0) (n := 31) rfl rfl rfl ?_
      refine g_loadI act (gx gp_76 (w := 0x1002002) rfl (by decide) rfl) (a := 1) (n := 32) rfl rfl rfl ?_
      refine g_loadI act (gx gp_76 (w := 0x2002102) rfl (by decide) rfl) (a := 2) (n := 33) rfl rfl rfl ?_
      refine n_call tb_pres act hEnd (gx (P := G_call) gp_76 (w := 0x2000000000000c1c3300004a00240f) rfl (by decide) rfl) (d' := D_74) rfl (f' := 0) (lam' := 0) (mc := 0) (ms := 0) (as := [.ref b, .int i9, .int j9]) (rest := [.int (j9 + (1 : Int32)), .ref (b + (13 + (i + 1)))]) (cx_cof (i := i) (j := j) hF hM hB hi hjv (by omega) (by omega)) (show (3 : Nat) = fb 0x2000000000000c1c3300004a00240f % 16 by decide) (by show (3 : Nat) ≤ 7; decide) (fun _ => ⟨_, _, rfl, _, shp_at hF.2.1, Or.inr (show fb 0x2000000000000c1c3300004a00240f >>> 68 = 2 by decide)⟩) (by omega) (by show 8 + (7 + 11) + 0 ≤ R.locals; omega) (by show (2 : Nat) ≤ 8; decide) (by show kc + 0 ≤ _; omega) (by show ks + 0 ≤ _; omega) (fun r9 h3 hpo hr9 => ?_) (fun x9 hs9 hx9 hpo => ?_)
      · obtain ⟨-, rfl, xc_3, rfl, ec_3⟩ := hpo
        show WpN (gp g0 wp) CLS p l e R sW m args below meth cW Q D_76.2.2.1 kc0 ks0 36 [some (.ref b), some (.int i9), some (.int j9)] (hj, kc, ks) [.long xc_3, .int (j9 + (1 : Int32)), .ref (b + (13 + (i + 1)))]
        refine r_last act (gx gp_76 (w := 0x2505) rfl (by decide) rfl) (n := 37) (N := 4) (j := (j + 1)) rfl (hF.2.2.2.2.2.2 (i + 1) (by omega)).2 v_2 (show (j + 1) < 4 by omega) ?_
        have f_4 := hF.wr (k := (b + (13 + (i + 1)))) (j := (j + 1)) (v := .long xc_3) (by unfold WFr; omega)
        have f_5 := hM.ne (k := (b + (13 + (i + 1)))) (j := (j + 1)) (v := .long xc_3) (by omega)
        have f_6 := (rd_ne hj (k := (b + (13 + (i + 1)))) (j := (j + 1)) (.long xc_3) (Or.inl (by omega))).trans hT
        have fr_7 := hfr.wr (k := (b + (13 + (i + 1)))) (j := (j + 1)) (.long xc_3) (by unfold WFr; omega)
        clear hF hM hT hfr
        generalize (wr hj (b + (13 + (i + 1))) (j + 1) (.long xc_3)) = hs_8 at *
        refine g_iinc act (gx gp_76 (w := 0x80000001000002002809) rfl (by decide) rfl) (a := 2) (i := (1 : Int32)) (n := 40) rfl (by decide) rfl rfl (L2 := [some (.ref b), some (.int i9), some (.int (j9 + (1 : Int32)))]) rfl ?_
        have v_9 := iv_addN hjv (show (1 : Int32).toInt = ((1 : Nat) : Int) from by decide) (show (j + 1) < 2147483648 by omega)
        refine g_goto act (gx gp_76 (w := 0xe07) rfl (by decide) rfl) (n := 14) rfl ?_
        exact ih _ (by omega) _ (j + 1) _ (by omega) v_9 f_4 f_5 f_6 fr_7 rfl
      · exact absurd hpo.1 (by omega)
  have out : ∀ (hj : List CE) (i : Nat) (i9 : Int32) (t9 : Int64) (w : Option Value), i ≤ 3 → i9.toInt = (i : Int) → t9.toInt = tsum M i → FLS hj b → LAP hj b M → rd hj b 0 = .long t9 → FrS (WFr b) hs hj → WpN (gp g0 wp) CLS p l e R sW m args below meth cW Q D_76.2.2.1 kc0 ks0 7 [some (.ref b), some (.int i9), w] (hj, kc, ks) [] := by
    intro hj i i9 t9 w hi3 hi ht hF hM hT hfr
    generalize hm : 3 - i = m9
    induction m9 using Nat.strongRecOn generalizing hj i i9 t9 w with
    | _ m9 ih =>
    have hb0 := hF.1
    subst hm
    refine g_loadI act (gx gp_76 (w := 0x1000802) rfl (by decide) rfl) (a := 1) (n := 8) rfl rfl rfl ?_
    refine g_constI act (gx gp_76 (w := 0x40000001c00000019000000000901) rfl (by decide) rfl) (n := 9) (x := (3 : Int32)) (by decide) rfl ?_
    refine g_icmpGe act (gx gp_76 (w := 0x49000c08) rfl (by decide) rfl) (tgt := 73) (n := 12) rfl rfl (fun h3 => ?_) (fun h3 => ?_)
    · simp only [i_le, show (3 : Int32).toInt = 3 from by decide] at h3
      exact g_retV hEnd (gx gp_76 (w := 0x18) rfl (by decide) rfl) ⟨rfl, rfl, hF, ⟨t9, hT, by rw [ht, show i = 3 by omega]; rfl⟩, hfr⟩ hk1 hk2
    · simp only [i_le, show (3 : Int32).toInt = 3 from by decide] at h3
      refine g_constI act (gx gp_76 (w := 0x40000000400000001000000000d01) rfl (by decide) rfl) (n := 13) (x := (0 : Int32)) (by decide) rfl ?_
      refine g_storeI act (gx gp_76 (w := 0x2000e10) rfl (by decide) rfl) (a := 2) (n := 14) rfl rfl (L2 := [some (.ref b), some (.int i9), some (.int (0 : Int32))]) rfl ?_
      refine inn i i9 t9 (by omega) hi (fun h2 w2 hF2 hM2 hT2 hfr2 => ?_) hj 0 _ (by omega) (by decide) hF hM hT hfr
      have hb0 := hF2.1
      have hts := tsum_bd hB i
      refine g_loadA act (gx gp_76 (w := 0x2c03) rfl (by decide) rfl) (a := 0) (n := 44) rfl rfl rfl ?_
      refine g_dup act (gx gp_76 (w := 0x2d22) rfl (by decide) rfl) (n := 45) rfl rfl ?_
      refine r_getf act (gx gp_76 (w := 0x2000001003004) rfl (by decide) rfl) (n := 48) (ci := 1) (j := 0) (N := 4) rfl rfl rfl hF2.2.1 (by decide) (v := .long t9) hT2 ?_
      refine g_loadA act (gx gp_76 (w := 0x3103) rfl (by decide) rfl) (a := 0) (n := 49) rfl rfl rfl ?_
      refine r_getf act (gx gp_76 (w := 0x3000081003404) rfl (by decide) rfl) (n := 52) (ci := 1) (j := 2) (N := 4) rfl rfl rfl hF2.2.1 (by decide) (v := .ref (b + 8)) hF2.2.2.1.2.1 ?_
      refine g_constI act (gx gp_76 (w := 0x40000000400000001000000003501) rfl (by decide) rfl) (n := 53) (x := (0 : Int32)) (by decide) rfl ?_
      refine r_aald act (gx gp_76 (w := 0x3612) rfl (by decide) rfl) (n := 54) (N := 3) (j := 0) rfl hF2.2.2.2.1.2.1 (by decide) (show (0 : Int32).toInt = ((0 : Nat) : Int) from by decide) (show 0 < 3 by omega) (v := .ref (b + (9 + 0))) (hF2.2.2.2.2.2.1 0 (by omega)).1 ?_
      refine g_loadI act (gx gp_76 (w := 0x1003702) rfl (by decide) rfl) (a := 1) (n := 55) rfl rfl rfl ?_
      obtain ⟨x_10, e_11, hx_12⟩ := hM2 0 i (by omega) (by omega)
      refine r_lald act (gx gp_76 (w := 0x380d) rfl (by decide) rfl) (n := 56) (N := 3) (j := i) rfl (hF2.2.2.2.2.2.1 0 (by omega)).2 hi (show i < 3 by omega) (v := .long x_10) e_11 ?_
      refine g_loadA act (gx gp_76 (w := 0x3903) rfl (by decide) rfl) (a := 0) (n := 57) rfl rfl rfl ?_
      refine g_constI act (gx gp_76 (w := 0x40000000400000001000000003a01) rfl (by decide) rfl) (n := 58) (x := (0 : Int32)) (by decide) rfl ?_
      refine g_loadI act (gx gp_76 (w := 0x1003b02) rfl (by decide) rfl) (a := 1) (n := 59) rfl rfl rfl ?_
      refine n_call tb_pres act hEnd (gx (P := G_call) gp_76 (w := 0x2000000000000c1c3300004a003e0f) rfl (by decide) rfl) (d' := D_74) rfl (f' := 0) (lam' := 0) (mc := 0) (ms := 0) (as := [.ref b, .int (0 : Int32), .int i9]) (rest := [.long x_10, .long t9, .ref b]) (cx_cof (i := 0) (j := i) hF2 hM2 hB (show (0 : Int32).toInt = ((0 : Nat) : Int) from by decide) hi (by omega) (by omega)) (show (3 : Nat) = fb 0x2000000000000c1c3300004a003e0f % 16 by decide) (by show (3 : Nat) ≤ 7; decide) (fun _ => ⟨_, _, rfl, _, shp_at hF2.2.1, Or.inr (show fb 0x2000000000000c1c3300004a003e0f >>> 68 = 2 by decide)⟩) (by omega) (by show 8 + (7 + 11) + 0 ≤ R.locals; omega) (by show (5 : Nat) ≤ 8; decide) (by show kc + 0 ≤ _; omega) (by show ks + 0 ≤ _; omega) (fun r9 h3 hpo hr9 => ?_) (fun x9 hs9 hx9 hpo => ?_)
      · obtain ⟨-, rfl, xc_13, rfl, ec_13⟩ := hpo
        show WpN (gp g0 wp) CLS p l e R sW m args below meth cW Q D_76.2.2.1 kc0 ks0 62 [some (.ref b), some (.int i9), w2] (h2, kc, ks) [.long xc_13, .long x_10, .long t9, .ref b]
        refine g_lmul act (gx gp_76 (w := 0x3f15) rfl (by decide) rfl) (n := 63) rfl ?_
        have hml := lw_mulB (a := M 0 i) (b := cof3 M 0 i) (A := 25) (B := 1250) hx_12 ec_13 (by have q9 := hB 0 i; omega) (by have q9 := cof3_bd hB 0 i; omega) (by decide) (by decide)
        have qml := Nat.le_trans hml.2 (show (25 : Int).toNat * (1250 : Int).toNat ≤ 31250 by decide)
        refine g_ladd act (gx gp_76 (w := 0x401f) rfl (by decide) rfl) (n := 64) rfl ?_
        have hsum : (t9 + (x_10 * xc_13)).toInt = tsum M (i + 1) := lw_add ht hml.1 (by omega) (by omega)
        refine r_putf act (gx gp_76 (w := 0x2000001004313) rfl (by decide) rfl) (n := 67) (ci := 1) (j := 0) (N := 4) rfl rfl rfl hF2.2.1 (by decide) (Or.inr (Or.inr (Or.inl ⟨rfl, _, rfl⟩))) ?_
        have f_14 := hF2.wr (k := b) (j := 0) (v := .long (t9 + (x_10 * xc_13))) (by unfold WFr; omega)
        have f_15 := hM2.ne (k := b) (j := 0) (v := .long (t9 + (x_10 * xc_13))) (by omega)
        have f_17 := rd_same (j := 0) (v := .long (t9 + (x_10 * xc_13))) hF2.2.1
        have fr_18 := hfr2.wr (k := b) (j := 0) (.long (t9 + (x_10 * xc_13))) (by unfold WFr; omega)
        clear hF2 hM2 hT2 hfr2
        generalize (wr h2 b 0 (.long (t9 + (x_10 * xc_13)))) = hs_19 at *
        refine g_iinc act (gx gp_76 (w := 0x80000001000001004609) rfl (by decide) rfl) (a := 1) (i := (1 : Int32)) (n := 70) rfl (by decide) rfl rfl (L2 := [some (.ref b), some (.int (i9 + (1 : Int32))), w2]) rfl ?_
        have v_20 := iv_addN hi (show (1 : Int32).toInt = ((1 : Nat) : Int) from by decide) (show (i + 1) < 2147483648 by omega)
        refine g_goto act (gx gp_76 (w := 0x707) rfl (by decide) rfl) (n := 7) rfl ?_
        exact ih _ (by omega) _ (i + 1) _ _ _ (by omega) v_20 hsum f_14 f_15 f_17 fr_18 rfl
      · exact absurd hpo.1 (by omega)
  show WpN (gp g0 wp) CLS p l e R sW m args below meth cW Q D_76.2.2.1 kc0 ks0 0 [some (.ref b), none, none] (hs, kc, ks) []
  refine g_loadA act (gx gp_76 (w := 0x103) rfl (by decide) rfl) (a := 0) (n := 1) rfl rfl rfl ?_
  refine g_constL act (gx gp_76 (w := 0x40000000000000002000000000201) rfl (by decide) rfl) (n := 2) (x := 0) (by decide) rfl ?_
  refine r_putf act (gx gp_76 (w := 0x2000001000513) rfl (by decide) rfl) (n := 5) (ci := 1) (j := 0) (N := 4) rfl rfl rfl hF.2.1 (by decide) (Or.inr (Or.inr (Or.inl ⟨rfl, _, rfl⟩))) ?_
  have f_1 := hF.wr (k := b) (j := 0) (v := .long (0 : Int64)) (by unfold WFr; omega)
  have f_2 := hM.ne (k := b) (j := 0) (v := .long (0 : Int64)) (by omega)
  have f_3 := rd_same (j := 0) (v := .long (0 : Int64)) hF.2.1
  have fr_4 := hfr0.wr (k := b) (j := 0) (.long (0 : Int64)) (by unfold WFr; omega)
  clear hF hM hfr0
  generalize (wr hs b 0 (.long (0 : Int64))) = hs_5 at *
  refine g_constI act (gx gp_76 (w := 0x40000000400000001000000000601) rfl (by decide) rfl) (n := 6) (x := (0 : Int32)) (by decide) rfl ?_
  refine g_storeI act (gx gp_76 (w := 0x1000710) rfl (by decide) rfl) (a := 1) (n := 7) rfl rfl (L2 := [some (.ref b), some (.int (0 : Int32)), none]) rfl ?_
  exact out _ 0 _ _ _ (by omega) (by decide) (show (0 : Int64).toInt = 0 by decide) f_1 f_2 f_3 fr_4

variable {g nl : Nat} {F : Nat → Nat → Int32} {fv gv : Nat → Int} {o z : Int} {z9 : Int32}
theorem cx_cmp (hF : FLS hs b) (hG : GIM hs g F) (hR : REL F fv gv o) (hbg : b + 16 < g ∨ g + 16 < b) (hz : z9.toInt = z) (hnl2 : fv 2 = (nl : Int)) (hl6 : nl ≤ 6) (hn2 : 2 ≤ fv 0) (hn4 : fv 0 ≤ 4) (hr : ∀ l, l < nl → 0 ≤ fv (5 + l) ∧ fv (5 + l) ≤ fv 0 - 1 ∧ 0 ≤ fv (11 + l) ∧ fv (11 + l) ≤ fv 0 - 1 ∧ fv (5 + l) ≠ fv (11 + l)) : BodyN SSX TBL g0 CLS bl xs l D_75 2 48 0 0 [.ref b, .ref g, .int z9] hs (fun kd r h2 => kd = 0 ∧ r = none ∧ FLS h2 b ∧ (∃ t : Int64, rd h2 b 0 = .long t ∧ t.toInt = det3 (mT fv (fv 0) z nl)) ∧ FrS (WFr b) hs h2) := by
  intro wp p e R sW m args below meth cW Q kc0 ks0 kc ks act hf hl hc hsl hEnd
  have hf : 2 ≤ R.frames := hf
  have hl : 48 ≤ R.locals := hl
  have hfr0 := FrS.rf (WFr b) hs
  have hb0 := hF.1
  have hg0 := hG.1.1
  have hnl : (F 0 2).toInt = (nl : Int) := hR.2.2.1.trans hnl2
  have hk1 : kc ≤ kc + 0 := by omega
  have hk2 : ks ≤ ks + 0 := by omega
  have l1 : (∀ (hj : List CE) (i9 : Int32), FLS hj b → LAP hj b (mT fv (fv 0) z nl) → GIM hj g F → FrS (WFr b) hs hj → WpN (gp g0 wp) CLS p l e R sW m args below meth cW Q D_75.2.2.1 kc0 ks0 49 [some (.ref b), some (.ref g), some (.int z9), some (.int i9), none, none, none] (hj, kc, ks) []) → ∀ (hj : List CE) (i : Nat) (i9 : Int32), i ≤ nl → i9.toInt = (i : Int) → FLS hj b → LAP hj b (mT fv (fv 0) z i) → GIM hj g F → FrS (WFr b) hs hj → WpN (gp g0 wp) CLS p l e R sW m args below meth cW Q D_75.2.2.1 kc0 ks0 10 [some (.ref b), some (.ref g), some (.int z9), some (.int i9), none, none, none] (hj, kc, ks) [] := by
    intro K hj i i9 hi3 hi hF hM hG hfr
    generalize hm : nl - i = m9
    induction m9 using Nat.strongRecOn generalizing hj i i9 with
    | _ m9 ih =>
    have hb0 := hF.1
    have hg0 := hG.1.1
    have hq0 := hR.1
    subst hm
    refine g_loadI act (gx gp_75 (w := 0x3000b02) rfl (by decide) rfl) (a := 3) (n := 11) rfl rfl rfl ?_
    refine g_loadA act (gx gp_75 (w := 0x1000c03) rfl (by decide) rfl) (a := 1) (n := 12) rfl rfl rfl ?_
    refine r_getf act (gx gp_75 (w := 0x84000f04) rfl (by decide) rfl) (n := 15) (ci := 4) (j := 2) (N := 18) rfl rfl rfl hG.1.2.1 (by decide) (v := .int (F 0 2)) (hG.2 0 2 (Or.inl ⟨rfl, by decide⟩)) ?_
    refine g_icmpGe act (gx gp_75 (w := 0x31001208) rfl (by decide) rfl) (tgt := 49) (n := 18) rfl rfl (fun h3 => ?_) (fun h3 => ?_)
    · simp only [i_le] at h3
      exact K _ _ hF (by rw [← (show i = nl by omega)]; exact hM) hG hfr
    · simp only [i_le] at h3
      have hq1 : (F 1 i).toInt = fv (5 + i) := hR.2.2.2.2.2.2.1 i (by omega)
      have hq2 : (F 2 i).toInt = fv (11 + i) := hR.2.2.2.2.2.2.2.1 i (by omega)
      obtain ⟨r1, r2, r3, r4, r5⟩ := hr i (by omega)
      refine g_loadI act (gx gp_75 (w := 0x3001302) rfl (by decide) rfl) (a := 3) (n := 19) rfl rfl rfl ?_
      refine g_loadI act (gx gp_75 (w := 0x2001402) rfl (by decide) rfl) (a := 2) (n := 20) rfl rfl rfl ?_
      refine g_icmpEq act (gx gp_75 (w := 0x2b00172e) rfl (by decide) rfl) (tgt := 43) (n := 23) rfl rfl (fun h5 => ?_) (fun h5 => ?_)
      · simp only [i_eq] at h5
        refine g_iinc act (gx gp_75 (w := 0x80000001000003002e09) rfl (by decide) rfl) (a := 3) (i := (1 : Int32)) (n := 46) rfl (by decide) rfl rfl (L2 := [some (.ref b), some (.ref g), some (.int z9), some (.int (i9 + (1 : Int32))), none, none, none]) rfl ?_
        have v_1 := iv_addN hi (show (1 : Int32).toInt = ((1 : Nat) : Int) from by decide) (show (i + 1) < 2147483648 by omega)
        refine g_goto act (gx gp_75 (w := 0xa07) rfl (by decide) rfl) (n := 10) rfl ?_
        exact ih _ (by omega) _ (i + 1) _ (by omega) v_1 hF (show LAP _ b (mT fv (fv 0) z (i + 1)) from hM.cong (fun i7 j7 _ _ => if_pos (by omega))) hG hfr rfl
      · simp only [i_eq] at h5
        refine g_loadA act (gx gp_75 (w := 0x1803) rfl (by decide) rfl) (a := 0) (n := 24) rfl rfl rfl ?_
        refine g_loadA act (gx gp_75 (w := 0x1001903) rfl (by decide) rfl) (a := 1) (n := 25) rfl rfl rfl ?_
        refine r_getf act (gx gp_75 (w := 0x3000184001c04) rfl (by decide) rfl) (n := 28) (ci := 4) (j := 6) (N := 18) rfl rfl rfl hG.1.2.1 (by decide) (v := .ref (g + 1)) (hG.1.2.2.1 (6, 1, 32, 6) (by decide)).1 ?_
        refine g_loadI act (gx gp_75 (w := 0x3001d02) rfl (by decide) rfl) (a := 3) (n := 29) rfl rfl rfl ?_
        refine r_iald act (gx gp_75 (w := 0x1e1a) rfl (by decide) rfl) (n := 30) (j := i) (N := 6) rfl (hG.1.2.2.1 (6, 1, 32, 6) (by decide)).2 hi (show i < 6 by omega) (v := .int (F 1 i)) (hG.2 1 i (Or.inr (Or.inl ⟨by decide, by decide, by omega⟩))) ?_
        refine g_constI act (gx gp_75 (w := 0x40000000c00000009000000001f01) rfl (by decide) rfl) (n := 31) (x := (1 : Int32)) (by decide) rfl ?_
        refine g_isub act (gx gp_75 (w := 0x2026) rfl (by decide) rfl) (n := 32) rfl ?_
        have v_2 := iv_sub hq1 (show (1 : Int32).toInt = ((1 : Nat) : Int) from by decide) (show -2147483648 ≤ ((fv (5 + i)) - ((1 : Nat) : Int)) by omega) (show ((fv (5 + i)) - ((1 : Nat) : Int)) < 2147483648 by omega)
        refine g_loadA act (gx gp_75 (w := 0x1002103) rfl (by decide) rfl) (a := 1) (n := 33) rfl rfl rfl ?_
        refine r_getf act (gx gp_75 (w := 0x30001c4002404) rfl (by decide) rfl) (n := 36) (ci := 4) (j := 7) (N := 18) rfl rfl rfl hG.1.2.1 (by decide) (v := .ref (g + 2)) (hG.1.2.2.1 (7, 2, 32, 6) (by decide)).1 ?_
        refine g_loadI act (gx gp_75 (w := 0x3002502) rfl (by decide) rfl) (a := 3) (n := 37) rfl rfl rfl ?_
        refine r_iald act (gx gp_75 (w := 0x261a) rfl (by decide) rfl) (n := 38) (j := i) (N := 6) rfl (hG.1.2.2.1 (7, 2, 32, 6) (by decide)).2 hi (show i < 6 by omega) (v := .int (F 2 i)) (hG.2 2 i (Or.inr (Or.inl ⟨by decide, by decide, by omega⟩))) ?_
        refine g_constI act (gx gp_75 (w := 0x40000000c00000009000000002701) rfl (by decide) rfl) (n := 39) (x := (1 : Int32)) (by decide) rfl ?_
        refine g_isub act (gx gp_75 (w := 0x2826) rfl (by decide) rfl) (n := 40) rfl ?_
        have v_3 := iv_sub hq2 (show (1 : Int32).toInt = ((1 : Nat) : Int) from by decide) (show -2147483648 ≤ ((fv (11 + i)) - ((1 : Nat) : Int)) by omega) (show ((fv (11 + i)) - ((1 : Nat) : Int)) < 2147483648 by omega)
        refine n_call tb_pres act hEnd (gx (P := G_call) gp_75 (w := 0x200000000000080c33000048002b0f) rfl (by decide) rfl) (d' := D_72) rfl (f' := 0) (lam' := 0) (mc := 0) (ms := 0) (as := [.ref b, .int ((F 1 i) - (1 : Int32)), .int ((F 2 i) - (1 : Int32))]) (rest := []) (cx_addM (a := fv (5 + i) - 1) (c := fv (11 + i) - 1) (B := 1 + 2 * (i : Int)) hF hM (mT_bd i) (by omega) (by omega) (by have q9 := v_2; omega) (by have q9 := v_3; omega) (by omega) (by omega) (by omega) (by omega) (by omega)) (show (3 : Nat) = fb 0x200000000000080c33000048002b0f % 16 by decide) (by show (3 : Nat) ≤ 3; decide) (fun _ => ⟨_, _, rfl, _, shp_at hF.2.1, Or.inr (show fb 0x200000000000080c33000048002b0f >>> 68 = 2 by decide)⟩) (by omega) (by show 8 + (3 + 11) + 0 ≤ R.locals; omega) (by show (0 : Nat) ≤ 8; decide) (by show kc + 0 ≤ _; omega) (by show ks + 0 ≤ _; omega) (fun r9 hs_c4 hpo hr9 => ?_) (fun x9 hs9 hx9 hpo => ?_)
        · obtain rfl : r9 = none := hr9.elim (fun q => q.2) (fun q => absurd rfl q.1)
          obtain ⟨-, -, hF_c4, hM_c4, fr_c4⟩ := hpo
          have f_7 := hG.frF fr_c4 (fun k9 j9 h9 => by unfold WFr at h9; omega)
          have fr_8 := hfr.tr fr_c4
          clear hF hM hG hfr
          show WpN (gp g0 wp) CLS p l e R sW m args below meth cW Q D_75.2.2.1 kc0 ks0 43 [some (.ref b), some (.ref g), some (.int z9), some (.int i9), none, none, none] (hs_c4, kc, ks) []
          refine g_iinc act (gx gp_75 (w := 0x80000001000003002e09) rfl (by decide) rfl) (a := 3) (i := (1 : Int32)) (n := 46) rfl (by decide) rfl rfl (L2 := [some (.ref b), some (.ref g), some (.int z9), some (.int (i9 + (1 : Int32))), none, none, none]) rfl ?_
          have v_9 := iv_addN hi (show (1 : Int32).toInt = ((1 : Nat) : Int) from by decide) (show (i + 1) < 2147483648 by omega)
          refine g_goto act (gx gp_75 (w := 0xa07) rfl (by decide) rfl) (n := 10) rfl ?_
          exact ih _ (by omega) _ (i + 1) _ (by omega) v_9 hF_c4 (show LAP _ b (mT fv (fv 0) z (i + 1)) from hM_c4.cong (fun i7 j7 _ _ => if_neg (by omega))) f_7 fr_8 rfl
        · exact absurd hpo.1 (by omega)
  show WpN (gp g0 wp) CLS p l e R sW m args below meth cW Q D_75.2.2.1 kc0 ks0 0 [some (.ref b), some (.ref g), some (.int z9), none, none, none, none] (hs, kc, ks) []
  refine g_loadA act (gx gp_75 (w := 0x103) rfl (by decide) rfl) (a := 0) (n := 1) rfl rfl rfl ?_
  refine g_loadA act (gx gp_75 (w := 0x1000203) rfl (by decide) rfl) (a := 1) (n := 2) rfl rfl rfl ?_
  refine r_getf act (gx gp_75 (w := 0x4000504) rfl (by decide) rfl) (n := 5) (ci := 4) (j := 0) (N := 18) rfl rfl rfl hG.1.2.1 (by decide) (v := .int (F 0 0)) (hG.2 0 0 (Or.inl ⟨rfl, by decide⟩)) ?_
  refine n_call tb_pres act hEnd (gx (P := G_call) gp_75 (w := 0x20000000000008102200004900080f) rfl (by decide) rfl) (d' := D_73) rfl (f' := 0) (lam' := 0) (mc := 0) (ms := 0) (as := [.ref b, .int (F 0 0)]) (rest := []) (cx_clr (nd := fv 0) hF hR.1 (by omega) (by omega)) (show (2 : Nat) = fb 0x20000000000008102200004900080f % 16 by decide) (by show (2 : Nat) ≤ 4; decide) (fun _ => ⟨_, _, rfl, _, shp_at hF.2.1, Or.inr (show fb 0x20000000000008102200004900080f >>> 68 = 2 by decide)⟩) (by omega) (by show 8 + (4 + 11) + 0 ≤ R.locals; omega) (by show (0 : Nat) ≤ 8; decide) (by show kc + 0 ≤ _; omega) (by show ks + 0 ≤ _; omega) (fun r9 hs_c1 hpo hr9 => ?_) (fun x9 hs9 hx9 hpo => ?_)
  · obtain rfl : r9 = none := hr9.elim (fun q => q.2) (fun q => absurd rfl q.1)
    obtain ⟨-, -, hF_c1, hM_c1, fr_c1⟩ := hpo
    have f_3 := hG.frF fr_c1 (fun k9 j9 h9 => by unfold WFr at h9; omega)
    have fr_4 := hfr0.tr fr_c1
    clear hF hG hfr0
    show WpN (gp g0 wp) CLS p l e R sW m args below meth cW Q D_75.2.2.1 kc0 ks0 8 [some (.ref b), some (.ref g), some (.int z9), none, none, none, none] (hs_c1, kc, ks) []
    refine g_constI act (gx gp_75 (w := 0x40000000400000001000000000901) rfl (by decide) rfl) (n := 9) (x := (0 : Int32)) (by decide) rfl ?_
    refine g_storeI act (gx gp_75 (w := 0x3000a10) rfl (by decide) rfl) (a := 3) (n := 10) rfl rfl (L2 := [some (.ref b), some (.ref g), some (.int z9), some (.int (0 : Int32)), none, none, none]) rfl ?_
    exact l1 (fun hj i9 hF hM hG hfr => by
      have hb0 := hF.1
      have hg0 := hG.1.1
      refine g_loadA act (gx gp_75 (w := 0x3203) rfl (by decide) rfl) (a := 0) (n := 50) rfl rfl rfl ?_
      refine n_call tb_pres act hEnd (gx (P := G_call) gp_75 (w := 0x200000000000080c1100004c00350f) rfl (by decide) rfl) (d' := D_76) rfl (f' := 1) (lam' := 26) (mc := 0) (ms := 0) (as := [.ref b]) (rest := []) (cx_ang hF hM ((mT_bd nl).mono (by omega))) (show (1 : Nat) = fb 0x200000000000080c1100004c00350f % 16 by decide) (by show (1 : Nat) ≤ 3; decide) (fun _ => ⟨_, _, rfl, _, shp_at hF.2.1, Or.inr (show fb 0x200000000000080c1100004c00350f >>> 68 = 2 by decide)⟩) (by omega) (by show 8 + (3 + 11) + 26 ≤ R.locals; omega) (by show (0 : Nat) ≤ 8; decide) (by show kc + 0 ≤ _; omega) (by show ks + 0 ≤ _; omega) (fun r9 hs_c1 hpo hr9 => ?_) (fun x9 hs9 hx9 hpo => ?_)
      · obtain rfl : r9 = none := hr9.elim (fun q => q.2) (fun q => absurd rfl q.1)
        obtain ⟨-, -, hF_c1, ⟨t_c1, hT_c1, ht_c1⟩, fr_c1⟩ := hpo
        have f_4 := hG.frF fr_c1 (fun k9 j9 h9 => by unfold WFr at h9; omega)
        have fr_5 := hfr.tr fr_c1
        clear hF hM hG hfr
        show WpN (gp g0 wp) CLS p l e R sW m args below meth cW Q D_75.2.2.1 kc0 ks0 53 [some (.ref b), some (.ref g), some (.int z9), some (.int i9), none, none, none] (hs_c1, kc, ks) []
        refine g_constI act (gx gp_75 (w := 0x40000000400000001000000003601) rfl (by decide) rfl) (n := 54) (x := (0 : Int32)) (by decide) rfl ?_
        refine g_storeI act (gx gp_75 (w := 0x3003710) rfl (by decide) rfl) (a := 3) (n := 55) rfl rfl (L2 := [some (.ref b), some (.ref g), some (.int z9), some (.int (0 : Int32)), none, none, none]) rfl ?_
        have hk3 : True := trivial
        have inn : ∀ (i : Nat) (i9 : Int32), i < nl → i9.toInt = (i : Int) → (∀ (hj : List CE) (w4 w5 w6 : Option Value), FLS hj b → rd hj b 0 = .long t_c1 → GIM hj g F → FrS (WFr b) hs hj → WpN (gp g0 wp) CLS p l e R sW m args below meth cW Q D_75.2.2.1 kc0 ks0 132 [some (.ref b), some (.ref g), some (.int z9), some (.int i9), w4, w5, w6] (hj, kc, ks) []) → ∀ (hj : List CE) (j : Nat) (j9 : Int32) (w5 w6 : Option Value), j ≤ 4 → j9.toInt = (j : Int) → FLS hj b → rd hj b 0 = .long t_c1 → GIM hj g F → FrS (WFr b) hs hj → WpN (gp g0 wp) CLS p l e R sW m args below meth cW Q D_75.2.2.1 kc0 ks0 66 [some (.ref b), some (.ref g), some (.int z9), some (.int i9), some (.int j9), w5, w6] (hj, kc, ks) [] := by
          intro i i9 hi3 hi K hj j j9 w5 w6 hj3 hjv hF hT hG hfr
          generalize hm : 4 - j = m9
          induction m9 using Nat.strongRecOn generalizing hj j j9 w5 w6 with
          | _ m9 ih =>
          have hb0 := hF.1
          have hg0 := hG.1.1
          have hq0 := hR.1
          subst hm
          refine g_loadI act (gx gp_75 (w := 0x4004402) rfl (by decide) rfl) (a := 4) (n := 68) rfl rfl rfl ?_
          refine g_loadA act (gx gp_75 (w := 0x1004503) rfl (by decide) rfl) (a := 1) (n := 69) rfl rfl rfl ?_
          refine r_getf act (gx gp_75 (w := 0x4004804) rfl (by decide) rfl) (n := 72) (ci := 4) (j := 0) (N := 18) rfl rfl rfl hG.1.2.1 (by decide) (v := .int (F 0 0)) (hG.2 0 0 (Or.inl ⟨rfl, by decide⟩)) ?_
          refine g_icmpGe act (gx gp_75 (w := 0x84004b08) rfl (by decide) rfl) (tgt := 132) (n := 75) rfl rfl (fun h3 => ?_) (fun h3 => ?_)
          · simp only [i_le] at h3
            exact K _ _ _ _ hF hT hG hfr
          · simp only [i_le] at h3
            have hq1 : (F 1 i).toInt = fv (5 + i) := hR.2.2.2.2.2.2.1 i (by omega)
            have hq2 : (F 2 i).toInt = fv (11 + i) := hR.2.2.2.2.2.2.2.1 i (by omega)
            obtain ⟨r1, r2, r3, r4, r5⟩ := hr i (by omega)
            refine g_loadA act (gx gp_75 (w := 0x4c03) rfl (by decide) rfl) (a := 0) (n := 76) rfl rfl rfl ?_
            refine r_getf act (gx gp_75 (w := 0x30000c1004f04) rfl (by decide) rfl) (n := 79) (ci := 1) (j := 3) (N := 4) rfl rfl rfl hF.2.1 (by decide) (v := .ref (b + 12)) hF.2.2.1.2.2 ?_
            refine g_loadA act (gx gp_75 (w := 0x1005003) rfl (by decide) rfl) (a := 1) (n := 80) rfl rfl rfl ?_
            refine r_getf act (gx gp_75 (w := 0x3000184005304) rfl (by decide) rfl) (n := 83) (ci := 4) (j := 6) (N := 18) rfl rfl rfl hG.1.2.1 (by decide) (v := .ref (g + 1)) (hG.1.2.2.1 (6, 1, 32, 6) (by decide)).1 ?_
            refine g_loadI act (gx gp_75 (w := 0x3005402) rfl (by decide) rfl) (a := 3) (n := 84) rfl rfl rfl ?_
            refine r_iald act (gx gp_75 (w := 0x551a) rfl (by decide) rfl) (n := 85) (j := i) (N := 6) rfl (hG.1.2.2.1 (6, 1, 32, 6) (by decide)).2 hi (show i < 6 by omega) (v := .int (F 1 i)) (hG.2 1 i (Or.inr (Or.inl ⟨by decide, by decide, by omega⟩))) ?_
            obtain ⟨j_1, hj_1⟩ := Int.eq_ofNat_of_zero_le (show (0 : Int) ≤ (fv (5 + i)) by omega)
            refine r_aald act (gx gp_75 (w := 0x5612) rfl (by decide) rfl) (n := 86) (N := 4) (j := j_1) rfl hF.2.2.2.1.2.2 (by decide) (hq1.trans hj_1) (show j_1 < 4 by omega) (v := .ref (b + (13 + j_1))) (hF.2.2.2.2.2.2 j_1 (by omega)).1 ?_
            refine g_loadI act (gx gp_75 (w := 0x4005802) rfl (by decide) rfl) (a := 4) (n := 88) rfl rfl rfl ?_
            refine n_longs (h := (hj, kc, ks)) (hF.2.2.2.2.2.2 j_1 (by omega)).2 (fun hl_x_2 => ?_)
            obtain ⟨x_2, e_3⟩ := hl_x_2 j (by omega)
            refine r_lald act (gx gp_75 (w := 0x590d) rfl (by decide) rfl) (n := 89) (N := 4) (j := j) rfl (hF.2.2.2.2.2.2 j_1 (by omega)).2 hjv (show j < 4 by omega) (v := .long x_2) e_3 ?_
            refine g_loadA act (gx gp_75 (w := 0x5a03) rfl (by decide) rfl) (a := 0) (n := 90) rfl rfl rfl ?_
            refine r_getf act (gx gp_75 (w := 0x30000c1005d04) rfl (by decide) rfl) (n := 93) (ci := 1) (j := 3) (N := 4) rfl rfl rfl hF.2.1 (by decide) (v := .ref (b + 12)) hF.2.2.1.2.2 ?_
            refine g_loadA act (gx gp_75 (w := 0x1005e03) rfl (by decide) rfl) (a := 1) (n := 94) rfl rfl rfl ?_
            refine r_getf act (gx gp_75 (w := 0x30001c4006104) rfl (by decide) rfl) (n := 97) (ci := 4) (j := 7) (N := 18) rfl rfl rfl hG.1.2.1 (by decide) (v := .ref (g + 2)) (hG.1.2.2.1 (7, 2, 32, 6) (by decide)).1 ?_
            refine g_loadI act (gx gp_75 (w := 0x3006202) rfl (by decide) rfl) (a := 3) (n := 98) rfl rfl rfl ?_
            refine r_iald act (gx gp_75 (w := 0x631a) rfl (by decide) rfl) (n := 99) (j := i) (N := 6) rfl (hG.1.2.2.1 (7, 2, 32, 6) (by decide)).2 hi (show i < 6 by omega) (v := .int (F 2 i)) (hG.2 2 i (Or.inr (Or.inl ⟨by decide, by decide, by omega⟩))) ?_
            obtain ⟨j_4, hj_4⟩ := Int.eq_ofNat_of_zero_le (show (0 : Int) ≤ (fv (11 + i)) by omega)
            refine r_aald act (gx gp_75 (w := 0x6412) rfl (by decide) rfl) (n := 100) (N := 4) (j := j_4) rfl hF.2.2.2.1.2.2 (by decide) (hq2.trans hj_4) (show j_4 < 4 by omega) (v := .ref (b + (13 + j_4))) (hF.2.2.2.2.2.2 j_4 (by omega)).1 ?_
            refine g_loadI act (gx gp_75 (w := 0x4006602) rfl (by decide) rfl) (a := 4) (n := 102) rfl rfl rfl ?_
            refine n_longs (h := (hj, kc, ks)) (hF.2.2.2.2.2.2 j_4 (by omega)).2 (fun hl_x_5 => ?_)
            obtain ⟨x_5, e_6⟩ := hl_x_5 j (by omega)
            refine r_lald act (gx gp_75 (w := 0x670d) rfl (by decide) rfl) (n := 103) (N := 4) (j := j) rfl (hF.2.2.2.2.2.2 j_4 (by omega)).2 hjv (show j < 4 by omega) (v := .long x_5) e_6 ?_
            refine g_lsub act (gx gp_75 (w := 0x681e) rfl (by decide) rfl) (n := 104) rfl ?_
            refine g_storeL act (gx gp_75 (w := 0x5006a0b) rfl (by decide) rfl) (a := 5) (n := 106) rfl rfl (L2 := [some (.ref b), some (.ref g), some (.int z9), some (.int i9), some (.int j9), some (.long (x_2 - x_5)), none]) rfl ?_
            refine g_loadA act (gx gp_75 (w := 0x6b03) rfl (by decide) rfl) (a := 0) (n := 107) rfl rfl rfl ?_
            refine r_getf act (gx gp_75 (w := 0x3000041006e04) rfl (by decide) rfl) (n := 110) (ci := 1) (j := 1) (N := 4) rfl rfl rfl hF.2.1 (by decide) (v := .ref (b + 1)) hF.2.2.1.1 ?_
            refine g_loadI act (gx gp_75 (w := 0x3006f02) rfl (by decide) rfl) (a := 3) (n := 111) rfl rfl rfl ?_
            refine r_aald act (gx gp_75 (w := 0x7012) rfl (by decide) rfl) (n := 112) (N := 6) (j := i) rfl hF.2.2.2.1.1 (by decide) hi (show i < 6 by omega) (v := .ref (b + (2 + i))) (hF.2.2.2.2.1 i (by omega)).1 ?_
            refine g_loadI act (gx gp_75 (w := 0x4007202) rfl (by decide) rfl) (a := 4) (n := 114) rfl rfl rfl ?_
            refine g_loadI act (gx gp_75 (w := 0x3007302) rfl (by decide) rfl) (a := 3) (n := 115) rfl rfl rfl ?_
            refine g_loadI act (gx gp_75 (w := 0x2007402) rfl (by decide) rfl) (a := 2) (n := 116) rfl rfl rfl ?_
            refine g_icmpNe act (gx gp_75 (w := 0x7b007721) rfl (by decide) rfl) (tgt := 123) (n := 119) rfl rfl (fun h17 => ?_) (fun h17 => ?_)
            · simp only [i_eq] at h17
              refine g_loadL act (gx gp_75 (w := 0x5007d06) rfl (by decide) rfl) (a := 5) (n := 125) rfl rfl rfl ?_
              refine r_last act (gx gp_75 (w := 0x7e05) rfl (by decide) rfl) (n := 126) (N := 4) (j := j) rfl (hF.2.2.2.2.1 i (by omega)).2 hjv (show j < 4 by omega) ?_
              have f_7 := hF.wr (k := (b + (2 + i))) (j := j) (v := .long (x_2 - x_5)) (by unfold WFr; omega)
              have f_8 := (rd_ne hj (k := (b + (2 + i))) (j := j) (.long (x_2 - x_5)) (Or.inl (by omega))).trans hT
              have f_9 := hG.nF (k := (b + (2 + i))) (j := j) (v := .long (x_2 - x_5)) (by omega)
              have fr_10 := hfr.wr (k := (b + (2 + i))) (j := j) (.long (x_2 - x_5)) (by unfold WFr; omega)
              clear hF hT hG hfr
              generalize (wr hj (b + (2 + i)) j (.long (x_2 - x_5))) = hs_11 at *
              refine g_iinc act (gx gp_75 (w := 0x80000001000004008109) rfl (by decide) rfl) (a := 4) (i := (1 : Int32)) (n := 129) rfl (by decide) rfl rfl (L2 := [some (.ref b), some (.ref g), some (.int z9), some (.int i9), some (.int (j9 + (1 : Int32))), some (.long (x_2 - x_5)), none]) rfl ?_
              have v_12 := iv_addN hjv (show (1 : Int32).toInt = ((1 : Nat) : Int) from by decide) (show (j + 1) < 2147483648 by omega)
              refine g_goto act (gx gp_75 (w := 0x4207) rfl (by decide) rfl) (n := 66) rfl ?_
              exact ih _ (by omega) _ (j + 1) _ _ _ (by omega) v_12 f_7 f_8 f_9 fr_10 rfl
            · simp only [i_eq] at h17
              refine g_constL act (gx gp_75 (w := 0x40000000000000002000000007801) rfl (by decide) rfl) (n := 120) (x := 0) (by decide) rfl ?_
              refine g_goto act (gx gp_75 (w := 0x7d07) rfl (by decide) rfl) (n := 125) rfl ?_
              refine r_last act (gx gp_75 (w := 0x7e05) rfl (by decide) rfl) (n := 126) (N := 4) (j := j) rfl (hF.2.2.2.2.1 i (by omega)).2 hjv (show j < 4 by omega) ?_
              have f_13 := hF.wr (k := (b + (2 + i))) (j := j) (v := .long (0 : Int64)) (by unfold WFr; omega)
              have f_14 := (rd_ne hj (k := (b + (2 + i))) (j := j) (.long (0 : Int64)) (Or.inl (by omega))).trans hT
              have f_15 := hG.nF (k := (b + (2 + i))) (j := j) (v := .long (0 : Int64)) (by omega)
              have fr_16 := hfr.wr (k := (b + (2 + i))) (j := j) (.long (0 : Int64)) (by unfold WFr; omega)
              clear hF hT hG hfr
              generalize (wr hj (b + (2 + i)) j (.long (0 : Int64))) = hs_17 at *
              refine g_iinc act (gx gp_75 (w := 0x80000001000004008109) rfl (by decide) rfl) (a := 4) (i := (1 : Int32)) (n := 129) rfl (by decide) rfl rfl (L2 := [some (.ref b), some (.ref g), some (.int z9), some (.int i9), some (.int (j9 + (1 : Int32))), some (.long (x_2 - x_5)), none]) rfl ?_
              have v_18 := iv_addN hjv (show (1 : Int32).toInt = ((1 : Nat) : Int) from by decide) (show (j + 1) < 2147483648 by omega)
              refine g_goto act (gx gp_75 (w := 0x4207) rfl (by decide) rfl) (n := 66) rfl ?_
              exact ih _ (by omega) _ (j + 1) _ _ _ (by omega) v_18 f_13 f_14 f_15 fr_16 rfl
        have out : ∀ (hj : List CE) (i : Nat) (i9 : Int32) (w4 w5 w6 : Option Value), i ≤ nl → i9.toInt = (i : Int) → FLS hj b → rd hj b 0 = .long t_c1 → GIM hj g F → FrS (WFr b) hs hj → WpN (gp g0 wp) CLS p l e R sW m args below meth cW Q D_75.2.2.1 kc0 ks0 55 [some (.ref b), some (.ref g), some (.int z9), some (.int i9), w4, w5, w6] (hj, kc, ks) [] := by
          intro hj i i9 w4 w5 w6 hi3 hi hF hT hG hfr
          generalize hm : nl - i = m9
          induction m9 using Nat.strongRecOn generalizing hj i i9 w4 w5 w6 with
          | _ m9 ih =>
          have hb0 := hF.1
          have hg0 := hG.1.1
          have hq0 := hR.1
          subst hm
          refine g_loadI act (gx gp_75 (w := 0x3003802) rfl (by decide) rfl) (a := 3) (n := 56) rfl rfl rfl ?_
          refine g_loadA act (gx gp_75 (w := 0x1003903) rfl (by decide) rfl) (a := 1) (n := 57) rfl rfl rfl ?_
          refine r_getf act (gx gp_75 (w := 0x84003c04) rfl (by decide) rfl) (n := 60) (ci := 4) (j := 2) (N := 18) rfl rfl rfl hG.1.2.1 (by decide) (v := .int (F 0 2)) (hG.2 0 2 (Or.inl ⟨rfl, by decide⟩)) ?_
          refine g_icmpGe act (gx gp_75 (w := 0x8a003f08) rfl (by decide) rfl) (tgt := 138) (n := 63) rfl rfl (fun h3 => ?_) (fun h3 => ?_)
          · simp only [i_le] at h3
            exact g_retV hEnd (gx gp_75 (w := 0x18) rfl (by decide) rfl) ⟨rfl, rfl, hF, ⟨t_c1, hT, ht_c1⟩, hfr⟩ hk1 hk2
          · simp only [i_le] at h3
            refine g_constI act (gx gp_75 (w := 0x40000000400000001000000004001) rfl (by decide) rfl) (n := 64) (x := (0 : Int32)) (by decide) rfl ?_
            refine g_storeI act (gx gp_75 (w := 0x4004210) rfl (by decide) rfl) (a := 4) (n := 66) rfl rfl (L2 := [some (.ref b), some (.ref g), some (.int z9), some (.int i9), some (.int (0 : Int32)), w5, w6]) rfl ?_
            refine inn i i9 (by omega) hi (fun h2 w42 w52 w62 hF2 hT2 hG2 hfr2 => ?_) hj 0 _ _ _ (by omega) (by decide) hF hT hG hfr
            refine g_iinc act (gx gp_75 (w := 0x80000001000003008709) rfl (by decide) rfl) (a := 3) (i := (1 : Int32)) (n := 135) rfl (by decide) rfl rfl (L2 := [some (.ref b), some (.ref g), some (.int z9), some (.int (i9 + (1 : Int32))), w42, w52, w62]) rfl ?_
            have v_19 := iv_addN hi (show (1 : Int32).toInt = ((1 : Nat) : Int) from by decide) (show (i + 1) < 2147483648 by omega)
            refine g_goto act (gx gp_75 (w := 0x3707) rfl (by decide) rfl) (n := 55) rfl ?_
            exact ih _ (by omega) _ (i + 1) _ _ _ _ (by omega) v_19 hF2 hT2 hG2 hfr2 rfl
        exact out _ 0 _ _ _ _ (by omega) (by decide) hF_c1 hT_c1 f_4 fr_5
      · exact absurd hpo.1 (by omega)) _ 0 _ (by omega) (by decide) hF_c1 hM_c1 f_3 fr_4
  · exact absurd hpo.1 (by omega)

end CRDG
