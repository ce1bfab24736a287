/-! Arrays of a heap, by their numbers. -/
def IArr (hs : List CE) (c n : Nat) (f : Nat → Int) : Prop := ∀ j, j < n → ∃ x : Int32, rd hs c j = .int x ∧ x.toInt = f j
def LArr (hs : List CE) (c n : Nat) (f : Nat → Int) : Prop := ∀ j, j < n → ∃ x : Int64, rd hs c j = .long x ∧ x.toInt = f j
def QArr (hs : List CE) (c1 c2 n : Nat) (f : Nat → Rat) : Prop := ∀ j, j < n → ∃ t w : Int64, rd hs c1 j = .long t ∧ rd hs c2 j = .long w ∧ FR t w (f j)
def upI (f : Nat → Int) (i : Nat) (X : Int) : Nat → Int := fun j => if j = i then X else f j
section ARR
variable {hs h2 : List CE} {c c1 c2 n : Nat} {f g : Nat → Int} {q r : Nat → Rat}
theorem IArr.fr (h : IArr hs c n f) (hf : ∀ j, j < n → rd h2 c j = rd hs c j) : IArr h2 c n f := fun j hj => by
  obtain ⟨x, e1, e2⟩ := h j hj
  exact ⟨x, (hf j hj).trans e1, e2⟩
theorem LArr.fr (h : LArr hs c n f) (hf : ∀ j, j < n → rd h2 c j = rd hs c j) : LArr h2 c n f := fun j hj => by
  obtain ⟨x, e1, e2⟩ := h j hj
  exact ⟨x, (hf j hj).trans e1, e2⟩
theorem QArr.fr (h : QArr hs c1 c2 n q) (hf : ∀ j, j < n → rd h2 c1 j = rd hs c1 j ∧ rd h2 c2 j = rd hs c2 j) : QArr h2 c1 c2 n q := fun j hj => by
  obtain ⟨t, w, e1, e2, e3⟩ := h j hj
  exact ⟨t, w, (hf j hj).1.trans e1, (hf j hj).2.trans e2, e3⟩
theorem IArr.ne (h : IArr hs c n f) {k j : Nat} {v : Value} (hk : c ≠ k) : IArr (wr hs k j v) c n f := h.fr (fun _ _ => rd_ne _ _ (Or.inl hk))
theorem LArr.ne (h : LArr hs c n f) {k j : Nat} {v : Value} (hk : c ≠ k) : LArr (wr hs k j v) c n f := h.fr (fun _ _ => rd_ne _ _ (Or.inl hk))
theorem QArr.ne (h : QArr hs c1 c2 n q) {k j : Nat} {v : Value} (h1 : c1 ≠ k) (h2 : c2 ≠ k) : QArr (wr hs k j v) c1 c2 n q := h.fr (fun _ _ => ⟨rd_ne _ _ (Or.inl h1), rd_ne _ _ (Or.inl h2)⟩)
theorem IArr.cong (h : IArr hs c n f) (e : ∀ j, j < n → f j = g j) : IArr hs c n g := fun j hj => by
  obtain ⟨x, e1, e2⟩ := h j hj
  exact ⟨x, e1, e2.trans (e j hj)⟩
theorem LArr.cong (h : LArr hs c n f) (e : ∀ j, j < n → f j = g j) : LArr hs c n g := fun j hj => by
  obtain ⟨x, e1, e2⟩ := h j hj
  exact ⟨x, e1, e2.trans (e j hj)⟩
theorem QArr.cong (h : QArr hs c1 c2 n q) (e : ∀ j, j < n → q j = r j) : QArr hs c1 c2 n r := fun j hj => by
  obtain ⟨t, w, e1, e2, e3⟩ := h j hj
  exact ⟨t, w, e1, e2, e j hj ▸ e3⟩
theorem IArr.put (h : IArr hs c n f) {ci N j : Nat} {x : Int32} {X : Int} (s : shp hs c = some (ci, N)) (hx : x.toInt = X) : IArr (wr hs c j (.int x)) c n (upI f j X) := fun i hi => by
  rw [rd_if s]
  unfold upI
  by_cases z : i = j
  · rw [if_pos ⟨rfl, z⟩, if_pos z]; exact ⟨x, rfl, hx⟩
  · rw [if_neg (fun y => z y.2), if_neg z]; exact h i hi
theorem LArr.put (h : LArr hs c n f) {ci N j : Nat} {x : Int64} {X : Int} (s : shp hs c = some (ci, N)) (hx : x.toInt = X) : LArr (wr hs c j (.long x)) c n (upI f j X) := fun i hi => by
  rw [rd_if s]
  unfold upI
  by_cases z : i = j
  · rw [if_pos ⟨rfl, z⟩, if_pos z]; exact ⟨x, rfl, hx⟩
  · rw [if_neg (fun y => z y.2), if_neg z]; exact h i hi
theorem QArr.put (h : QArr hs c1 c2 n q) {ci N cj M j : Nat} {t w : Int64} {Y : Rat} (s1 : shp hs c1 = some (ci, N)) (s2 : shp hs c2 = some (cj, M)) (hne : c1 ≠ c2) (hx : FR t w Y) : QArr (wr (wr hs c1 j (.long t)) c2 j (.long w)) c1 c2 n (upQ q j Y) := fun i hi => by
  have e1 : rd (wr (wr hs c1 j (.long t)) c2 j (.long w)) c1 i = if i = j then .long t else rd hs c1 i := by
    rw [rd_ne _ _ (Or.inl hne), rd_if s1]
    by_cases z : i = j
    · rw [if_pos ⟨rfl, z⟩, if_pos z]
    · rw [if_neg (fun y => z y.2), if_neg z]
  have e2 : rd (wr (wr hs c1 j (.long t)) c2 j (.long w)) c2 i = if i = j then .long w else rd hs c2 i := by
    rw [rd_if (show shp (wr hs c1 j (.long t)) c2 = some (cj, M) by rw [shp_wr]; exact s2), rd_ne _ _ (Or.inl hne.symm)]
    by_cases z : i = j
    · rw [if_pos ⟨rfl, z⟩, if_pos z]
    · rw [if_neg (fun y => z y.2), if_neg z]
  rw [e1, e2]
  unfold upQ
  by_cases z : i = j
  · rw [if_pos z, if_pos z, if_pos z]
    exact ⟨t, w, rfl, rfl, hx⟩
  · rw [if_neg z, if_neg z, if_neg z]
    exact h i hi
theorem IArr.start (h : ∀ j, j < n → ∃ x : Int32, rd hs c j = .int x) : ∃ f : Nat → Int, IArr hs c n f := by
  refine ⟨fun j => match rd hs c j with | .int x => x.toInt | _ => 0, fun j hj => ?_⟩
  obtain ⟨x, e⟩ := h j hj
  exact ⟨x, e, by simp [e]⟩
theorem LArr.any (h : ∀ j, j < n → ∃ x : Int64, rd hs c j = .long x) : ∃ f : Nat → Int, LArr hs c n f := by
  refine ⟨fun j => match rd hs c j with | .long x => x.toInt | _ => 0, fun j hj => ?_⟩
  obtain ⟨x, e⟩ := h j hj
  exact ⟨x, e, by simp [e]⟩
end ARR
theorem iv_addN {x y : Int32} {a b : Nat} (hx : x.toInt = (a : Int)) (hy : y.toInt = (b : Int)) (h : a + b < 2147483648) : (x + y).toInt = ((a + b : Nat) : Int) := by
  rw [i_add (by omega) (by omega), hx, hy]; omega
theorem iv_mulN {x y : Int32} {a b : Nat} (hx : x.toInt = (a : Int)) (hy : y.toInt = (b : Int)) (h : a * b < 2147483648) : (x * y).toInt = ((a * b : Nat) : Int) := by
  have e : (a : Int) * (b : Int) = ((a * b : Nat) : Int) := (Int.natCast_mul a b).symm
  rw [i_mul (by rw [hx, hy, e]; omega) (by rw [hx, hy, e]; omega), hx, hy, e]
theorem iv_subN {x y : Int32} {a b : Nat} (hx : x.toInt = (a : Int)) (hy : y.toInt = (b : Int)) (h : b ≤ a) : (x - y).toInt = ((a - b : Nat) : Int) := by
  have := i_rng x
  have := i_rng y
  rw [i_sub (by omega) (by omega), hx, hy]; omega
theorem iv_add {x y : Int32} {a b : Int} (hx : x.toInt = a) (hy : y.toInt = b) (h1 : -2147483648 ≤ a + b) (h2 : a + b < 2147483648) : (x + y).toInt = a + b := by
  rw [i_add (by omega) (by omega), hx, hy]
theorem iv_sub {x y : Int32} {a b : Int} (hx : x.toInt = a) (hy : y.toInt = b) (h1 : -2147483648 ≤ a - b) (h2 : a - b < 2147483648) : (x - y).toInt = a - b := by
  rw [i_sub (by omega) (by omega), hx, hy]
theorem iv_mul {x y : Int32} {a b : Int} (hx : x.toInt = a) (hy : y.toInt = b) (h1 : -2147483648 ≤ a * b) (h2 : a * b < 2147483648) : (x * y).toInt = a * b := by
  rw [i_mul (by rw [hx, hy]; exact h1) (by rw [hx, hy]; exact h2), hx, hy]
theorem lw_add {x y : Int64} {a b : Int} (hx : x.toInt = a) (hy : y.toInt = b) (h1 : -9223372036854775808 ≤ a + b) (h2 : a + b < 9223372036854775808) : (x + y).toInt = a + b := by
  rw [l_add (by omega) (by omega), hx, hy]
theorem lw_sub {x y : Int64} {a b : Int} (hx : x.toInt = a) (hy : y.toInt = b) (h1 : -9223372036854775808 ≤ a - b) (h2 : a - b < 9223372036854775808) : (x - y).toInt = a - b := by
  rw [l_sub (by omega) (by omega), hx, hy]
theorem lw_mul {x y : Int64} {a b : Int} (hx : x.toInt = a) (hy : y.toInt = b) (h1 : -9223372036854775808 ≤ a * b) (h2 : a * b < 9223372036854775808) : (x * y).toInt = a * b := by
  rw [l_mul (by rw [hx, hy]; exact h1) (by rw [hx, hy]; exact h2), hx, hy]
theorem lw_neg {x : Int64} {a : Int} (hx : x.toInt = a) (h1 : -9223372036854775808 < a) : (-x).toInt = -a := by
  rw [l_neg (by omega), hx]
theorem lw_i2l {x : Int32} {a : Int} (hx : x.toInt = a) : x.toInt64.toInt = a := by
  rw [Int32.toInt_toInt64, hx]
theorem dn {K : Nat} {P : Nat → Prop} (h : ∀ j, j ≤ K → (∀ j', j < j' → j' ≤ K → P j') → P j) : ∀ j, j ≤ K → P j := by
  have key : ∀ n j, j + n = K → P j := by
    intro n
    induction n using Nat.strongRecOn with
    | ind n ih => exact fun j hj => h j (by omega) (fun j' h1 h2 => ih (K - j') (by omega) j' (by omega))
  exact fun j hj => key (K - j) j (by omega)
theorem rd_fr {hs h2 : List CE} {W : Nat → Nat → Prop} (h : FrS W hs h2) {k j : Nat} {v : Value} (e : rd hs k j = v) (hw : ¬ W k j) : rd h2 k j = v := (h.2.2 k j hw).trans e
def bd (B : Int) (f : Nat → Int) : Prop := ∀ j, -B ≤ f j ∧ f j ≤ B
theorem bd_up {B : Int} {f : Nat → Int} {i : Nat} {X : Int} (h : bd B f) (h1 : -(B + 1) ≤ X) (h2 : X ≤ B + 1) : bd (B + 1) (upI f i X) := fun j => by
  have := h j
  unfold upI
  split <;> omega
def QRng (hs : List CE) (c1 c2 lo hi : Nat) (f : Nat → Rat) : Prop := ∀ j, lo ≤ j → j < hi → ∃ t w : Int64, rd hs c1 j = .long t ∧ rd hs c2 j = .long w ∧ FR t w (f j)
def ALng (hs : List CE) (c n : Nat) : Prop := ∀ j, j < n → ∃ x : Int64, rd hs c j = .long x
section RNG
variable {hs h2 : List CE} {c c1 c2 n lo hi : Nat} {q r : Nat → Rat} {f : Nat → Int}
theorem QRng.fr (h : QRng hs c1 c2 lo hi q) (hf : ∀ j, lo ≤ j → j < hi → rd h2 c1 j = rd hs c1 j ∧ rd h2 c2 j = rd hs c2 j) : QRng h2 c1 c2 lo hi q := fun j h1 hj => by
  obtain ⟨t, w, e1, e2, e3⟩ := h j h1 hj
  exact ⟨t, w, (hf j h1 hj).1.trans e1, (hf j h1 hj).2.trans e2, e3⟩
theorem QRng.ne (h : QRng hs c1 c2 lo hi q) {k j : Nat} {v : Value} (h1 : c1 ≠ k) (h2 : c2 ≠ k) : QRng (wr hs k j v) c1 c2 lo hi q := h.fr (fun _ _ _ => ⟨rd_ne _ _ (Or.inl h1), rd_ne _ _ (Or.inl h2)⟩)
theorem QRng.cong (h : QRng hs c1 c2 lo hi q) (e : ∀ j, lo ≤ j → j < hi → q j = r j) : QRng hs c1 c2 lo hi r := fun j h1 hj => by
  obtain ⟨t, w, e1, e2, e3⟩ := h j h1 hj
  exact ⟨t, w, e1, e2, e j h1 hj ▸ e3⟩
theorem QRng.put (h : QRng hs c1 c2 lo hi q) {ci N cj M j : Nat} {t w : Int64} {Y : Rat} (s1 : shp hs c1 = some (ci, N)) (s2 : shp hs c2 = some (cj, M)) (hne : c1 ≠ c2) (hx : FR t w Y) : QRng (wr (wr hs c1 j (.long t)) c2 j (.long w)) c1 c2 lo hi (upQ q j Y) := fun i h1 hi9 => by
  have e1 : rd (wr (wr hs c1 j (.long t)) c2 j (.long w)) c1 i = if i = j then .long t else rd hs c1 i := by
    rw [rd_ne _ _ (Or.inl hne), rd_if s1]
    by_cases z : i = j
    · rw [if_pos ⟨rfl, z⟩, if_pos z]
    · rw [if_neg (fun y => z y.2), if_neg z]
  have e2 : rd (wr (wr hs c1 j (.long t)) c2 j (.long w)) c2 i = if i = j then .long w else rd hs c2 i := by
    rw [rd_if (show shp (wr hs c1 j (.long t)) c2 = some (cj, M) by rw [shp_wr]; exact s2), rd_ne _ _ (Or.inl hne.symm)]
    by_cases z : i = j
    · rw [if_pos ⟨rfl, z⟩, if_pos z]
    · rw [if_neg (fun y => z y.2), if_neg z]
  rw [e1, e2]
  unfold upQ
  by_cases z : i = j
  · rw [if_pos z, if_pos z, if_pos z]
    exact ⟨t, w, rfl, rfl, hx⟩
  · rw [if_neg z, if_neg z, if_neg z]
    exact h i h1 hi9
theorem ALng.fr (h : ALng hs c n) (hf : ∀ j, j < n → rd h2 c j = rd hs c j) : ALng h2 c n := fun j hj => by
  obtain ⟨x, e⟩ := h j hj
  exact ⟨x, (hf j hj).trans e⟩
theorem ALng.ne (h : ALng hs c n) {k j : Nat} {v : Value} (hk : c ≠ k) : ALng (wr hs k j v) c n := h.fr (fun _ _ => rd_ne _ _ (Or.inl hk))
theorem ALng.put (h : ALng hs c n) {ci N j : Nat} {x : Int64} (s : shp hs c = some (ci, N)) : ALng (wr hs c j (.long x)) c n := fun i hi => by
  rw [rd_if s]
  by_cases z : i = j
  · rw [if_pos ⟨rfl, z⟩]; exact ⟨x, rfl⟩
  · rw [if_neg (fun y => z y.2)]; exact h i hi
theorem QArr.lng1 (h : QArr hs c1 c2 n q) : ALng hs c1 n := fun j hj => by
  obtain ⟨t, w, e1, e2, e3⟩ := h j hj
  exact ⟨t, e1⟩
theorem QArr.lng2 (h : QArr hs c1 c2 n q) : ALng hs c2 n := fun j hj => by
  obtain ⟨t, w, e1, e2, e3⟩ := h j hj
  exact ⟨w, e2⟩
theorem LArr.lng (h : LArr hs c n f) : ALng hs c n := fun j hj => by
  obtain ⟨t, e1, e3⟩ := h j hj
  exact ⟨t, e1⟩
end RNG
theorem fr_int {t w : Int64} {X : Int} (h1 : t.toInt = X) (h2 : w.toInt = 1) : FR t w (X : Rat) := ⟨h1, h2⟩
theorem LArr.qarr {hs : List CE} {c1 c2 n : Nat} {f g : Nat → Int} (h1 : LArr hs c1 n f) (h2 : LArr hs c2 n g) (hg : ∀ j, j < n → g j = 1) : QArr hs c1 c2 n (fun j => (f j : Rat)) := fun j hj => by
  obtain ⟨t, e1, e3⟩ := h1 j hj
  obtain ⟨w, e2, e4⟩ := h2 j hj
  exact ⟨t, w, e1, e2, fr_int e3 (e4.trans (hg j hj))⟩
