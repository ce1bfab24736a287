/-! A run of choices that comes back to its members can't be; so none is endless. -/
theorem sv (a y : Nat → Rat) (b : Nat → Nat) (R p : Nat) (c e : Rat) (hp : p < 35) : smq (fun j => a j * (c * (if p = j then 1 else 0) + e * spr b y R j)) 35 = c * a p + e * smq (fun x => if b x < 35 then a (b x) * y x else 0) R := by
  have h : smq (fun j => a j * (c * (if p = j then 1 else 0) + e * spr b y R j)) 35 = smq (fun j => c * (if p = j then a j else 0) + e * (a j * spr b y R j)) 35 := smq_cong (fun j _ => by
    by_cases q : p = j
    · rw [if_pos q, if_pos q]; grind
    · rw [if_neg q, if_neg q]; grind)
  rw [h, smq_add, smq_mul, smq_mul, smq_single, if_pos hp, smq_spr]
section DIR
variable {R : Nat} {T G : Nat → Nat → Rat} {b : Nat → Nat}
theorem dir_row (hC : Can R T G b) {p : Nat} (hp : p < 35) (hnb : ∀ x, x < R → b x ≠ p) (c e : Rat) (y : Nat → Rat) {x : Nat} (hx : x < R) : rowv T b (fun q => c * (if p = q then 1 else 0) + e * spr b y R q) x = c * T x p + e * y x := by
  have h1 : smq (fun z => if b z < 35 then T x (b z) * y z else 0) R = if b x < 34 then y x else 0 := by
    rw [smq_cong (g := fun z => if x = z then (if b z < 34 then y z else 0) else 0) (fun z hz => by
      rcases hC.1 z hz with h | h
      · rw [if_pos (by omega), hC.2.2.1 x z hx hz h, if_pos h]
        by_cases q : x = z
        · rw [if_pos q, if_pos q]; grind
        · rw [if_neg q, if_neg q]; grind
      · rw [if_neg (by omega : ¬ b z < 35)]
        by_cases q : x = z
        · rw [if_pos q, if_neg (by omega : ¬ b z < 34)]
        · rw [if_neg q]), smq_single, if_pos hx]
  show smq (fun j => T x j * (c * (if p = j then 1 else 0) + e * spr b y R j)) 35 + (if 100 ≤ b x then c * (if p = b x then 1 else 0) + e * spr b y R (b x) else 0) = _
  rw [sv (T x) y b R p c e hp, h1]
  rcases hC.1 x hx with h | h
  · rw [if_pos h, if_neg (by omega)]; grind
  · rw [if_neg (by omega), if_pos h.1, if_neg (by omega), spr_at hC.2.1 hx]; grind
theorem dir_gol (G : Nat → Nat → Rat) (b : Nat → Nat) {p : Nat} (hp : p < 35) (c e : Rat) (y : Nat → Rat) (k : Nat) : gol G (fun q => c * (if p = q then 1 else 0) + e * spr b y R q) k = c * G k p + e * smq (fun x => if b x < 35 then G k (b x) * y x else 0) R :=
  sv (G k) y b R p c e hp
theorem gol_bas (hC : Can R T G b) (y : Nat → Rat) {k : Nat} (hk : k < 7) : smq (fun x => if b x < 35 then G k (b x) * y x else 0) R = 0 := by
  refine smq_zero (fun x hx => ?_)
  rcases hC.1 x hx with h | h
  · rw [if_pos (by omega), hC.2.2.2.1 k x hk hx h]; grind
  · rw [if_neg (by omega)]
end DIR
section SEG
variable {R : Nat} {TT GG : Nat → Nat → Nat → Rat} {bb : Nat → Nat → Nat} {ss rr : Nat → Nat} {i j : Nat}
theorem sg_back (hP : ∀ n, i ≤ n → n < j → Piv R (TT n) (GG n) (bb n) (TT (n+1)) (GG (n+1)) (bb (n+1)) (ss n) (rr n)) {n x q : Nat} (hn : n ≤ j) (hx : x < R) (hq : bb n x = q) (hne : ∀ m, i ≤ m → m < n → ss m ≠ q) : ∀ d, i + d ≤ n → bb (n - d) x = q
  | 0, _ => hq
  | d + 1, hd => by
    have h1 := sg_back hP hn hx hq hne d (by omega)
    have h2 := (hP (n - (d + 1)) (by omega) (by omega)).2.2.2.2.2.2.2.2 x hx
    rw [show n - (d + 1) + 1 = n - d by omega, h1] at h2
    by_cases e : x = rr (n - (d + 1))
    · rw [if_pos e] at h2
      exact absurd h2.symm (hne _ (by omega) (by omega))
    · rw [if_neg e] at h2
      exact h2.symm
theorem sg_backm (hP : ∀ n, i ≤ n → n < j → Piv R (TT n) (GG n) (bb n) (TT (n+1)) (GG (n+1)) (bb (n+1)) (ss n) (rr n)) {n m x q : Nat} (hn : n ≤ j) (hx : x < R) (hq : bb n x = q) (hne : ∀ m, i ≤ m → m < n → ss m ≠ q) (h1 : i ≤ m) (h2 : m ≤ n) : bb m x = q := by
  have := sg_back hP hn hx hq hne (n - m) (by omega)
  rwa [show n - (n - m) = m by omega] at this
/-- a member that never comes, and is there once, is always there -/
theorem sg_all (hP : ∀ n, i ≤ n → n < j → Piv R (TT n) (GG n) (bb n) (TT (n+1)) (GG (n+1)) (bb (n+1)) (ss n) (rr n)) (hb : ∀ x, x < R → bb i x = bb j x) {n x q : Nat} (hi : i ≤ n) (hn : n ≤ j) (hx : x < R) (hq : bb n x = q) (hne : ∀ m, i ≤ m → m < j → ss m ≠ q) {m : Nat} (h1 : i ≤ m) (h2 : m ≤ j) : bb m x = q := by
  have a := sg_backm hP hn hx hq (fun m a b => hne m a (by omega)) (Nat.le_refl i) hi
  rw [hb x hx] at a
  exact sg_backm hP (Nat.le_refl j) hx a hne h1 h2
theorem sg_low (hC : ∀ n, i ≤ n → n ≤ j → Can R (TT n) (GG n) (bb n)) (hP : ∀ n, i ≤ n → n < j → Piv R (TT n) (GG n) (bb n) (TT (n+1)) (GG (n+1)) (bb (n+1)) (ss n) (rr n)) (hb : ∀ x, x < R → bb i x = bb j x) {n : Nat} (h1 : i ≤ n) (h2 : n < j) : bb n (rr n) < 34 := by
  have p := hP n h1 h2
  rcases (hC n h1 (by omega)).1 (rr n) p.2.2.2.1 with h | h
  · exact h
  · have := sg_all hP hb h1 (by omega) p.2.2.2.1 rfl (fun m a b e => by have := (hP m a b).1; omega) (m := n + 1) (by omega) (by omega)
    rw [p.2.2.2.2.2.2.2.2 _ p.2.2.2.1, if_pos rfl] at this
    have := p.1
    omega
theorem sg_sol (hC : ∀ n, i ≤ n → n ≤ j → Can R (TT n) (GG n) (bb n)) (hP : ∀ n, i ≤ n → n < j → Piv R (TT n) (GG n) (bb n) (TT (n+1)) (GG (n+1)) (bb (n+1)) (ss n) (rr n)) (hb : ∀ x, x < R → bb i x = bb j x) (v : Nat → Rat) : ∀ d, i + d ≤ j → ((∀ x, x < R → rowv (TT i) (bb i) v x = 0) ↔ (∀ x, x < R → rowv (TT (i + d)) (bb (i + d)) v x = 0))
  | 0, _ => Iff.rfl
  | d + 1, h => (sg_sol hC hP hb v d (by omega)).trans (rowv_iff (hP (i + d) (by omega) (by omega)) (sg_low hC hP hb (by omega) (by omega)) v)
theorem sg_gol (hC : ∀ n, i ≤ n → n ≤ j → Can R (TT n) (GG n) (bb n)) (hP : ∀ n, i ≤ n → n < j → Piv R (TT n) (GG n) (bb n) (TT (n+1)) (GG (n+1)) (bb (n+1)) (ss n) (rr n)) (hb : ∀ x, x < R → bb i x = bb j x) {v : Nat → Rat} (hv : ∀ x, x < R → rowv (TT i) (bb i) v x = 0) {k : Nat} (hk : k < 7) : ∀ d, i + d ≤ j → gol (GG (i + d)) v k = gol (GG i) v k
  | 0, _ => rfl
  | d + 1, h => by
    have p := hP (i + d) (by omega) (by omega)
    have hr := (sg_sol hC hP hb v d (by omega)).mp hv (rr (i + d)) p.2.2.2.1
    rw [← sg_gol hC hP hb hv hk d (by omega)]
    exact gol_step p (sg_low hC hP hb (by omega) (by omega)) v hr hk
theorem sg_same (hC : ∀ n, i ≤ n → n ≤ j → Can R (TT n) (GG n) (bb n)) (hP : ∀ n, i ≤ n → n < j → Piv R (TT n) (GG n) (bb n) (TT (n+1)) (GG (n+1)) (bb (n+1)) (ss n) (rr n)) (hb : ∀ x, x < R → bb i x = bb j x) (hij : i ≤ j) {k : Nat} (hk : k < 7) : GG i k 34 = GG j k 34 := by
  have hCi := hC i (Nat.le_refl _) hij
  have hCj := hC j hij (Nat.le_refl _)
  have hnb : ∀ x, x < R → bb i x ≠ 34 := fun x hx => by have := hCi.1 x hx; omega
  have hv : ∀ x, x < R → rowv (TT i) (bb i) (fun q => (-1) * (if 34 = q then 1 else 0) + 1 * spr (bb i) (fun x => TT i x 34) R q) x = 0 := fun x hx => by
    rw [dir_row hCi (by omega) hnb (-1) 1 _ hx]; grind
  have h1 := sg_gol hC hP hb hv hk (j - i) (by omega)
  rw [show i + (j - i) = j by omega, dir_gol _ _ (by omega), dir_gol _ _ (by omega), gol_bas hCi _ hk] at h1
  have h2 : smq (fun x => if bb i x < 35 then GG j k (bb i x) * TT i x 34 else 0) R = 0 := by
    rw [smq_cong (g := fun x => if bb j x < 35 then GG j k (bb j x) * TT i x 34 else 0) (fun x hx => by rw [hb x hx])]
    exact gol_bas hCj _ hk
  rw [h2] at h1
  grind
theorem sg_th (hC : ∀ n, i ≤ n → n ≤ j → Can R (TT n) (GG n) (bb n)) (hP : ∀ n, i ≤ n → n < j → Piv R (TT n) (GG n) (bb n) (TT (n+1)) (GG (n+1)) (bb (n+1)) (ss n) (rr n)) {n : Nat} (h1 : i ≤ n) (h2 : n < j) : 0 ≤ TT n (rr n) 34 / TT n (rr n) (ss n) := by
  have p := hP n h1 h2
  rw [Rat.div_def]
  exact Rat.mul_nonneg ((hC n h1 (by omega)).2.2.2.2 _ p.2.2.2.1) (Rat.le_of_lt (Rat.inv_pos.mpr p.2.2.2.2.1))
theorem sg_d (hP : ∀ n, i ≤ n → n < j → Piv R (TT n) (GG n) (bb n) (TT (n+1)) (GG (n+1)) (bb (n+1)) (ss n) (rr n)) {n k : Nat} (h1 : i ≤ n) (h2 : n < j) (hk : k < 7) : -(TT n (rr n) 34 / TT n (rr n) (ss n)) * GG n k (ss n) = GG (n + 1) k 34 - GG n k 34 := by
  rw [(hP n h1 h2).2.2.2.2.2.2.2.1 k 34 hk (by omega)]; grind
theorem sg_mono (hC : ∀ n, i ≤ n → n ≤ j → Can R (TT n) (GG n) (bb n)) (hP : ∀ n, i ≤ n → n < j → Piv R (TT n) (GG n) (bb n) (TT (n+1)) (GG (n+1)) (bb (n+1)) (ss n) (rr n)) {n : Nat} (h1 : i ≤ n) : ∀ d, n + d ≤ j → ¬ lng (fun k => GG (n + d) k 34 - GG n k 34)
  | 0, _ => nn_zero (fun k _ => by show GG (n + 0) k 34 - GG n k 34 = 0; rw [Nat.add_zero]; grind)
  | d + 1, h => by
    have a := sg_mono hC hP h1 d (by omega)
    have c := nn_neg (sg_th hC hP (n := n + d) (by omega) (by omega)) (hP (n + d) (by omega) (by omega)).2.1
    refine nn_cong (fun k hk => ?_) (nn_add a c)
    have := sg_d hP (n := n + d) (by omega) (by omega) hk
    show (GG (n + d) k 34 - GG n k 34) + -(TT (n + d) (rr (n + d)) 34 / TT (n + d) (rr (n + d)) (ss (n + d))) * GG (n + d) k (ss (n + d)) = GG (n + (d + 1)) k 34 - GG n k 34
    rw [this]
    show GG (n + d) k 34 - GG n k 34 + (GG (n + d + 1) k 34 - GG (n + d) k 34) = GG (n + d + 1) k 34 - GG n k 34
    grind
theorem sg_zero (hC : ∀ n, i ≤ n → n ≤ j → Can R (TT n) (GG n) (bb n)) (hP : ∀ n, i ≤ n → n < j → Piv R (TT n) (GG n) (bb n) (TT (n+1)) (GG (n+1)) (bb (n+1)) (ss n) (rr n)) (hb : ∀ x, x < R → bb i x = bb j x) {n : Nat} (h1 : i ≤ n) (h2 : n < j) : TT n (rr n) 34 = 0 := by
  have p := hP n h1 h2
  have a := sg_mono hC hP (Nat.le_refl i) (n - i) (by omega)
  rw [show i + (n - i) = n by omega] at a
  have c := nn_neg (sg_th hC hP h1 h2) p.2.1
  have e := sg_mono hC hP (n := n + 1) (by omega) (j - (n + 1)) (by omega)
  rw [show n + 1 + (j - (n + 1)) = j by omega] at e
  have z := nn_zeros a (nn_add c e) (Nat.le_refl 7) (fun k hk => by
    have q1 := sg_d hP h1 h2 hk
    have q2 := sg_same hC hP hb (by omega) hk
    show (GG n k 34 - GG i k 34) + (-(TT n (rr n) 34 / TT n (rr n) (ss n)) * GG n k (ss n) + (GG j k 34 - GG (n + 1) k 34)) = 0
    rw [q1, q2]; grind)
  have z2 := nn_zeros c e (Nat.le_refl 7) (fun k hk => (z k hk).2)
  obtain ⟨k, hk, -, hn⟩ := p.2.1
  have hn : GG n k (ss n) < 0 := hn
  have z3 : -(TT n (rr n) 34 / TT n (rr n) (ss n)) * GG n k (ss n) = 0 := (z2 k hk).1
  have hth : TT n (rr n) 34 / TT n (rr n) (ss n) = 0 := by
    rcases Rat.mul_eq_zero.mp z3 with h | h <;> grind
  have hp := p.2.2.2.2.1
  have := Rat.div_mul_cancel (a := TT n (rr n) 34) (b := TT n (rr n) (ss n)) (by grind)
  rw [hth] at this
  grind
theorem sg_side (hC : ∀ n, i ≤ n → n ≤ j → Can R (TT n) (GG n) (bb n)) (hP : ∀ n, i ≤ n → n < j → Piv R (TT n) (GG n) (bb n) (TT (n+1)) (GG (n+1)) (bb (n+1)) (ss n) (rr n)) (hb : ∀ x, x < R → bb i x = bb j x) {x : Nat} (hx : x < R) : ∀ d, i + d ≤ j → TT (i + d) x 34 = TT i x 34
  | 0, _ => rfl
  | d + 1, h => by
    have p := hP (i + d) (by omega) (by omega)
    have hz := sg_zero hC hP hb (n := i + d) (by omega) (by omega)
    have h1 := p.2.2.2.2.2.2.1 x 34 hx (by omega)
    rw [hz, Rat.div_def] at h1
    rw [← sg_side hC hP hb hx d (by omega)]
    show TT (i + d + 1) x 34 = TT (i + d) x 34
    rw [h1]
    by_cases e : x = rr (i + d)
    · rw [if_pos e, e, hz]; grind
    · rw [if_neg e]; grind
theorem sg_sidem (hC : ∀ n, i ≤ n → n ≤ j → Can R (TT n) (GG n) (bb n)) (hP : ∀ n, i ≤ n → n < j → Piv R (TT n) (GG n) (bb n) (TT (n+1)) (GG (n+1)) (bb (n+1)) (ss n) (rr n)) (hb : ∀ x, x < R → bb i x = bb j x) {x n m : Nat} (hx : x < R) (h1 : i ≤ n) (h2 : n ≤ j) (h3 : i ≤ m) (h4 : m ≤ j) : TT n x 34 = TT m x 34 := by
  have a := sg_side hC hP hb hx (n - i) (by omega)
  have c := sg_side hC hP hb hx (m - i) (by omega)
  rw [show i + (n - i) = n by omega] at a
  rw [show i + (m - i) = m by omega] at c
  rw [a, c]
theorem mx_ex (f : Nat → Nat) (i : Nat) : ∀ d, ∃ n, i ≤ n ∧ n < i + (d + 1) ∧ ∀ m, i ≤ m → m < i + (d + 1) → f m ≤ f n
  | 0 => ⟨i, Nat.le_refl _, by omega, fun m h1 h2 => by rw [show m = i by omega]; exact Nat.le_refl _⟩
  | d + 1 => by
    obtain ⟨n, h1, h2, h3⟩ := mx_ex f i d
    by_cases h : f n ≤ f (i + (d + 1))
    · refine ⟨i + (d + 1), by omega, by omega, fun m a c => ?_⟩
      by_cases e : m = i + (d + 1)
      · rw [e]; exact Nat.le_refl _
      · exact Nat.le_trans (h3 m a (by omega)) h
    · refine ⟨n, h1, by omega, fun m a c => ?_⟩
      by_cases e : m = i + (d + 1)
      · rw [e]; omega
      · exact h3 m a (by omega)
end SEG
