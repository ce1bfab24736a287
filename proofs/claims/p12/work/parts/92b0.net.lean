/-! Nets: all of them, listed by how many lines join two nodes. -/
abbrev QP : Type := Int × Nat
/-- a pair stands for a number -/
def Rep (p : QP) (q : Rat) : Prop := 0 < p.2 ∧ (p.2 : Rat) * q = (p.1 : Rat)
def qz : QP := (0, 1)
def qnm (n : Int) (d : Nat) : QP := (n / ((Nat.gcd n.natAbs d : Nat) : Int), d / Nat.gcd n.natAbs d)
def qmul (p q : QP) : QP := qnm (p.1 * q.1) (p.2 * q.2)
def qsub (p q : QP) : QP := qnm (p.1 * (q.2 : Int) - q.1 * (p.2 : Int)) (p.2 * q.2)
def qinv (p : QP) : QP := ((p.2 : Int), p.1.toNat)
theorem natQ_ne {n : Nat} (h : 0 < n) : (n : Rat) ≠ 0 := by
  intro e
  have : (n : Int) = 0 := ic0 e
  omega
theorem mcan {g a b : Rat} (hg : g ≠ 0) (h : g * a = g * b) : a = b := by
  have h1 : g * g⁻¹ = 1 := Rat.mul_inv_cancel g hg
  have h2 : g⁻¹ * (g * a) = g⁻¹ * (g * b) := by rw [h]
  grind
theorem Rep.nm {n : Int} {d : Nat} {q : Rat} (hd : 0 < d) (h : (d : Rat) * q = (n : Rat)) : Rep (qnm n d) q := by
  have hg : 0 < Nat.gcd n.natAbs d := Nat.gcd_pos_of_pos_right _ hd
  have he := Nat.gcd_dvd_right n.natAbs d
  have hn := Nat.gcd_dvd_left n.natAbs d
  unfold qnm
  generalize Nat.gcd n.natAbs d = g at *
  have hn : (g : Int) ∣ n := Int.natAbs_dvd_natAbs.mp (by rw [Int.natAbs_natCast]; exact hn)
  obtain ⟨e, he⟩ := he
  obtain ⟨m, hm⟩ := hn
  have h1 : n / (g : Int) = m := by rw [hm]; exact Int.mul_ediv_cancel_left _ (by omega)
  have h2 : d / g = e := by rw [he]; exact Nat.mul_div_cancel_left _ hg
  refine ⟨?_, ?_⟩
  · show 0 < d / g
    rw [h2]
    rcases Nat.eq_zero_or_pos e with z | z
    · rw [z, Nat.mul_zero] at he; omega
    · exact z
  · show ((d / g : Nat) : Rat) * q = ((n / (g : Int) : Int) : Rat)
    rw [h1, h2]
    have hq : (g : Rat) ≠ 0 := natQ_ne hg
    apply mcan hq
    rw [he, hm, Rat.natCast_mul, Rat.intCast_mul] at h
    have h : (g : Rat) * (e : Rat) * q = (g : Rat) * (m : Rat) := h
    rw [← h]
    grind
theorem Rep.mul {p r : QP} {q s : Rat} (h1 : Rep p q) (h2 : Rep r s) : Rep (qmul p r) (q * s) := by
  apply Rep.nm (Nat.mul_pos h1.1 h2.1)
  rw [Rat.natCast_mul, Rat.intCast_mul, ← h1.2, ← h2.2]
  grind
theorem Rep.sub {p r : QP} {q s : Rat} (h1 : Rep p q) (h2 : Rep r s) : Rep (qsub p r) (q + -s) := by
  apply Rep.nm (Nat.mul_pos h1.1 h2.1)
  rw [Rat.natCast_mul, Rat.intCast_sub, Rat.intCast_mul, Rat.intCast_mul, ← h1.2, ← h2.2]
  show (p.2 : Rat) * (r.2 : Rat) * (q + -s) = (p.2 : Rat) * q * (r.2 : Rat) - (r.2 : Rat) * s * (p.2 : Rat)
  grind
theorem Rep.inv {p : QP} {q : Rat} (h : Rep p q) (hp : 0 < p.1) : Rep (qinv p) q⁻¹ := by
  refine ⟨by show 0 < p.1.toNat; omega, ?_⟩
  show ((p.1.toNat : Nat) : Rat) * q⁻¹ = (((p.2 : Nat) : Int) : Rat)
  have e : ((p.1.toNat : Nat) : Rat) = (p.1 : Rat) := by
    show (((p.1.toNat : Nat) : Int) : Rat) = _
    rw [Int.toNat_of_nonneg (by omega)]
  have hq : q ≠ 0 := by
    intro z
    have := h.2
    rw [z, Rat.mul_zero] at this
    have := ic0 this.symm
    omega
  rw [e, ← h.2]
  have : q * q⁻¹ = 1 := Rat.mul_inv_cancel q hq
  show (p.2 : Rat) * q * q⁻¹ = (p.2 : Rat)
  grind
theorem Rep.ne {p : QP} {q : Rat} (h : Rep p q) (hp : 0 < p.1) : q ≠ 0 := by
  intro z
  have := h.2
  rw [z, Rat.mul_zero] at this
  have := ic0 this.symm
  omega
theorem Rep.sm4 {p : QP} {q : Rat} (h : Rep p q) (h1 : Nat.ble p.1.natAbs 10000 = true) (h2 : Nat.ble p.2 10000 = true) : Sm4 q := by
  have := frac_of h.1 h.2
  exact ⟨Nat.le_trans this.1 (Nat.le_of_ble_eq_true h1), Nat.le_trans this.2 (Nat.le_of_ble_eq_true h2)⟩
/-! numbers are made before they are used -/
def fI (x : Int) (k : Int → Bool) : Bool := match x with
  | .ofNat n => (match n with | 0 => k (.ofNat 0) | m + 1 => k (.ofNat (m + 1)))
  | .negSucc n => (match n with | 0 => k (.negSucc 0) | m + 1 => k (.negSucc (m + 1)))
theorem fI_t (x : Int) (k : Int → Bool) : fI x k = k x := by
  cases x with
  | ofNat n => cases n <;> rfl
  | negSucc n => cases n <;> rfl
def fN (n : Nat) (k : Nat → Bool) : Bool := match n with | 0 => k 0 | m + 1 => k (m + 1)
theorem fN_t (n : Nat) (k : Nat → Bool) : fN n k = k n := by cases n <;> rfl
def fL : List Int → (List Int → Bool) → Bool
  | [], k => k []
  | x :: l, k => fI x fun x => fL l fun l => k (x :: l)
theorem fL_t : ∀ (l : List Int) (k : List Int → Bool), fL l k = k l
  | [], _ => rfl
  | x :: l, k => by
    show fI x (fun x => fL l fun l => k (x :: l)) = k (x :: l)
    rw [fI_t, fL_t l]
def f3 : List I3 → (List I3 → Bool) → Bool
  | [], k => k []
  | x :: l, k => fI x.1 fun a => fI x.2.1 fun b => fI x.2.2 fun c => f3 l fun l => k ((a, b, c) :: l)
theorem f3_t : ∀ (l : List I3) (k : List I3 → Bool), f3 l k = k l
  | [], _ => rfl
  | x :: l, k => by
    show fI x.1 (fun a => fI x.2.1 fun b => fI x.2.2 fun c => f3 l fun l => k ((a, b, c) :: l)) = k (x :: l)
    rw [fI_t, fI_t, fI_t, f3_t l]
def fQ : List QP → (List QP → Bool) → Bool
  | [], k => k []
  | x :: l, k => fI x.1 fun a => fN x.2 fun b => fQ l fun l => k ((a, b) :: l)
theorem fQ_t : ∀ (l : List QP) (k : List QP → Bool), fQ l k = k l
  | [], _ => rfl
  | x :: l, k => by
    show fI x.1 (fun a => fN x.2 fun b => fQ l fun l => k ((a, b) :: l)) = k (x :: l)
    rw [fI_t, fN_t, fQ_t l]
/-! the equations of a net, solved -/
def lapL (a b c d e f : Nat) : List Int := [(a : Int) + d + e, -(d : Int), -(e : Int), 0, -(d : Int), (b : Int) + d + f, -(f : Int), 0, -(e : Int), -(f : Int), (c : Int) + e + f, 0]
def eqL (a b c d e f nd : Nat) : List QP := (List.range 12).map fun j => bif Nat.beq j (4 * nd + 3) then (1, 1) else ((lapL a b c d e f).getD j 0, 1)
def stS (L : List QP) (row : Nat) : List QP := (List.range 12).map fun j => bif Nat.beq (j / 4) row then qmul (L.getD j qz) (qinv (L.getD (4 * row + row) qz)) else L.getD j qz
def stC (S : List QP) (row n : Nat) : List QP := (List.range 12).map fun j => bif Nat.blt (j / 4) n && !Nat.beq (j / 4) row then qsub (S.getD j qz) (qmul (S.getD (4 * row + j % 4) qz) (S.getD (4 * (j / 4) + row) qz)) else S.getD j qz
def sm12 (L : List QP) : Bool := (List.range 12).all fun j => Nat.ble (L.getD j qz).1.natAbs 10000 && Nat.ble (L.getD j qz).2 10000
def elR (n nd : Nat) (l : List Int) : Nat → Nat → List QP → Bool
  | 0, _, L => sm12 L && (List.range n).all fun x => decide ((L.getD (4 * x + 3) qz).1 * l.getD 0 0 = l.getD (1 + 3 * x + nd) 0 * ((L.getD (4 * x + 3) qz).2 : Int))
  | k + 1, row, L => sm12 L && (decide (0 < (L.getD (4 * row + row) qz).1) && fQ (stS L row) fun S => sm12 S && fQ (stC S row n) fun L2 => elR n nd l k (row + 1) L2)
theorem getD_map {α : Type} (F : Nat → α) (z : α) {j n : Nat} (h : j < n) : ((List.range n).map F).getD j z = F j := by
  rw [List.getD_eq_getElem?_getD, List.getElem?_map, List.getElem?_range h]
  rfl
theorem sm12_t {L : List QP} {f : Nat → Rat} (h : sm12 L = true) (hR : ∀ j, j < 12 → Rep (L.getD j qz) (f j)) : ∀ j, j < 12 → Sm4 (f j) := fun j hj => by
  have := List.all_eq_true.mp h j (List.mem_range.mpr hj)
  rw [Bool.and_eq_true] at this
  exact (hR j hj).sm4 this.1 this.2
theorem stS_t {L : List QP} {f : Nat → Rat} {row : Nat} (hr : row < 3) (hp : 0 < (L.getD (4 * row + row) qz).1) (hR : ∀ j, j < 12 → Rep (L.getD j qz) (f j)) : ∀ j, j < 12 → Rep ((stS L row).getD j qz) (scl f row 4 j) := fun j hj => by
  unfold stS
  rw [getD_map _ _ hj]
  unfold scl
  cases hb : Nat.beq (j / 4) row with
  | true =>
    have : j / 4 = row := Nat.eq_of_beq_eq_true hb
    rw [if_pos (by omega)]
    exact (hR j hj).mul ((hR (4 * row + row) (by omega)).inv hp)
  | false =>
    have : j / 4 ≠ row := Nat.ne_of_beq_eq_false hb
    rw [if_neg (by omega)]
    exact hR j hj
theorem stC_t {S : List QP} {f : Nat → Rat} {row n : Nat} (hr : row < 3) (hR : ∀ j, j < 12 → Rep (S.getD j qz) (f j)) : ∀ j, j < 12 → Rep ((stC S row n).getD j qz) (cl2 f row n 0 j) := fun j hj => by
  unfold stC
  rw [getD_map _ _ hj]
  unfold cl2
  cases hb : (Nat.blt (j / 4) n && !Nat.beq (j / 4) row) with
  | true =>
    rw [Bool.and_eq_true, Bool.not_eq_true'] at hb
    have h1 : j / 4 < n := Nat.le_of_ble_eq_true hb.1
    have h2 : j / 4 ≠ row := Nat.ne_of_beq_eq_false hb.2
    rw [if_pos ⟨Or.inl h1, h2⟩, Rat.mul_neg]
    exact (hR j hj).sub ((hR (4 * row + j % 4) (by omega)).mul (hR (4 * (j / 4) + row) (by omega)))
  | false =>
    have : ¬ ((j / 4 < n ∨ (j / 4 = n ∧ j % 4 < 0)) ∧ j / 4 ≠ row) := by
      rintro ⟨h1, h2⟩
      have h1 : j / 4 < n := by omega
      have e1 : Nat.blt (j / 4) n = true := Nat.ble_eq_true_of_le h1
      have e2 : Nat.beq (j / 4) row = false := by
        cases q : Nat.beq (j / 4) row with
        | true => exact absurd (Nat.eq_of_beq_eq_true q) h2
        | false => rfl
      rw [e1, e2] at hb
      cases hb
    rw [if_neg this]
    exact hR j hj
theorem elR_t {n nd : Nat} {l : List Int} {f : Nat → Rat} (hn : n ≤ 3) : ∀ {k row : Nat} {L : List QP}, elR n nd l k row L = true → row + k = n → (∀ j, j < 12 → Rep (L.getD j qz) (elim f n row j)) →
    (∀ m, row ≤ m → m < n → (∀ j, j < 12 → Sm4 (elim f n m j)) ∧ (∀ j, j < 12 → Sm4 (scl (elim f n m) m 4 j)) ∧ elim f n m (4 * m + m) ≠ 0) ∧ (∀ j, j < 12 → Sm4 (elim f n n j)) ∧ ∀ x, x < n → (l.getD 0 0 : Rat) * elim f n n (4 * x + 3) = (l.getD (1 + 3 * x + nd) 0 : Rat)
  | 0, row, L, h, hr, hR => by
    have hr : row = n := by omega
    subst hr
    have h : (sm12 L && (List.range row).all fun x => decide ((L.getD (4 * x + 3) qz).1 * l.getD 0 0 = l.getD (1 + 3 * x + nd) 0 * ((L.getD (4 * x + 3) qz).2 : Int))) = true := h
    rw [Bool.and_eq_true] at h
    refine ⟨fun m h1 h2 => by omega, sm12_t h.1 hR, fun x hx => ?_⟩
    have e := of_decide_eq_true (List.all_eq_true.mp h.2 x (List.mem_range.mpr hx))
    have r := hR (4 * x + 3) (by omega)
    generalize L.getD (4 * x + 3) qz = p at e r
    have e : ((p.1 * l.getD 0 0 : Int) : Rat) = ((l.getD (1 + 3 * x + nd) 0 * (p.2 : Int) : Int) : Rat) := by rw [e]
    rw [Rat.intCast_mul, Rat.intCast_mul, ← r.2] at e
    apply mcan (natQ_ne r.1)
    have e : (p.2 : Rat) * elim f row row (4 * x + 3) * (l.getD 0 0 : Rat) = (l.getD (1 + 3 * x + nd) 0 : Rat) * (p.2 : Rat) := e
    grind
  | k + 1, row, L, h, hr, hR => by
    have h : (sm12 L && (decide (0 < (L.getD (4 * row + row) qz).1) && fQ (stS L row) fun S => sm12 S && fQ (stC S row n) fun L2 => elR n nd l k (row + 1) L2)) = true := h
    rw [Bool.and_eq_true, Bool.and_eq_true, fQ_t, Bool.and_eq_true, fQ_t] at h
    obtain ⟨h1, h2, h3, h4⟩ := h
    have h2 := of_decide_eq_true h2
    have hS := stS_t (row := row) (by omega) h2 hR
    have hC := stC_t (n := n) (row := row) (by omega) hS
    obtain ⟨i1, i2, i3⟩ := elR_t hn h4 (by omega) hC
    refine ⟨fun m m1 m2 => ?_, i2, i3⟩
    by_cases q : m = row
    · subst q
      exact ⟨sm12_t h1 hR, sm12_t h3 hS, (hR _ (by omega)).ne h2⟩
    · exact i1 m (by omega) m2
/-! whole numbers over one denominator -/
def adjI (p q r x y z : Int) : List Int := [p * (q * r - z * z) + x * (y * z - x * r) + y * (x * z - y * q), q * r - z * z, y * z - x * r, x * z - y * q, y * z - x * r, p * r - y * y, x * y - p * z, x * z - y * q, x * y - p * z, p * q - x * x]
def angL (n a b c d e f : Nat) : List Int := (fun (l : List Int) => (fun (g : Nat) => l.map fun x => x / (g : Int)) (l.foldl (fun g x => Nat.gcd g x.natAbs) 0))
  ((List.range 10).map fun k => bif Nat.beq k 0 || (Nat.blt ((k - 1) / 3) n && Nat.blt ((k - 1) % 3) n) then (adjI ((a : Int) + d + e) (bif Nat.ble 2 n then (b : Int) + d + f else 1) (bif Nat.ble 3 n then (c : Int) + e + f else 1) (-(d : Int)) (-(e : Int)) (-(f : Int))).getD k 0 else 0)
/-- the angle of a node if one comes in at another, times the denominator -/
def ang (l : List Int) (x nd : Nat) : Int := match x with
  | 0 => 0
  | x + 1 => l.getD (1 + 3 * x + nd) 0
def rwI (l : List Int) (x y : Nat) : I3 := (ang l x 0 - ang l y 0, ang l x 1 - ang l y 1, ang l x 2 - ang l y 2)
def rwsI (a b c d e f : Nat) (l : List Int) : List I3 := (bif Nat.blt 0 a then [rwI l 0 1] else []) ++ ((bif Nat.blt 0 b then [rwI l 0 2] else []) ++ ((bif Nat.blt 0 c then [rwI l 0 3] else []) ++ ((bif Nat.blt 0 d then [rwI l 1 2] else []) ++ ((bif Nat.blt 0 e then [rwI l 1 3] else []) ++ (bif Nat.blt 0 f then [rwI l 2 3] else [])))))
/-- every cut is crossed -/
def cuts (n a b c d e f : Nat) : Bool := match n with
  | 1 => Nat.blt 0 a
  | 2 => Nat.blt 0 (a + b) && (Nat.blt 0 (b + d) && Nat.blt 0 (a + d))
  | 3 => Nat.blt 0 (a + b + c) && (Nat.blt 0 (b + c + d + e) && (Nat.blt 0 (a + c + d + f) && (Nat.blt 0 (a + b + e + f) && (Nat.blt 0 (c + e + f) && (Nat.blt 0 (b + d + f) && Nat.blt 0 (a + d + e))))))
  | _ => false
def S5 : List (List Nat) := [[16, 17, 20, 22, 23, 24, 28, 29, 30, 31, 36, 49, 52, 63, 70, 77, 91, 117, 130, 143, 169], [9, 16, 24, 28, 35, 40, 42, 49, 50, 55, 60, 78, 91, 104, 130, 169], [14, 23, 25, 27, 33, 34, 38, 64, 80, 88, 96, 104, 117, 120, 130, 143, 144, 169], [17, 19, 21, 28, 35, 36, 48, 54, 55, 60, 66, 78, 80, 91, 100, 104, 117, 130, 169], [13, 22, 23, 29, 49, 55, 56, 63, 64, 70, 77, 80, 84, 96, 100, 108, 120, 144]]
def dok (S : List Nat) (lam x : Nat) : Bool := Nat.beq x 0 || (Nat.ble (x * lam) 17576 && (Nat.ble x 256 && S.any fun e => Nat.beq (e % x) 0))
def mok (a b : I3) : Bool := Nat.ble (m2 a.2.1 a.2.2 b.2.1 b.2.2).natAbs 52 && (Nat.ble (m2 a.1 a.2.2 b.1 b.2.2).natAbs 52 && Nat.ble (m2 a.1 a.2.1 b.1 b.2.1).natAbs 52)
/-- the determinant by the second and third row's products -/
def d3c (a : I3) (x y z : Int) : Int := a.1 * x - a.2.1 * y + a.2.2 * z
def pairA (S : List Nat) (lam : Nat) (a : I3) : List I3 → Bool
  | [] => true
  | b :: l => mok a b && (fI (m2 a.2.1 a.2.2 b.2.1 b.2.2) (fun x => fI (m2 a.1 a.2.2 b.1 b.2.2) fun y => fI (m2 a.1 a.2.1 b.1 b.2.1) fun z => l.all fun c => fN (d3c c x y z).natAbs fun v => dok S lam v) && pairA S lam a l)
def triA (S : List Nat) (lam : Nat) : List I3 → Bool
  | [] => true
  | a :: l => pairA S lam a l && triA S lam l
def E4 : List I3 := [(1, 0, 0), (0, 1, 0), (0, 0, 1), (1, 1, 1)]
def poolOK (lam : Nat) (rs : List I3) : Bool := S5.any fun S => triA S lam (rs ++ E4)
def rowsOK (t : Int) (rs : List I3) : Bool := rs.all fun a => Nat.ble a.1.natAbs t.toNat && (Nat.ble a.2.1.natAbs t.toNat && Nat.ble a.2.2.natAbs t.toNat)
def okOut (n : Nat) (t1 : Nat) (rs : List I3) (a b c d e f : Nat) : Bool := !cuts n a b c d e f || fL (angL n a b c d e f) fun l => f3 (rwsI a b c d e f l) fun r2 => poolOK (Nat.lcm t1 (l.getD 0 0).toNat) (rs ++ r2)
def okNet (n a b c d e f : Nat) : Bool := !cuts n a b c d e f || fL (angL n a b c d e f) fun l => decide (0 < l.getD 0 0) && (decide (l.getD 0 0 ≤ 16) && (((List.range n).all fun nd => elR n nd l n 0 (eqL a b c d e f nd)) && f3 (rwsI a b c d e f l) fun rs => rowsOK (l.getD 0 0) rs && (poolOK (l.getD 0 0).toNat rs &&
  ((!Nat.blt 0 a || okOut n (l.getD 0 0).toNat rs (a - 1) b c d e f) && ((!Nat.blt 0 b || okOut n (l.getD 0 0).toNat rs a (b - 1) c d e f) && ((!Nat.blt 0 c || okOut n (l.getD 0 0).toNat rs a b (c - 1) d e f) && ((!Nat.blt 0 d || okOut n (l.getD 0 0).toNat rs a b c (d - 1) e f) && ((!Nat.blt 0 e || okOut n (l.getD 0 0).toNat rs a b c d (e - 1) f) && (!Nat.blt 0 f || okOut n (l.getD 0 0).toNat rs a b c d e (f - 1))))))))))
