/-! The reference's arithmetic on small fractions, by what a heap shows afterwards. -/
theorem EndN.mono {ss : SS} {TBL : List Cond} {g : GG} {cl : List vw_C} {d : MD} {p : Program} {l : Launch} {e : Env} {R : Room} {s : State} {m : MethodId} {args : Array Value} {below : List Frame} {meth : Method} {c : Code} {Q : State → Prop} {kc0 ks0 f lam KC KS : Nat} {PO PO' : Nat → Option Value → List CE → Prop} (h : EndN ss TBL g cl d p l e R s m args below meth c Q kc0 ks0 f lam KC KS PO') (hi : ∀ k r h, PO k r h → PO' k r h) : EndN ss TBL g cl d p l e R s m args below meth c Q kc0 ks0 f lam KC KS PO :=
  ⟨fun pc L h2 S r a b => h.1 pc L h2 S r a (hi _ _ _ b), fun pc x L h2 a b c9 => h.2.1 pc x L h2 a b (hi _ _ _ c9), fun pc x L h2 S a b c9 => h.2.2 pc x L h2 S a b (hi _ _ _ c9)⟩
theorem BodyN.mono {ss : SS} {TBL : List Cond} {g0 : GG} {cl : List vw_C} {bl : Nat} {xs : Nat → Int32} {l : Launch} {d : MD} {f lam mc ms : Nat} {as : List Value} {h : List CE} {PO PO' : Nat → Option Value → List CE → Prop} (hB : BodyN ss TBL g0 cl bl xs l d f lam mc ms as h PO) (hi : ∀ k r h, PO k r h → PO' k r h) : BodyN ss TBL g0 cl bl xs l d f lam mc ms as h PO' :=
  fun wp p e R s m args below meth c Q kc0 ks0 kc ks a1 a2 a3 a4 a5 a6 => hB wp p e R s m args below meth c Q kc0 ks0 kc ks a1 a2 a3 a4 a5 (a6.mono hi)
def POQ (hs : List CE) (q : Rat) : Nat → Option Value → List CE → Prop := fun kd _ h2 => kd = 0 ∧ ∃ t w : Int64, rd h2 124 7 = .long t ∧ rd h2 124 8 = .long w ∧ FR t w q ∧ FrS W0 hs h2
theorem poq_of {hs h2 : List CE} {t w : Int64} {q : Rat} (hk : shp hs 124 = some (9, 39)) (h : h2 = wr (wr hs 124 7 (.long t)) 124 8 (.long w)) (hF : FR t w q) : ∃ t w : Int64, rd h2 124 7 = .long t ∧ rd h2 124 8 = .long w ∧ FR t w q ∧ FrS W0 hs h2 := by
  subst h
  refine ⟨t, w, ?_, rd_same (by rw [shp_wr]; exact hk), hF, ((FrS.rf W0 hs).wr (.long t) (by unfold W0; omega)).wr (.long w) (by unfold W0; omega)⟩
  rw [rd_ne _ _ (Or.inr (by decide))]
  exact rd_same hk
def Sml (q : Rat) : Prop := q.num.natAbs ≤ 1000000000 ∧ q.den ≤ 1000000000
def Sm4 (q : Rat) : Prop := q.num.natAbs ≤ 10000 ∧ q.den ≤ 10000
theorem Sm4.sml {q : Rat} (h : Sm4 q) : Sml q := by unfold Sm4 at h; unfold Sml; omega
theorem frac_of {q : Rat} {N : Int} {L : Nat} (hL : 0 < L) (h : (L : Rat) * q = (N : Rat)) : q.num.natAbs ≤ N.natAbs ∧ q.den ≤ L := by
  have hd := den_dvd (q := q) (L := L) ⟨N, h⟩
  have hl := Nat.le_of_dvd hL hd
  obtain ⟨t, ht⟩ := hd
  have e2 : (N : Rat) = (q.num : Rat) * (t : Rat) := by
    rw [← h, num_den, ht, Rat.natCast_mul]; grind
  have e5 : N = q.num * (t : Int) := by
    have : (N : Rat) = ((q.num * (t : Int) : Int) : Rat) := by rw [Rat.intCast_mul]; exact e2
    exact Rat.intCast_inj.mp this
  have ht0 : 0 < t := by
    rcases Nat.eq_zero_or_pos t with z | z
    · rw [z, Nat.mul_zero] at ht; omega
    · exact z
  have : N.natAbs = q.num.natAbs * t := by rw [e5, Int.natAbs_mul, Int.natAbs_natCast]
  have := Nat.le_mul_of_pos_right q.num.natAbs ht0
  omega
theorem mul_nd (a b : Rat) : (a * b).num.natAbs ≤ a.num.natAbs * b.num.natAbs ∧ (a * b).den ≤ a.den * b.den := by
  have := frac_of (q := a * b) (N := a.num * b.num) (L := a.den * b.den) (Nat.mul_pos a.den_pos b.den_pos) (by
    rw [Rat.intCast_mul, num_den a, num_den b, Rat.natCast_mul]; grind)
  rw [Int.natAbs_mul] at this
  exact this
theorem neg_nd (a : Rat) : (-a).num.natAbs = a.num.natAbs ∧ (-a).den = a.den := ⟨by rw [Rat.neg_num, Int.natAbs_neg], Rat.neg_den a⟩
theorem Sm4.mul {a b : Rat} (h1 : Sm4 a) (h2 : Sm4 b) : Sml (a * b) := by
  have h := mul_nd a b
  have e1 := Nat.mul_le_mul h1.1 h2.1
  have e2 := Nat.mul_le_mul h1.2 h2.2
  unfold Sml
  omega
theorem Sm4.neg {a : Rat} (h1 : Sm4 a) : Sm4 (-a) := by
  unfold Sm4; rw [(neg_nd a).1, (neg_nd a).2]; exact h1
theorem Sml.neg {a : Rat} (h1 : Sml a) : Sml (-a) := by
  unfold Sml; rw [(neg_nd a).1, (neg_nd a).2]; exact h1
theorem FR.sm {t w : Int64} {q : Rat} (h : FR t w q) (hs : Sml q) : t.toInt.natAbs ≤ 1000000000 ∧ w.toInt.natAbs ≤ 1000000000 ∧ 0 < w.toInt := by
  have := h.pos
  refine ⟨by rw [h.1]; exact hs.1, by rw [h.2, Int.natAbs_natCast]; exact hs.2, this⟩
theorem FR.ng {t w : Int64} {q : Rat} (h : FR t w q) (ht : -9223372036854775808 < t.toInt) : FR (-t) w (-q) := by
  refine ⟨by rw [l_neg ht, h.1, Rat.neg_num], by rw [h.2, Rat.neg_den]⟩
theorem FR.iv {t w : Int64} {q : Rat} (h : FR t w q) : Rat.divInt w.toInt t.toInt = q⁻¹ := by
  rw [← fr_q h, Rat.inv_divInt]
theorem nn {a b c d : Nat} (h1 : a ≤ c) (h2 : b ≤ d) : (a : Int) * (b : Int) ≤ ((c * d : Nat) : Int) := by
  rw [← Int.natCast_mul]; exact Int.ofNat_le.mpr (Nat.mul_le_mul h1 h2)
section AR2
variable {g0 : GG} {bl : Nat} {xs : Nat → Int32} {l : Launch} {hs : List CE} {a b c1 d : Int64} {q1 q2 : Rat}
theorem b_timesQ (rw0 : RW hs) (h1 : FR a b q1) (h2 : FR c1 d q2) (s1 : Sml q1) (s2 : Sml q2) : BodyN SSX TBL g0 CLS bl xs l D_282 2 55 0 0 [.ref 124, .long a, .long b, .long c1, .long d] hs (POQ hs (q1 * q2)) := by
  have m1 := h1.sm s1
  have m2 := h2.sm s2
  have e1 := nn m1.1 m2.1
  have e2 := nn m1.2.1 m2.2.1
  refine (b_times rw0.1 h1 (by omega) (by omega) (by omega) (by omega) (by omega) (by omega)).mono (fun k r h ⟨z, t, w, e, hF⟩ => ⟨z, poq_of rw0.1 e (by rw [fr_q h2] at hF; exact hF)⟩)
theorem b_timesI (rw0 : RW hs) (h1 : FR a b q1) (h2 : FR c1 d q2) (s1 : Sml q1) (s2 : Sml q2) (hz : q2 ≠ 0) : BodyN SSX TBL g0 CLS bl xs l D_282 2 55 0 0 [.ref 124, .long a, .long b, .long d, .long c1] hs (POQ hs (q1 * q2⁻¹)) := by
  have m1 := h1.sm s1
  have m2 := h2.sm s2
  have e1 := nn m1.1 m2.2.1
  have e2 := nn m1.2.1 m2.1
  have hc : c1.toInt ≠ 0 := fun z => hz (h2.z.mp z)
  refine (b_times rw0.1 h1 hc (by omega) (by omega) (by omega) (by omega) (by omega)).mono (fun k r h ⟨z, t, w, e, hF⟩ => ⟨z, poq_of rw0.1 e (by rw [h2.iv] at hF; exact hF)⟩)
theorem b_plusQ (rw0 : RW hs) (h1 : FR a b q1) (h2 : FR c1 d q2) (s1 : Sml q1) (s2 : Sml q2) : BodyN SSX TBL g0 CLS bl xs l D_252 2 55 0 0 [.ref 124, .long a, .long b, .long c1, .long d] hs (POQ hs (q1 + q2)) := by
  have m1 := h1.sm s1
  have m2 := h2.sm s2
  have hd : (d.toInt.natAbs : Int) = d.toInt := by omega
  have hb : (b.toInt.natAbs : Int) = b.toInt := by omega
  have e1 := nn m1.1 m2.2.1
  have e2 := nn m2.1 m1.2.1
  have e3 := nn m2.2.1 m1.2.1
  rw [hd] at e1
  rw [hb] at e2 e3
  refine (b_plus rw0.1 h1 h2 (by omega) (by omega)).mono (fun k r h ⟨z, t, w, e, hF⟩ => ⟨z, poq_of rw0.1 e hF⟩)
theorem b_isQ (rw0 : RW hs) (h1 : FR a b q1) (s1 : Sml q1) : BodyN SSX TBL g0 CLS bl xs l D_218 1 29 0 0 [.ref 124, .long a, .long b] hs (POQ hs q1) := by
  have m1 := h1.sm s1
  refine (b_is rw0.1 (by omega) (by omega) (by omega)).mono (fun k r h ⟨z, t, w, e, hF⟩ => ⟨z, poq_of rw0.1 e (by rw [fr_q h1] at hF; exact hF)⟩)
end AR2
