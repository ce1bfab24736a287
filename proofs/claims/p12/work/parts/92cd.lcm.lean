/-! The reference's plus where a common denominator is known. -/
theorem b_plusL {g0 : GG} {bl : Nat} {xs : Nat → Int32} {l : Launch} {hs : List CE} {k : Nat} {a b c1 d : Int64} {q1 q2 : Rat} (hk : shp hs k = some (9, 39)) (h1 : FR a b q1) (h2 : FR c1 d q2) (hB1 : (a.toInt.natAbs : Int) * d.toInt.tdiv ((Int.gcd b.toInt d.toInt : Nat) : Int) + (c1.toInt.natAbs : Int) * b.toInt.tdiv ((Int.gcd b.toInt d.toInt : Nat) : Int) < 9223372036854775808) (hB2 : b.toInt.tdiv ((Int.gcd b.toInt d.toInt : Nat) : Int) * d.toInt < 9223372036854775808) : BodyN SSX TBL g0 CLS bl xs l D_252 2 55 0 0 [.ref k, .long a, .long b, .long c1, .long d] hs (fun kd r h2 => kd = 0 ∧ ∃ t w : Int64, h2 = wr (wr hs k 7 (.long t)) k 8 (.long w) ∧ FR t w (q1 + q2)) := by
  intro wp p e R s m args below meth c Q kc0 ks0 kc ks act hf hl hc hsl hEnd
  have hb0 := h1.pos
  have hd0 := h2.pos
  show WpN (gp g0 wp) CLS p l e R s m args below meth c Q D_252.2.2.1 kc0 ks0 0 [some (.ref k), some (.long a), none, some (.long b), none, some (.long c1), none, some (.long d), none, none, none] (hs, kc, ks) []
  refine g_loadL act (gx gp_252 (w := 0x3000106) rfl (by decide) rfl) (a := 3) (n := 1) rfl rfl rfl ?_
  refine g_loadL act (gx gp_252 (w := 0x7000306) rfl (by decide) rfl) (a := 7) (n := 3) rfl rfl rfl ?_
  refine n_call tb_pres act hEnd (gx (P := G_call) gp_252 (w := 0x428420000bf00060f) rfl (by decide) rfl) (d' := D_191) rfl (as := [.long b, .long d]) (rest := []) (b_common (by omega) (by omega)) (show (2 : Nat) = fb 0x428420000bf00060f % 16 by decide) (by show (4 : Nat) ≤ 10; decide) (fun q => absurd q (by decide)) (by omega) (by show 8 + (10 + 11) + 0 ≤ R.locals; omega) (by show (0 : Nat) ≤ 8; decide) (by show kc + 0 ≤ _; omega) (by show ks + 0 ≤ _; omega) (fun r9 hs9 hpo hr9 => ?_) (fun x9 hs9 hx9 hpo => ?_)
  · obtain ⟨-, rfl, z, rfl, hz⟩ := hpo
    have gp9 : 0 < z.toInt := by rw [hz]; have := Int.gcd_pos_of_ne_zero_right b.toInt (show d.toInt ≠ 0 by omega); omega
    have dv1 : z.toInt ∣ b.toInt := by rw [hz]; exact Int.gcd_dvd_left ..
    have dv2 : z.toInt ∣ d.toInt := by rw [hz]; exact Int.gcd_dvd_right ..
    have k1 := gd_le hb0 gp9 dv1
    have k2 := gd_le hd0 gp9 dv2
    have e1 := l_divg (x := b) (y := z) (by omega)
    have e2 := l_divg (x := d) (y := z) (by omega)
    rw [← hz] at hB1 hB2
    have n1 := Int.mul_nonneg (show (0 : Int) ≤ a.toInt.natAbs by omega) (show 0 ≤ d.toInt.tdiv z.toInt by omega)
    have n2 := Int.mul_nonneg (show (0 : Int) ≤ c1.toInt.natAbs by omega) (show 0 ≤ b.toInt.tdiv z.toInt by omega)
    have m1 := mul_le a.toInt (show 0 ≤ d.toInt.tdiv z.toInt by omega) (Int.le_refl _)
    have m2 := mul_le c1.toInt (show 0 ≤ b.toInt.tdiv z.toInt by omega) (Int.le_refl _)
    have f5 : 0 < b.toInt.tdiv z.toInt * d.toInt := Int.mul_pos k1.1 hd0
    have f1 : (a * (d / z)).toInt = a.toInt * d.toInt.tdiv z.toInt := by rw [l_mul (by rw [e2]; omega) (by rw [e2]; omega), e2]
    have f2 : (c1 * (b / z)).toInt = c1.toInt * b.toInt.tdiv z.toInt := by rw [l_mul (by rw [e1]; omega) (by rw [e1]; omega), e1]
    have f3 : (b / z * d).toInt = b.toInt.tdiv z.toInt * d.toInt := by rw [l_mul (by rw [e1]; omega) (by rw [e1]; omega), e1]
    have f4 : (a * (d / z) + c1 * (b / z)).toInt = a.toInt * d.toInt.tdiv z.toInt + c1.toInt * b.toInt.tdiv z.toInt := by rw [l_add (by rw [f1, f2]; omega) (by rw [f1, f2]; omega), f1, f2]
    show WpN (gp g0 wp) CLS p l e R s m args below meth c Q D_252.2.2.1 kc0 ks0 6 [some (.ref k), some (.long a), none, some (.long b), none, some (.long c1), none, some (.long d), none, none, none] (hs, kc, ks) [.long z]
    refine g_storeL act (gx gp_252 (w := 0x900080b) rfl (by decide) rfl) (a := 9) (n := 8) rfl rfl (L2 := [some (.ref k), some (.long a), none, some (.long b), none, some (.long c1), none, some (.long d), none, some (.long z), none]) rfl ?_
    refine g_loadA act (gx gp_252 (w := 0x903) rfl (by decide) rfl) (a := 0) (n := 9) rfl rfl rfl ?_
    refine g_loadL act (gx gp_252 (w := 0x1000a06) rfl (by decide) rfl) (a := 1) (n := 10) rfl rfl rfl ?_
    refine g_loadL act (gx gp_252 (w := 0x7000c06) rfl (by decide) rfl) (a := 7) (n := 12) rfl rfl rfl ?_
    refine g_loadL act (gx gp_252 (w := 0x9000e06) rfl (by decide) rfl) (a := 9) (n := 14) rfl rfl rfl ?_
    refine g_ldiv act (gx gp_252 (w := 0xf16) rfl (by decide) rfl) (n := 15) (fun q => by have q2 := congrArg Int64.toInt q; rw [l0] at q2; omega) rfl ?_
    refine g_lmul act (gx gp_252 (w := 0x1015) rfl (by decide) rfl) (n := 16) rfl ?_
    refine g_loadL act (gx gp_252 (w := 0x5001206) rfl (by decide) rfl) (a := 5) (n := 18) rfl rfl rfl ?_
    refine g_loadL act (gx gp_252 (w := 0x3001306) rfl (by decide) rfl) (a := 3) (n := 19) rfl rfl rfl ?_
    refine g_loadL act (gx gp_252 (w := 0x9001506) rfl (by decide) rfl) (a := 9) (n := 21) rfl rfl rfl ?_
    refine g_ldiv act (gx gp_252 (w := 0x1616) rfl (by decide) rfl) (n := 22) (fun q => by have q2 := congrArg Int64.toInt q; rw [l0] at q2; omega) rfl ?_
    refine g_lmul act (gx gp_252 (w := 0x1715) rfl (by decide) rfl) (n := 23) rfl ?_
    refine g_ladd act (gx gp_252 (w := 0x181f) rfl (by decide) rfl) (n := 24) rfl ?_
    refine g_loadL act (gx gp_252 (w := 0x3001906) rfl (by decide) rfl) (a := 3) (n := 25) rfl rfl rfl ?_
    refine g_loadL act (gx gp_252 (w := 0x9001b06) rfl (by decide) rfl) (a := 9) (n := 27) rfl rfl rfl ?_
    refine g_ldiv act (gx gp_252 (w := 0x1c16) rfl (by decide) rfl) (n := 28) (fun q => by have q2 := congrArg Int64.toInt q; rw [l0] at q2; omega) rfl ?_
    refine g_loadL act (gx gp_252 (w := 0x7001e06) rfl (by decide) rfl) (a := 7) (n := 30) rfl rfl rfl ?_
    refine g_lmul act (gx gp_252 (w := 0x1f15) rfl (by decide) rfl) (n := 31) rfl ?_
    refine n_call tb_pres act hEnd (gx (P := G_call) gp_252 (w := 0xa00000000000081c530000da00220f) rfl (by decide) rfl) (d' := D_218) rfl (as := [.ref k, .long ((a * (d / z)) + (c1 * (b / z))), .long ((b / z) * d)]) (rest := []) (b_is hk (by rw [f4]; omega) (by rw [f3]; omega) (by rw [f3]; omega)) (show (3 : Nat) = fb 0xa00000000000081c530000da00220f % 16 by decide) (by show (5 : Nat) ≤ 7; decide) (fun _ => ⟨_, _, rfl, _, shp_at hk, Or.inr (show fb 0xa00000000000081c530000da00220f >>> 68 = 10 by decide)⟩) (by omega) (by show 8 + (7 + 11) + 29 ≤ R.locals; omega) (by show (0 : Nat) ≤ 8; decide) (by show kc + 0 ≤ _; omega) (by show ks + 0 ≤ _; omega) (fun r9 hs9 hpo hr9 => ?_) (fun x9 hs9 hx9 hpo => ?_)
    · obtain rfl : r9 = none := hr9.elim (fun q => q.2) (fun q => absurd rfl q.1)
      obtain ⟨-, t, w2, rfl, hf9⟩ := hpo
      rw [f4, f3, fr_plus hb0 hd0 gp9 dv1 dv2, fr_q h1, fr_q h2] at hf9
      show WpN (gp g0 wp) CLS p l e R s m args below meth c Q D_252.2.2.1 kc0 ks0 34 [some (.ref k), some (.long a), none, some (.long b), none, some (.long c1), none, some (.long d), none, some (.long z), none] ((wr (wr hs k 7 (.long t)) k 8 (.long w2)), kc, ks) []
      exact g_retV hEnd (gx gp_252 (w := 0x18) rfl (by decide) rfl) ⟨rfl, t, w2, rfl, hf9⟩ (by show kc ≤ kc + 0; omega) (by show ks ≤ ks + 0; omega)
    · exact absurd hpo.1 (by omega)
  · exact absurd hpo.1 (by omega)
theorem dvd_uv {b d u L : Nat} (hL : L = b * u) (hd : d ∣ L) (hb : 0 < b) : d / Nat.gcd b d ∣ u := by
  have hg : 0 < Nat.gcd b d := Nat.gcd_pos_of_pos_left _ hb
  have hc : Nat.Coprime (d / Nat.gcd b d) (b / Nat.gcd b d) := (Nat.coprime_div_gcd_div_gcd hg).symm
  apply hc.dvd_of_dvd_mul_left
  have h3 : Nat.gcd b d * (d / Nat.gcd b d) ∣ Nat.gcd b d * ((b / Nat.gcd b d) * u) := by
    rw [Nat.mul_div_cancel' (Nat.gcd_dvd_right b d), ← Nat.mul_assoc, Nat.mul_div_cancel' (Nat.gcd_dvd_left b d), ← hL]
    exact hd
  exact Nat.dvd_of_mul_dvd_mul_left hg h3
theorem num_of {L : Nat} {N : Int} {q : Rat} (hL : 0 < L) (h : (L : Rat) * q = (N : Rat)) : ∃ u : Nat, 0 < u ∧ L = q.den * u ∧ N = q.num * (u : Int) := by
  obtain ⟨u, hu⟩ := den_dvd (L := L) (q := q) ⟨N, h⟩
  refine ⟨u, ?_, hu, ?_⟩
  · rcases Nat.eq_zero_or_pos u with z | z
    · rw [z, Nat.mul_zero] at hu; omega
    · exact z
  · rw [hu, Rat.natCast_mul] at h
    have e : (q.den : Rat) * q = (q.num : Rat) := by rw [num_den q]; grind
    have e2 : (N : Rat) = ((q.num * (u : Int) : Int) : Rat) := by
      rw [Rat.intCast_mul, ← e, ← h]
      show (q.den : Rat) * (u : Rat) * q = (q.den : Rat) * q * (u : Rat)
      grind
    exact Rat.intCast_inj.mp e2
theorem b_plusI {g0 : GG} {bl : Nat} {xs : Nat → Int32} {l : Launch} {hs : List CE} {k : Nat} {a b c1 d : Int64} {q1 q2 : Rat} {L : Nat} {N1 N2 : Int} (hk : shp hs k = some (9, 39)) (h1 : FR a b q1) (h2 : FR c1 d q2) (hL : 0 < L) (hL2 : L < 9223372036854775808) (e1 : (L : Rat) * q1 = (N1 : Rat)) (e2 : (L : Rat) * q2 = (N2 : Rat)) (hN : N1.natAbs + N2.natAbs < 9223372036854775808) : BodyN SSX TBL g0 CLS bl xs l D_252 2 55 0 0 [.ref k, .long a, .long b, .long c1, .long d] hs (fun kd r h2 => kd = 0 ∧ ∃ t w : Int64, h2 = wr (wr hs k 7 (.long t)) k 8 (.long w) ∧ FR t w (q1 + q2)) := by
  obtain ⟨u, hu0, hu, eu⟩ := num_of hL e1
  obtain ⟨v, hv0, hv, ev⟩ := num_of hL e2
  have hb := q1.den_pos
  have hd := q2.den_pos
  have d1 := dvd_uv hu ⟨v, hv⟩ hb
  have d2 := dvd_uv hv ⟨u, hu⟩ hd
  rw [Nat.gcd_comm] at d2
  have l1 := Nat.le_of_dvd hu0 d1
  have l2 := Nat.le_of_dvd hv0 d2
  have hg : Int.gcd b.toInt d.toInt = Nat.gcd q1.den q2.den := by rw [h1.2, h2.2]; rfl
  have t1 : d.toInt.tdiv ((Int.gcd b.toInt d.toInt : Nat) : Int) = ((q2.den / Nat.gcd q1.den q2.den : Nat) : Int) := by rw [hg, h2.2, Int.ofNat_tdiv]
  have t2 : b.toInt.tdiv ((Int.gcd b.toInt d.toInt : Nat) : Int) = ((q1.den / Nat.gcd q1.den q2.den : Nat) : Int) := by rw [hg, h1.2, Int.ofNat_tdiv]
  have m1 : q1.num.natAbs * (q2.den / Nat.gcd q1.den q2.den) ≤ N1.natAbs := by
    rw [eu, Int.natAbs_mul, Int.natAbs_natCast]
    exact Nat.mul_le_mul_left _ l1
  have m2 : q2.num.natAbs * (q1.den / Nat.gcd q1.den q2.den) ≤ N2.natAbs := by
    rw [ev, Int.natAbs_mul, Int.natAbs_natCast]
    exact Nat.mul_le_mul_left _ l2
  have m3 : (q1.den / Nat.gcd q1.den q2.den) * q2.den ≤ L := by
    rw [hv, Nat.mul_comm]
    exact Nat.mul_le_mul_left _ l2
  refine b_plusL hk h1 h2 ?_ ?_
  · rw [t1, t2, h1.1, h2.1, ← Int.natCast_mul, ← Int.natCast_mul]
    omega
  · rw [t2, h2.2, ← Int.natCast_mul]
    omega
def PN (M : Nat) (q : Rat) : Prop := ∃ N : Int, (M : Rat) * q = (N : Rat) ∧ N.natAbs ≤ 400000000000000
section PLX
variable {g0 : GG} {bl : Nat} {xs : Nat → Int32} {l : Launch} {hs : List CE} {a b c1 d : Int64} {q1 q2 : Rat} {M : Nat}
theorem b_plusX (rw0 : RW hs) (h1 : FR a b q1) (h2 : FR c1 d q2) (hM : 0 < M) (hM2 : M < 9223372036854775808) (x1 : PN M q1) (x2 : PN M q2) : BodyN SSX TBL g0 CLS bl xs l D_252 2 55 0 0 [.ref 124, .long a, .long b, .long (-c1), .long d] hs (POQ hs (q1 + -q2)) := by
  obtain ⟨N1, e1, b1⟩ := x1
  obtain ⟨N2, e2, b2⟩ := x2
  have f2 := (frac_of hM e2).1
  have h3 := h2.ng (by rw [h2.1]; omega)
  have e3 : (M : Rat) * -q2 = ((-N2 : Int) : Rat) := by rw [Rat.intCast_neg, ← e2]; grind
  exact (b_plusI rw0.1 h1 h3 hM hM2 e1 e3 (by omega)).mono (fun k r h ⟨z, t, w, e, hF⟩ => ⟨z, poq_of rw0.1 e hF⟩)
theorem b_plusY (rw0 : RW hs) (h1 : FR a b q1) (h2 : FR c1 d q2) (hM : 0 < M) (hM2 : M < 9223372036854775808) {N1 N2 : Int} (e1 : (M : Rat) * q1 = (N1 : Rat)) (e2 : (M : Rat) * q2 = (N2 : Rat)) (hN : N1.natAbs + N2.natAbs < 9223372036854775808) : BodyN SSX TBL g0 CLS bl xs l D_252 2 55 0 0 [.ref 124, .long a, .long b, .long c1, .long d] hs (POQ hs (q1 + q2)) :=
  (b_plusI rw0.1 h1 h2 hM hM2 e1 e2 hN).mono (fun k r h ⟨z, t, w, e, hF⟩ => ⟨z, poq_of rw0.1 e hF⟩)
theorem b_timesZ (rw0 : RW hs) (h1 : FR a b q1) {z : Int} (hz : c1.toInt = z) (hM : 0 < M) (hM2 : M < 9223372036854775808) (x1 : PN M q1) (hz1 : 0 ≤ z) (hz2 : z ≤ 100) : BodyN SSX TBL g0 CLS bl xs l D_282 2 55 0 0 [.ref 124, .long a, .long b, .long c1, .long (1 : Int64)] hs (POQ hs (q1 * (z : Rat))) := by
  obtain ⟨N1, e1, b1⟩ := x1
  have f1 := frac_of hM e1
  have k1 : a.toInt.natAbs ≤ 400000000000000 := by rw [h1.1]; omega
  have k2 : a.toInt.natAbs * c1.toInt.natAbs ≤ 400000000000000 * 100 := Nat.mul_le_mul k1 (by omega)
  have k3 : (1 : Int64).toInt = 1 := by decide
  have hb := h1.pos
  have hb2 := h1.2
  refine (b_times rw0.1 h1 (by rw [k3]; decide) (by omega) (by rw [k3]; decide) (by rw [← Int.natCast_mul]; omega) (by rw [k3]; show (b.toInt.natAbs : Int) * 1 < _; omega) (by omega)).mono (fun k r h ⟨z2, t, w, e, hF⟩ => ⟨z2, poq_of rw0.1 e ?_⟩)
  rw [k3, hz, show Rat.divInt z 1 = (z : Rat) from Rat.num_divInt_den (z : Rat)] at hF
  exact hF
end PLX
