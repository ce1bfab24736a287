/-! The reference: exact sums. -/
theorem PDpos {tl : Nat → Int} {nl n : Nat} {ou : Int} {D : Nat} (h : NG tl nl n ou) (hD : PD tl nl n ou D) : 0 < D ∧ D ≤ 256 := by
  obtain ⟨S9, hS, hp⟩ := net_pool h
  obtain ⟨a, b, c, q1, q2, q3, e, hne⟩ := hD
  have := dok_t ((inP_t hp).2 a b c q1 q2 q3)
  rw [← e] at this
  exact ⟨by omega, by first | exact this.1 | exact this.2.1 | omega⟩
theorem cf_int {D : Nat} {C : Rat} (hD : 0 < D) (hI : IsI ((D : Rat) * C)) (h1 : 0 ≤ C) (h2 : C ≤ 99000) : ∃ c : Int, (D : Rat) * C = (c : Rat) ∧ 0 ≤ c ∧ c ≤ 99000 * (D : Int) := by
  obtain ⟨c, hc⟩ := hI
  have d0 : (0 : Rat) ≤ (D : Rat) := by
    show ((0 : Int) : Rat) ≤ (((D : Nat) : Int) : Rat)
    exact Rat.intCast_le_intCast.mpr (by omega)
  refine ⟨c, hc, ?_, ?_⟩
  · have := Rat.mul_nonneg d0 h1
    rw [hc] at this
    exact Rat.intCast_le_intCast.mp this
  · have := Rat.mul_le_mul_of_nonneg_left h2 d0
    rw [hc] at this
    apply Rat.intCast_le_intCast.mp
    rw [Rat.intCast_mul]
    show (c : Rat) ≤ (99000 : Rat) * (D : Rat)
    grind
theorem b_timesD {g0 : GG} {bl : Nat} {xs : Nat → Int32} {l : Launch} {hs : List CE} {k : Nat} {a b c1 d : Int64} (hk : shp hs k = some (9, 39)) (hb0 : 0 < b.toInt) (hdz : d.toInt ≠ 0) (hc9 : -9223372036854775808 < c1.toInt) (hd9 : -9223372036854775808 < d.toInt) (hB1 : (a.toInt.natAbs : Int) * (c1.toInt.natAbs : Int) < 9223372036854775808) (hB2 : (b.toInt.natAbs : Int) * (d.toInt.natAbs : Int) < 9223372036854775808) (ha9 : -9223372036854775808 < a.toInt) : BodyN SSX TBL g0 CLS bl xs l D_282 2 55 0 0 [.ref k, .long a, .long b, .long c1, .long d] hs (fun kd r h2 => kd = 0 ∧ ∃ t w : Int64, h2 = wr (wr hs k 7 (.long t)) k 8 (.long w) ∧ FR t w (Rat.divInt a.toInt b.toInt * (Rat.divInt c1.toInt d.toInt))) := by
  intro wp p e R s m args below meth c Q kc0 ks0 kc ks act hf hl hc hsl hEnd
  show WpN (gp g0 wp) CLS p l e R s m args below meth c Q D_282.2.2.1 kc0 ks0 0 [some (.ref k), some (.long a), none, some (.long b), none, some (.long c1), none, some (.long d), none, none, none, none, none] (hs, kc, ks) []
  refine g_loadL act (gx gp_282 (w := 0x1000106) rfl (by decide) rfl) (a := 1) (n := 1) rfl rfl rfl ?_
  refine g_loadL act (gx gp_282 (w := 0x7000306) rfl (by decide) rfl) (a := 7) (n := 3) rfl rfl rfl ?_
  refine n_call tb_pres act hEnd (gx (P := G_call) gp_282 (w := 0x428420000bf00060f) rfl (by decide) rfl) (d' := D_191) rfl (as := [.long a, .long d]) (rest := []) (b_common ha9 hd9) (show (2 : Nat) = fb 0x428420000bf00060f % 16 by decide) (by show (4 : Nat) ≤ 10; decide) (fun q => absurd q (by decide)) (by omega) (by show 8 + (10 + 11) + 0 ≤ R.locals; omega) (by show (0 : Nat) ≤ 8; decide) (by show kc + 0 ≤ _; omega) (by show ks + 0 ≤ _; omega) (fun r9 hs9 hpo hr9 => ?_) (fun x9 hs9 hx9 hpo => ?_)
  · obtain ⟨-, rfl, z1, rfl, hz1⟩ := hpo
    have gp1 : 0 < z1.toInt := by rw [hz1]; have := Int.gcd_pos_of_ne_zero_right a.toInt hdz; omega
    have dv1 : z1.toInt ∣ a.toInt := by rw [hz1]; exact Int.gcd_dvd_left ..
    have dv2 : z1.toInt ∣ d.toInt := by rw [hz1]; exact Int.gcd_dvd_right ..
    show WpN (gp g0 wp) CLS p l e R s m args below meth c Q D_282.2.2.1 kc0 ks0 6 [some (.ref k), some (.long a), none, some (.long b), none, some (.long c1), none, some (.long d), none, none, none, none, none] (hs, kc, ks) [.long z1]
    refine g_storeL act (gx gp_282 (w := 0x900080b) rfl (by decide) rfl) (a := 9) (n := 8) rfl rfl (L2 := [some (.ref k), some (.long a), none, some (.long b), none, some (.long c1), none, some (.long d), none, some (.long z1), none, none, none]) rfl ?_
    refine g_loadL act (gx gp_282 (w := 0x5000a06) rfl (by decide) rfl) (a := 5) (n := 10) rfl rfl rfl ?_
    refine g_loadL act (gx gp_282 (w := 0x3000b06) rfl (by decide) rfl) (a := 3) (n := 11) rfl rfl rfl ?_
    refine n_call tb_pres act hEnd (gx (P := G_call) gp_282 (w := 0x428420000bf000e0f) rfl (by decide) rfl) (d' := D_191) rfl (as := [.long c1, .long b]) (rest := []) (b_common hc9 (by omega)) (show (2 : Nat) = fb 0x428420000bf000e0f % 16 by decide) (by show (4 : Nat) ≤ 10; decide) (fun q => absurd q (by decide)) (by omega) (by show 8 + (10 + 11) + 0 ≤ R.locals; omega) (by show (0 : Nat) ≤ 8; decide) (by show kc + 0 ≤ _; omega) (by show ks + 0 ≤ _; omega) (fun r9 hs9 hpo hr9 => ?_) (fun x9 hs9 hx9 hpo => ?_)
    · obtain ⟨-, rfl, z2, rfl, hz2⟩ := hpo
      have gp2 : 0 < z2.toInt := by rw [hz2]; have := Int.gcd_pos_of_ne_zero_right c1.toInt (show b.toInt ≠ 0 by omega); omega
      have dv3 : z2.toInt ∣ c1.toInt := by rw [hz2]; exact Int.gcd_dvd_left ..
      have dv4 : z2.toInt ∣ b.toInt := by rw [hz2]; exact Int.gcd_dvd_right ..
      have e1 := l_divg (x := a) (y := z1) ha9
      have e2 := l_divg (x := c1) (y := z2) hc9
      have e3 := l_divg (x := b) (y := z2) (by omega)
      have e4 := l_divg (x := d) (y := z1) hd9
      have a1 := tdiv_abs a.toInt gp1
      have a2 := tdiv_abs c1.toInt gp2
      have a3 := tdiv_abs b.toInt gp2
      have a4 := tdiv_abs d.toInt gp1
      have m1 := mul_abs a1 a2
      have m2 := mul_abs a3 a4
      have f1 : (a / z1 * (c1 / z2)).toInt = a.toInt.tdiv z1.toInt * c1.toInt.tdiv z2.toInt := by rw [l_mul (by rw [e1, e2]; omega) (by rw [e1, e2]; omega), e1, e2]
      have f2 : (b / z2 * (d / z1)).toInt = b.toInt.tdiv z2.toInt * d.toInt.tdiv z1.toInt := by rw [l_mul (by rw [e3, e4]; omega) (by rw [e3, e4]; omega), e3, e4]
      have f3 : b.toInt.tdiv z2.toInt * d.toInt.tdiv z1.toInt ≠ 0 := by
        have g1 := gd gp2 dv4
        have g2 := gd gp1 dv2
        intro q
        rcases Int.mul_eq_zero.mp q with q | q
        · rw [q, Int.zero_mul] at g1; omega
        · rw [q, Int.zero_mul] at g2; omega
      show WpN (gp g0 wp) CLS p l e R s m args below meth c Q D_282.2.2.1 kc0 ks0 14 [some (.ref k), some (.long a), none, some (.long b), none, some (.long c1), none, some (.long d), none, some (.long z1), none, none, none] (hs, kc, ks) [.long z2]
      refine g_storeL act (gx gp_282 (w := 0xb00100b) rfl (by decide) rfl) (a := 11) (n := 16) rfl rfl (L2 := [some (.ref k), some (.long a), none, some (.long b), none, some (.long c1), none, some (.long d), none, some (.long z1), none, some (.long z2), none]) rfl ?_
      refine g_loadL act (gx gp_282 (w := 0x9001206) rfl (by decide) rfl) (a := 9) (n := 18) rfl rfl rfl ?_
      refine g_constL act (gx gp_282 (w := 0x40000000000000002000000001301) rfl (by decide) rfl) (n := 19) (x := 0) (by decide) rfl ?_
      refine g_lcmp act (gx gp_282 (w := 0x140c) rfl (by decide) rfl) (n := 20) rfl ?_
      refine g_ifNe act (gx gp_282 (w := 0x1b00171d) rfl (by decide) rfl) (tgt := 27) (n := 23) rfl rfl (fun h10 => ?_) (fun h10 => ?_)
      · simp only [cmpEq, show (0 : Int64).toInt = 0 from by decide] at h10
        refine g_loadL act (gx gp_282 (w := 0x9001d06) rfl (by decide) rfl) (a := 9) (n := 29) rfl rfl rfl ?_
        refine g_storeL act (gx gp_282 (w := 0x9001f0b) rfl (by decide) rfl) (a := 9) (n := 31) rfl rfl (L2 := [some (.ref k), some (.long a), none, some (.long b), none, some (.long c1), none, some (.long d), none, some (.long z1), none, some (.long z2), none]) rfl ?_
        refine g_loadL act (gx gp_282 (w := 0xb002106) rfl (by decide) rfl) (a := 11) (n := 33) rfl rfl rfl ?_
        refine g_constL act (gx gp_282 (w := 0x40000000000000002000000002201) rfl (by decide) rfl) (n := 34) (x := 0) (by decide) rfl ?_
        refine g_lcmp act (gx gp_282 (w := 0x230c) rfl (by decide) rfl) (n := 35) rfl ?_
        refine g_ifNe act (gx gp_282 (w := 0x2a00261d) rfl (by decide) rfl) (tgt := 42) (n := 38) rfl rfl (fun h16 => ?_) (fun h16 => ?_)
        · simp only [cmpEq, show (0 : Int64).toInt = 0 from by decide] at h16
          refine g_loadL act (gx gp_282 (w := 0xb002c06) rfl (by decide) rfl) (a := 11) (n := 44) rfl rfl rfl ?_
          refine g_storeL act (gx gp_282 (w := 0xb002e0b) rfl (by decide) rfl) (a := 11) (n := 46) rfl rfl (L2 := [some (.ref k), some (.long a), none, some (.long b), none, some (.long c1), none, some (.long d), none, some (.long z1), none, some (.long z2), none]) rfl ?_
          refine g_loadA act (gx gp_282 (w := 0x2f03) rfl (by decide) rfl) (a := 0) (n := 47) rfl rfl rfl ?_
          refine g_loadL act (gx gp_282 (w := 0x1003006) rfl (by decide) rfl) (a := 1) (n := 48) rfl rfl rfl ?_
          refine g_loadL act (gx gp_282 (w := 0x9003206) rfl (by decide) rfl) (a := 9) (n := 50) rfl rfl rfl ?_
          refine g_ldiv act (gx gp_282 (w := 0x3316) rfl (by decide) rfl) (n := 51) (fun q => by have q2 := congrArg Int64.toInt q; rw [l0] at q2; omega) rfl ?_
          refine g_loadL act (gx gp_282 (w := 0x5003506) rfl (by decide) rfl) (a := 5) (n := 53) rfl rfl rfl ?_
          refine g_loadL act (gx gp_282 (w := 0xb003706) rfl (by decide) rfl) (a := 11) (n := 55) rfl rfl rfl ?_
          refine g_ldiv act (gx gp_282 (w := 0x3816) rfl (by decide) rfl) (n := 56) (fun q => by have q2 := congrArg Int64.toInt q; rw [l0] at q2; omega) rfl ?_
          refine g_lmul act (gx gp_282 (w := 0x3915) rfl (by decide) rfl) (n := 57) rfl ?_
          refine g_loadL act (gx gp_282 (w := 0x3003a06) rfl (by decide) rfl) (a := 3) (n := 58) rfl rfl rfl ?_
          refine g_loadL act (gx gp_282 (w := 0xb003c06) rfl (by decide) rfl) (a := 11) (n := 60) rfl rfl rfl ?_
          refine g_ldiv act (gx gp_282 (w := 0x3d16) rfl (by decide) rfl) (n := 61) (fun q => by have q2 := congrArg Int64.toInt q; rw [l0] at q2; omega) rfl ?_
          refine g_loadL act (gx gp_282 (w := 0x7003f06) rfl (by decide) rfl) (a := 7) (n := 63) rfl rfl rfl ?_
          refine g_loadL act (gx gp_282 (w := 0x9004106) rfl (by decide) rfl) (a := 9) (n := 65) rfl rfl rfl ?_
          refine g_ldiv act (gx gp_282 (w := 0x4216) rfl (by decide) rfl) (n := 66) (fun q => by have q2 := congrArg Int64.toInt q; rw [l0] at q2; omega) rfl ?_
          refine g_lmul act (gx gp_282 (w := 0x4315) rfl (by decide) rfl) (n := 67) rfl ?_
          refine n_call tb_pres act hEnd (gx (P := G_call) gp_282 (w := 0xa00000000000081c530000da00460f) rfl (by decide) rfl) (d' := D_218) rfl (as := [.ref k, .long ((a / z1) * (c1 / z2)), .long ((b / z2) * (d / z1))]) (rest := []) (b_is hk (by rw [f1]; omega) (by rw [f2]; omega) (by rw [f2]; exact f3)) (show (3 : Nat) = fb 0xa00000000000081c530000da00460f % 16 by decide) (by show (5 : Nat) ≤ 7; decide) (fun _ => ⟨_, _, rfl, _, shp_at hk, Or.inr (show fb 0xa00000000000081c530000da00460f >>> 68 = 10 by decide)⟩) (by omega) (by show 8 + (7 + 11) + 29 ≤ R.locals; omega) (by show (0 : Nat) ≤ 8; decide) (by show kc + 0 ≤ _; omega) (by show ks + 0 ≤ _; omega) (fun r9 hs9 hpo hr9 => ?_) (fun x9 hs9 hx9 hpo => ?_)
          · obtain rfl : r9 = none := hr9.elim (fun q => q.2) (fun q => absurd rfl q.1)
            obtain ⟨-, t, w2, rfl, hf9⟩ := hpo
            rw [f1, f2, fr_times (by omega) hdz gp1 gp2 dv1 dv2 dv3 dv4] at hf9
            show WpN (gp g0 wp) CLS p l e R s m args below meth c Q D_282.2.2.1 kc0 ks0 70 [some (.ref k), some (.long a), none, some (.long b), none, some (.long c1), none, some (.long d), none, some (.long z1), none, some (.long z2), none] ((wr (wr hs k 7 (.long t)) k 8 (.long w2)), kc, ks) []
            exact g_retV hEnd (gx gp_282 (w := 0x18) rfl (by decide) rfl) ⟨rfl, t, w2, rfl, hf9⟩ (by show kc ≤ kc + 0; omega) (by show ks ≤ ks + 0; omega)
          · exact absurd hpo.1 (by omega)
        · simp only [cmpEq, show (0 : Int64).toInt = 0 from by decide] at h16
          omega
      · simp only [cmpEq, show (0 : Int64).toInt = 0 from by decide] at h10
        omega
    · exact absurd hpo.1 (by omega)
  · exact absurd hpo.1 (by omega)
theorem b_less0 {g0 : GG} {bl : Nat} {xs : Nat → Int32} {l : Launch} {hs : List CE} {a b c1 d : Int64} (ha0 : 0 ≤ a.toInt) (hb : -9223372036854775808 < b.toInt) (hc0 : c1 = 0) (hd1 : d = 1) : BodyN SSX TBL g0 CLS bl xs l D_225 1 29 0 0 [.long a, .long b, .long c1, .long d] hs (fun kd r h2 => kd = 0 ∧ hs = h2 ∧ r = some (.int 0)) := by
  intro wp p e R s m args below meth c Q kc0 ks0 kc ks act hf hl hc hsl hEnd
  have hd0 : d.toInt = 1 := by rw [hd1]; decide
  show WpN (gp g0 wp) CLS p l e R s m args below meth c Q D_225.2.2.1 kc0 ks0 0 [some (.long a), none, some (.long b), none, some (.long c1), none, some (.long d), none, none, none] (hs, kc, ks) []
  refine g_loadL act (gx gp_225 (w := 0x2000106) rfl (by decide) rfl) (a := 2) (n := 1) rfl rfl rfl ?_
  refine g_loadL act (gx gp_225 (w := 0x6000306) rfl (by decide) rfl) (a := 6) (n := 3) rfl rfl rfl ?_
  refine n_call tb_pres act hEnd (gx (P := G_call) gp_225 (w := 0x428420000bf00060f) rfl (by decide) rfl) (d' := D_191) rfl (as := [.long b, .long d]) (rest := []) (b_common (by omega) (by omega)) (show (2 : Nat) = fb 0x428420000bf00060f % 16 by decide) (by show (4 : Nat) ≤ 10; decide) (fun q => absurd q (by decide)) (by omega) (by show 8 + (10 + 11) + 0 ≤ R.locals; omega) (by show (0 : Nat) ≤ 8; decide) (by show kc + 0 ≤ _; omega) (by show ks + 0 ≤ _; omega) (fun r9 hs9 hpo hr9 => ?_) (fun x9 hs9 hx9 hpo => ?_)
  · obtain ⟨-, rfl, z, rfl, hz⟩ := hpo
    have hz1 : z.toInt = 1 := by rw [hz, hd0, Int.gcd_one_right]; rfl
    have z1 : z = 1 := Int64.toInt_inj.mp (by rw [hz1]; decide)
    have f1 : a * (d / z) = a := by rw [hd1, z1, show (1 : Int64) / 1 = 1 by decide, Int64.mul_one]
    have f2 : c1 * (b / z) = 0 := by rw [hc0, Int64.zero_mul]
    show WpN (gp g0 wp) CLS p l e R s m args below meth c Q D_225.2.2.1 kc0 ks0 6 [some (.long a), none, some (.long b), none, some (.long c1), none, some (.long d), none, none, none] (hs, kc, ks) [.long z]
    refine g_storeL act (gx gp_225 (w := 0x800080b) rfl (by decide) rfl) (a := 8) (n := 8) rfl rfl (L2 := [some (.long a), none, some (.long b), none, some (.long c1), none, some (.long d), none, some (.long z), none]) rfl ?_
    refine g_loadL act (gx gp_225 (w := 0x906) rfl (by decide) rfl) (a := 0) (n := 9) rfl rfl rfl ?_
    refine g_loadL act (gx gp_225 (w := 0x6000b06) rfl (by decide) rfl) (a := 6) (n := 11) rfl rfl rfl ?_
    refine g_loadL act (gx gp_225 (w := 0x8000d06) rfl (by decide) rfl) (a := 8) (n := 13) rfl rfl rfl ?_
    refine g_ldiv act (gx gp_225 (w := 0xe16) rfl (by decide) rfl) (n := 14) (fun q => by have q2 := congrArg Int64.toInt q; rw [l0] at q2; omega) rfl ?_
    refine g_lmul act (gx gp_225 (w := 0xf15) rfl (by decide) rfl) (n := 15) rfl ?_
    refine g_loadL act (gx gp_225 (w := 0x4001106) rfl (by decide) rfl) (a := 4) (n := 17) rfl rfl rfl ?_
    refine g_loadL act (gx gp_225 (w := 0x2001206) rfl (by decide) rfl) (a := 2) (n := 18) rfl rfl rfl ?_
    refine g_loadL act (gx gp_225 (w := 0x8001406) rfl (by decide) rfl) (a := 8) (n := 20) rfl rfl rfl ?_
    refine g_ldiv act (gx gp_225 (w := 0x1516) rfl (by decide) rfl) (n := 21) (fun q => by have q2 := congrArg Int64.toInt q; rw [l0] at q2; omega) rfl ?_
    refine g_lmul act (gx gp_225 (w := 0x1615) rfl (by decide) rfl) (n := 22) rfl ?_
    refine g_lcmp act (gx gp_225 (w := 0x170c) rfl (by decide) rfl) (n := 23) rfl ?_
    refine g_ifGe act (gx gp_225 (w := 0x1e001a14) rfl (by decide) rfl) (tgt := 30) (n := 26) rfl rfl (fun h15 => ?_) (fun h15 => ?_)
    · simp only [cmpGe, f1, f2, l0] at h15
      refine g_constI act (gx gp_225 (w := 0x40000000400000001000000001f01) rfl (by decide) rfl) (n := 31) (x := (0 : Int32)) (by decide) rfl ?_
      exact g_retZ hEnd (gx gp_225 (w := 0x23) rfl (by decide) rfl) (by decide) ⟨rfl, rfl, rfl⟩ (by show kc ≤ kc + 0; omega) (by show ks ≤ ks + 0; omega)
    · simp only [cmpGe, f1, f2, l0] at h15
      refine g_constI act (gx gp_225 (w := 0x40000000c00000009000000001b01) rfl (by decide) rfl) (n := 27) (x := (1 : Int32)) (by decide) rfl ?_
      refine g_goto act (gx gp_225 (w := 0x1f07) rfl (by decide) rfl) (n := 31) rfl ?_
      exact g_retZ hEnd (gx gp_225 (w := 0x23) rfl (by decide) rfl) (by decide) ⟨rfl, rfl, absurd ha0 h15⟩ (by show kc ≤ kc + 0; omega) (by show ks ≤ ks + 0; omega)
  · exact absurd hpo.1 (by omega)
theorem b_timesW {g0 : GG} {bl : Nat} {xs : Nat → Int32} {l : Launch} {hs : List CE} {a b : Int64} {q : Rat} (rw0 : RW hs) (hb0 : 0 < b.toInt) (ha : -9223372036854775808 < a.toInt) (hq : Rat.divInt a.toInt b.toInt = q) : BodyN SSX TBL g0 CLS bl xs l D_282 2 55 0 0 [.ref 124, .long a, .long b, .long (1 : Int64), .long (1 : Int64)] hs (POQ hs q) := by
  have k3 : (1 : Int64).toInt = 1 := by decide
  have a2 := Int64.toInt_lt a
  have b2 := Int64.toInt_lt b
  refine (b_timesD rw0.1 hb0 (by rw [k3]; decide) (by rw [k3]; decide) (by rw [k3]; decide) (by rw [k3]; show (a.toInt.natAbs : Int) * 1 < _; omega) (by rw [k3]; show (b.toInt.natAbs : Int) * 1 < _; omega) (by omega)).mono (fun k r h ⟨z2, t, w, e, hF⟩ => ⟨z2, poq_of rw0.1 e ?_⟩)
  rw [k3, hq, show Rat.divInt 1 1 = 1 by decide, Rat.mul_one] at hF
  exact hF
/-- all prices over one denominator -/
theorem pri_cf {hs : List CE} {tl : Nat → Int} {nl n : Nat} {ou : Int} {ni : Int32} (hG : NG tl nl n ou) (h : PRI hs tl nl n ou ni) (hb : ∀ k, k ≤ n → bitS ni k) : ∃ (Cf : Nat → Rat) (C0 : Rat) (L D0 : Nat), CF n Cf C0 L D0 ∧ QRng hs 144 145 0 (n + 1) (fun k => Cf k + -C0) := by
  obtain ⟨C0, D0, a1, a2, a3, a4, a5⟩ := h
  have hn3 := hG.2.1
  have a6 : ∀ k, ∃ (C : Rat) (D : Nat), PD tl nl n ou D ∧ IsI ((D : Rat) * C) ∧ 0 ≤ C ∧ C ≤ 99000 ∧ (k ≤ n → ∃ t w : Int64, rd hs 144 k = .long t ∧ rd hs 145 k = .long w ∧ FR t w (C + -C0)) := fun k => by
    by_cases z : k ≤ n
    · obtain ⟨C, D, t, w, b1, b2, b3, b4, b5, b6, b7⟩ := a5 k z (hb k z)
      exact ⟨C, D, b1, b2, b3, b4, fun _ => ⟨t, w, b5, b6, b7⟩⟩
    · exact ⟨C0, D0, a1, a2, a3, a4, fun q => absurd q z⟩
  have hD := fun k => (Classical.choose_spec (Classical.choose_spec (a6 k)))
  obtain ⟨L, l1, l2, d0, d1, d2, d3⟩ := pd4 hG (hD 0).1 (hD 1).1 (hD 2).1 (hD 3).1
  have hL : 0 < L := by
    rcases Nat.eq_zero_or_pos L with z | z
    · exact absurd (by rw [z]; exact Nat.dvd_zero _) l2
    · exact z
  have hp := PDpos hG a1
  refine ⟨fun k => Classical.choose (a6 k), C0, L, D0, ⟨hL, l1, l2, hp.1, hp.2, ?_, fun k hk => ?_⟩, fun j _ hj => (hD j).2.2.2.2 (by omega)⟩
  · exact cf_int hp.1 a2 a3 a4
  · have e := hD k
    have hdv : Classical.choose (Classical.choose_spec (a6 k)) ∣ L := by
      have : k = 0 ∨ k = 1 ∨ k = 2 ∨ k = 3 := by omega
      rcases this with rfl | rfl | rfl | rfl
      · exact d0
      · exact d1
      · exact d2
      · exact d3
    exact cf_int hL (isI_dvd hdv e.2.1) e.2.2.1 e.2.2.2.1
