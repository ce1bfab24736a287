/-! The reference: funds. -/
theorem CF.tx {n L D0 : Nat} {Cf : Nat → Rat} {C0 : Rat} {tl : Nat → Int} {r : Nat} (h : CF n Cf C0 L D0) (hn : ((0 ≤ tl (22 + 4 * r + 1) ∧ tl (22 + 4 * r + 1) ≤ (n : Int)) ∧ (0 ≤ tl (22 + 4 * r + 2) ∧ tl (22 + 4 * r + 2) ≤ (n : Int)) ∧ (0 ≤ tl (22 + 4 * r + 3) ∧ tl (22 + 4 * r + 3) ≤ 100))) : ∃ N : Int, (L : Rat) * TX tl Cf r = (N : Rat) ∧ N.natAbs ≤ 148500000000000 := by
  obtain ⟨N, e, b⟩ := h.dn (k := (tl (22 + 4 * r + 2)).toNat) (j := (tl (22 + 4 * r + 1)).toNat) (by omega) (by omega)
  refine ⟨N * tl (22 + 4 * r + 3), ?_, ?_⟩
  · unfold TX
    rw [Rat.intCast_mul, ← e]
    grind
  · rw [Int.natAbs_mul]
    have := Nat.mul_le_mul b (show (tl (22 + 4 * r + 3)).natAbs ≤ 100 by omega)
    omega
theorem pos_part {t w : Int64} {q : Rat} {L : Nat} {N : Int} (hL : 0 < L) (h : FR t w q) (e : (L : Rat) * q = (N : Rat)) (ht : 0 < t.toInt) : 0 ≤ N := by
  obtain ⟨u, hu, -, rfl⟩ := num_of hL e
  rw [← h.1]
  exact Int.mul_nonneg (by omega) (by omega)
theorem neg_part {t w : Int64} {q : Rat} {L : Nat} {N : Int} (hL : 0 < L) (h : FR t w q) (e : (L : Rat) * q = (N : Rat)) (hN : N.natAbs ≤ 148500000000000) : -9223372036854775808 < t.toInt := by
  have := (frac_of hL e).1
  rw [h.1]
  omega
theorem n_k {n d : Int64} {q : Rat} {L t : Nat} {N : Int} (h : FR n d q) (hL : 0 < L) (e : (L : Rat) * q = (N : Rat)) (h0 : n.toInt ≠ 0) (hN : N.natAbs < 1125899906842624) (ht : 2 ^ t ∣ L) (ht6 : t ≤ 6) : K2 (50 - t) n := fun z => by
  obtain ⟨u, hu0, hu, eN⟩ := num_of hL e
  have hc := q.reduced
  rw [h.1] at z h0
  have h2 : 2 ∣ q.num.natAbs := Nat.dvd_trans (show 2 ∣ 2 ^ (50 - t) from ⟨2 ^ (49 - t), by rw [show 50 - t = (49 - t) + 1 by omega, Nat.pow_succ, Nat.mul_comm]⟩) z
  have hd : Nat.Coprime (2 ^ t) q.den := Nat.Coprime.pow_left t (Nat.Coprime.coprime_dvd_left h2 hc)
  have hu2 : 2 ^ t ∣ u := hd.dvd_of_dvd_mul_left (by rw [← hu]; exact ht)
  have : 2 ^ (50 - t) * 2 ^ t ∣ N.natAbs := by
    rw [eN, Int.natAbs_mul, Int.natAbs_natCast]
    exact Nat.mul_dvd_mul z hu2
  rw [← Nat.pow_add, show 50 - t + t = 50 by omega] at this
  have hne : 0 < N.natAbs := by
    rw [eN, Int.natAbs_mul, Int.natAbs_natCast]
    exact Nat.mul_pos (by omega) hu0
  have := Nat.le_of_dvd hne this
  have : (2 : Nat) ^ 50 = 1125899906842624 := by decide
  omega
theorem two_part : ∀ L : Nat, 0 < L → ¬ 128 ∣ L → ∃ t : Nat, t ≤ 6 ∧ 2 ^ t ∣ L ∧ ¬ 2 ^ (t + 1) ∣ L := fun L h0 h => by
  by_cases a1 : 2 ∣ L
  · by_cases a2 : 4 ∣ L
    · by_cases a3 : 8 ∣ L
      · by_cases a4 : 16 ∣ L
        · by_cases a5 : 32 ∣ L
          · by_cases a6 : 64 ∣ L
            · exact ⟨6, by decide, a6, h⟩
            · exact ⟨5, by decide, a5, a6⟩
          · exact ⟨4, by decide, a4, a5⟩
        · exact ⟨3, by decide, a3, a4⟩
      · exact ⟨2, by decide, a2, a3⟩
    · exact ⟨1, by decide, a1, a2⟩
  · exact ⟨0, by decide, Nat.one_dvd L, a1⟩
theorem divz {w : Int} : Rat.divInt 0 w = 0 := Rat.zero_divInt w

theorem b_sumsX {g0 : GG} {bl : Nat} {xs : Nat → Int32} {l : Launch} {hs : List CE} {a b s1 s2 : Int64} {q1 q2 : Rat} {L : Nat} {N1 N2 : Int} (rw0 : RW hs) (hM : ModF hs) (e35 : rd hs 124 35 = .long s1) (e36 : rd hs 124 36 = .long s2) (h1 : FR s1 s2 q1) (hb0 : 0 < b.toInt) (ha : -9223372036854775808 < a.toInt) (hq : Rat.divInt a.toInt b.toInt = q2) (hL : 0 < L) (hL2 : L < 9223372036854775808) (E1 : (L : Rat) * q1 = (N1 : Rat)) (E2 : (L : Rat) * q2 = (N2 : Rat)) (hN : N1.natAbs + N2.natAbs < 9223372036854775808) : BodyN SSX TBL g0 CLS bl xs l D_274 3 87 0 0 [.ref 124, .long a, .long b, .long (1 : Int64), .long (1 : Int64)] hs (fun kd _ h2 => kd = 0 ∧ ∃ x y : Int64, rd h2 124 35 = .long x ∧ rd h2 124 36 = .long y ∧ FR x y (q1 + q2) ∧ ModF h2 ∧ FrS WSm hs h2) := by
  intro wp p e R s m args below meth c Q kc0 ks0 kc ks act hf hl hc hsl hEnd
  show WpN (gp g0 wp) CLS p l e R s m args below meth c Q D_274.2.2.1 kc0 ks0 0 [some (.ref 124), some (.long a), none, some (.long b), none, some (.long (1 : Int64)), none, some (.long (1 : Int64)), none] (hs, kc, ks) []
  refine g_loadA act (gx gp_274 (w := 0x103) rfl (by decide) rfl) (a := 0) (n := 1) rfl rfl rfl ?_
  refine g_loadL act (gx gp_274 (w := 0x1000206) rfl (by decide) rfl) (a := 1) (n := 2) rfl rfl rfl ?_
  refine g_loadL act (gx gp_274 (w := 0x3000306) rfl (by decide) rfl) (a := 3) (n := 3) rfl rfl rfl ?_
  refine g_loadL act (gx gp_274 (w := 0x5000506) rfl (by decide) rfl) (a := 5) (n := 5) rfl rfl rfl ?_
  refine g_loadL act (gx gp_274 (w := 0x7000706) rfl (by decide) rfl) (a := 7) (n := 7) rfl rfl rfl ?_
  refine n_call tb_pres act hEnd (gx (P := G_call) gp_274 (w := 0xa0000000000008349500011a000a0f) rfl (by decide) rfl) (d' := D_282) rfl (as := [.ref 124, .long a, .long b, .long (1 : Int64), .long (1 : Int64)]) (rest := []) (b_timesW (q := q2) rw0 hb0 ha hq) (show (5 : Nat) = fb 0xa0000000000008349500011a000a0f % 16 by decide) (by show (9 : Nat) ≤ 13; decide) (fun _ => ⟨_, _, rfl, _, shp_at rw0.1, Or.inr (show fb 0xa0000000000008349500011a000a0f >>> 68 = 10 by decide)⟩) (by omega) (by show 8 + (13 + 11) + 55 ≤ R.locals; omega) (by show (0 : Nat) ≤ 8; decide) (by show kc + 0 ≤ _; omega) (by show ks + 0 ≤ _; omega) (fun r9 hs_1 hpo hr9 => ?_) (fun x9 hs9 hx9 hpo => ?_)
  · obtain rfl : r9 = none := hr9.elim (fun q => q.2) (fun q => absurd rfl q.1)
    obtain ⟨-, t_2, w_3, e_4, e_5, hF_6, fr_7⟩ := hpo
    have hM_13 := ModF.w0 hM fr_7
    have rw_8 := rw0.fr fr_7 W0_rw
    have f_10 := rd_fr fr_7 e35 (by unfold W0; omega)
    have f_11 := rd_fr fr_7 e36 (by unfold W0; omega)
    have fr_12 := (FrS.rf WSm hs).tr (fr_7.mono (fun k9 j9 h9 => by unfold W0 at h9; unfold WSm; omega))
    show WpN (gp g0 wp) CLS p l e R s m args below meth c Q D_274.2.2.1 kc0 ks0 10 [some (.ref 124), some (.long a), none, some (.long b), none, some (.long (1 : Int64)), none, some (.long (1 : Int64)), none] (hs_1, kc, ks) []
    refine g_loadA act (gx gp_274 (w := 0xb03) rfl (by decide) rfl) (a := 0) (n := 11) rfl rfl rfl ?_
    refine g_loadA act (gx gp_274 (w := 0xc03) rfl (by decide) rfl) (a := 0) (n := 12) rfl rfl rfl ?_
    refine r_getf act (gx gp_274 (w := 0x20008c9000f04) rfl (by decide) rfl) (n := 15) (ci := 9) (j := 35) (N := 39) rfl rfl rfl rw_8.1 (by decide) (v := .long s1) f_10 ?_
    refine g_loadA act (gx gp_274 (w := 0x1003) rfl (by decide) rfl) (a := 0) (n := 16) rfl rfl rfl ?_
    refine r_getf act (gx gp_274 (w := 0x2000909001304) rfl (by decide) rfl) (n := 19) (ci := 9) (j := 36) (N := 39) rfl rfl rfl rw_8.1 (by decide) (v := .long s2) f_11 ?_
    refine g_loadA act (gx gp_274 (w := 0x1403) rfl (by decide) rfl) (a := 0) (n := 20) rfl rfl rfl ?_
    refine r_getf act (gx gp_274 (w := 0x20001c9001704) rfl (by decide) rfl) (n := 23) (ci := 9) (j := 7) (N := 39) rfl rfl rfl rw_8.1 (by decide) (v := .long t_2) e_4 ?_
    refine g_loadA act (gx gp_274 (w := 0x1803) rfl (by decide) rfl) (a := 0) (n := 24) rfl rfl rfl ?_
    refine r_getf act (gx gp_274 (w := 0x2000209001b04) rfl (by decide) rfl) (n := 27) (ci := 9) (j := 8) (N := 39) rfl rfl rfl rw_8.1 (by decide) (v := .long w_3) e_5 ?_
    refine n_call tb_pres act hEnd (gx (P := G_call) gp_274 (w := 0xa00000000000082c950000fc001e0f) rfl (by decide) rfl) (d' := D_252) rfl (as := [.ref 124, .long s1, .long s2, .long t_2, .long w_3]) (rest := []) (b_plusY rw_8 h1 hF_6 hL hL2 E1 E2 hN) (show (5 : Nat) = fb 0xa00000000000082c950000fc001e0f % 16 by decide) (by show (9 : Nat) ≤ 11; decide) (fun _ => ⟨_, _, rfl, _, shp_at rw_8.1, Or.inr (show fb 0xa00000000000082c950000fc001e0f >>> 68 = 10 by decide)⟩) (by omega) (by show 8 + (11 + 11) + 55 ≤ R.locals; omega) (by show (0 : Nat) ≤ 8; decide) (by show kc + 0 ≤ _; omega) (by show ks + 0 ≤ _; omega) (fun r9 hs_14 hpo hr9 => ?_) (fun x9 hs9 hx9 hpo => ?_)
    · obtain rfl : r9 = none := hr9.elim (fun q => q.2) (fun q => absurd rfl q.1)
      obtain ⟨-, t_15, w_16, e_17, e_18, hF_19, fr_20⟩ := hpo
      have hM_26 := ModF.w0 hM_13 fr_20
      have rw_21 := rw_8.fr fr_20 W0_rw
      have f_22 := rd_fr fr_20 f_10 (by unfold W0; omega)
      have f_23 := rd_fr fr_20 f_11 (by unfold W0; omega)
      have fr_25 := fr_12.tr (fr_20.mono (fun k9 j9 h9 => by unfold W0 at h9; unfold WSm; omega))
      clear rw_8 f_10 f_11 e_4 e_5 hM_13 fr_12
      show WpN (gp g0 wp) CLS p l e R s m args below meth c Q D_274.2.2.1 kc0 ks0 30 [some (.ref 124), some (.long a), none, some (.long b), none, some (.long (1 : Int64)), none, some (.long (1 : Int64)), none] (hs_14, kc, ks) []
      refine g_loadA act (gx gp_274 (w := 0x1f03) rfl (by decide) rfl) (a := 0) (n := 31) rfl rfl rfl ?_
      refine g_loadA act (gx gp_274 (w := 0x2003) rfl (by decide) rfl) (a := 0) (n := 32) rfl rfl rfl ?_
      refine r_getf act (gx gp_274 (w := 0x20001c9002304) rfl (by decide) rfl) (n := 35) (ci := 9) (j := 7) (N := 39) rfl rfl rfl rw_21.1 (by decide) (v := .long t_15) e_17 ?_
      refine r_putf act (gx gp_274 (w := 0x20008c9002613) rfl (by decide) rfl) (n := 38) (ci := 9) (j := 35) (N := 39) rfl rfl rfl rw_21.1 (by decide) (Or.inr (Or.inr (Or.inl ⟨rfl, _, rfl⟩))) ?_
      have rw_27 := RW.wr (k := 124) (j := 35) (v := .long t_15) rw_21 (Or.inr (by decide))
      have f_29 := (rd_ne hs_14 (k := 124) (j := 35) (.long t_15) (Or.inr (by decide))).trans f_23
      have f_30 := (rd_ne hs_14 (k := 124) (j := 35) (.long t_15) (Or.inr (by decide))).trans e_17
      have f_31 := (rd_ne hs_14 (k := 124) (j := 35) (.long t_15) (Or.inr (by decide))).trans e_18
      have f_32 := hM_26.wrL (x := t_15) (i := 35) rw_21.1 (by decide)
      have f_33 := rd_same (j := 35) (v := .long t_15) rw_21.1
      have fr_34 := fr_25.wr (k := 124) (j := 35) (.long t_15) (by unfold WSm; omega)
      clear rw_21 fr_25 f_22 f_23 e_17 e_18 hM_26
      generalize (wr hs_14 124 35 (.long t_15)) = hs_35 at *
      refine g_loadA act (gx gp_274 (w := 0x2703) rfl (by decide) rfl) (a := 0) (n := 39) rfl rfl rfl ?_
      refine g_loadA act (gx gp_274 (w := 0x2803) rfl (by decide) rfl) (a := 0) (n := 40) rfl rfl rfl ?_
      refine r_getf act (gx gp_274 (w := 0x2000209002b04) rfl (by decide) rfl) (n := 43) (ci := 9) (j := 8) (N := 39) rfl rfl rfl rw_27.1 (by decide) (v := .long w_16) f_31 ?_
      refine r_putf act (gx gp_274 (w := 0x2000909002e13) rfl (by decide) rfl) (n := 46) (ci := 9) (j := 36) (N := 39) rfl rfl rfl rw_27.1 (by decide) (Or.inr (Or.inr (Or.inl ⟨rfl, _, rfl⟩))) ?_
      have rw_36 := RW.wr (k := 124) (j := 36) (v := .long w_16) rw_27 (Or.inr (by decide))
      have f_38 := (rd_ne hs_35 (k := 124) (j := 36) (.long w_16) (Or.inr (by decide))).trans f_30
      have f_39 := (rd_ne hs_35 (k := 124) (j := 36) (.long w_16) (Or.inr (by decide))).trans f_31
      have f_40 := f_32.wrL (x := w_16) (i := 36) rw_27.1 (by decide)
      have f_41 := (rd_ne hs_35 (k := 124) (j := 36) (.long w_16) (Or.inr (by decide))).trans f_33
      have f_42 := rd_same (j := 36) (v := .long w_16) rw_27.1
      have fr_43 := fr_34.wr (k := 124) (j := 36) (.long w_16) (by unfold WSm; omega)
      clear rw_27 fr_34 f_29 f_30 f_31 f_32 f_33
      generalize (wr hs_35 124 36 (.long w_16)) = hs_44 at *
      exact g_retV hEnd (gx gp_274 (w := 0x18) rfl (by decide) rfl) ⟨rfl, _, _, f_41, f_42, hF_19, f_40, fr_43⟩ (by show kc ≤ kc + 0; omega) (by show ks ≤ ks + 0; omega)
    · exact absurd hpo.1 (by omega)
  · exact absurd hpo.1 (by omega)

theorem fu_1 {g0 : GG} {bl : Nat} {xs : Nat → Int32} {l : Launch} {wp : va_W} {p : Program} {e : Env} {R : Room} {s : State} {m : MethodId} {args : Array Value} {below : List Frame} {meth : Method} {c : Code} {Q : State → Prop} {kc0 ks0 kc ks f lam KC KS : Nat} {hs : List CE} {PO : Nat → Option Value → List CE → Prop} {tl wl : Nat → Int} {nl n ng nr : Nat} (hNW : NW tl wl nl n ng nr) {L D0 : Nat} {Cf : Nat → Rat} {C0 : Rat} {dm : Nat → Int} (hdm : ∀ j, 0 ≤ dm j ∧ dm j ≤ 220) (hCF : CF n Cf C0 L D0) (hf : 6 ≤ R.frames) (hl : 158 ≤ R.locals) (hc : kc ≤ R.cells + kc0) (hsl : ks ≤ R.slots + ks0) (act : Act SSX TBL (gp g0 wp) CLS bl xs D_212 p l s m args meth c) (hEnd : EndN SSX TBL (gp g0 wp) CLS D_212 p l e R s m args below meth c Q kc0 ks0 f lam KC KS PO) (KO : ∀ (s1 s2 : Int64) (q1 : Rat) (N1 : Int) (hj : List CE), FR s1 s2 q1 → (L : Rat) * q1 = (N1 : Rat) → 0 ≤ N1 → N1 ≤ 6 * 148500000000000 → RW hj → IArr hj 125 46 tl → IArr hj 127 39 wl → IArr hj 135 4 dm → KR hj 144 145 0 (n + 1) 7 → KR hj 142 143 0 5 7 → QRng hj 144 145 0 (n + 1) (fun k9 => Cf k9 + -C0) → ModF hj → rd hj 124 35 = .long s1 → rd hj 124 36 = .long s2 → FrS WSm hs hj → WpN (gp g0 wp) CLS p l e R s m args below meth c Q D_212.2.2.1 kc0 ks0 54 [some (.ref 124), none, none, none, none, none] (hj, kc, ks) []) : ∀ j9 : Nat, j9 ≤ nr → ∀ (s1 s2 : Int64) (q1 : Rat) (N1 : Int) (xi : Int32) (hj : List CE), xi.toInt = (j9 : Int) → FR s1 s2 q1 → (L : Rat) * q1 = (N1 : Rat) → 0 ≤ N1 → N1 ≤ (j9 : Int) * 148500000000000 → RW hj → IArr hj 125 46 tl → IArr hj 127 39 wl → IArr hj 135 4 dm → KR hj 144 145 0 (n + 1) 7 → KR hj 142 143 0 5 7 → QRng hj 144 145 0 (n + 1) (fun k9 => Cf k9 + -C0) → ModF hj → rd hj 124 35 = .long s1 → rd hj 124 36 = .long s2 → FrS WSm hs hj → WpN (gp g0 wp) CLS p l e R s m args below meth c Q D_212.2.2.1 kc0 ks0 6 [some (.ref 124), some (.int xi), none, none, none, none] (hj, kc, ks) [] := by
  have hN9 := hNW
  obtain ⟨n0, n1, n2, n3, n4, n5, n6, n7, n8, hG0, nL, nC, nP, nD⟩ := hN9
  have hGn := hG0.1
  have hGn3 := hG0.2.1
  have hGl := hG0.2.2.1
  refine dn (fun j9 hj9 ih => ?_)
  intro s1 s2 q1 N1 xi hj hxi hq1 hN1 hn0 hn1 rwj fTo fW fD hP hO hQ hM e35 e36 hfr
  refine g_loadI act (gx gp_212 (w := 0x1000702) rfl (by decide) rfl) (a := 1) (n := 7) rfl rfl rfl ?_
  refine g_loadA act (gx gp_212 (w := 0x803) rfl (by decide) rfl) (a := 0) (n := 8) rfl rfl rfl ?_
  refine r_getf act (gx gp_212 (w := 0x3000049000b04) rfl (by decide) rfl) (n := 11) (ci := 9) (j := 1) (N := 39) rfl rfl rfl rwj.1 (by decide) (rwj.2 (1, 125, 32, 46) (by decide)).1 ?_
  refine g_constI act (gx gp_212 (w := 0x40000002400000021000000000c01) rfl (by decide) rfl) (n := 12) (x := (4 : Int32)) (by decide) rfl ?_
  obtain ⟨x_1, e_2, hx_3⟩ := fTo 4 (by omega)
  refine r_iald act (gx gp_212 (w := 0xd1a) rfl (by decide) rfl) (n := 13) (j := 4) rfl (rwj.2 (1, 125, 32, 46) (by decide)).2 (show (4 : Int32).toInt = ((4 : Nat) : Int) from by decide) (show 4 < 46 by omega) (v := .int x_1) e_2 ?_
  refine g_icmpGe act (gx gp_212 (w := 0x36001008) rfl (by decide) rfl) (tgt := 54) (n := 16) rfl rfl (fun h4 => ?_) (fun h4 => ?_)
  · simp only [i_le] at h4
    exact n_forget (d := D_212) (L2 := [some (.ref 124), none, none, none, none, none]) (fun i v hi => by
      match i, hi with
      | 0, hi => exact hi
      | 1, hi => cases hi
      | 2, hi => cases hi
      | 3, hi => cases hi
      | 4, hi => cases hi
      | 5, hi => cases hi
      | i + 6, hi => cases hi) (KO _ _ _ _ _ hq1 hN1 hn0 (by omega) rwj fTo fW fD hP hO hQ hM e35 e36 hfr)
  · simp only [i_le] at h4
    refine g_loadA act (gx gp_212 (w := 0x1103) rfl (by decide) rfl) (a := 0) (n := 17) rfl rfl rfl ?_
    refine g_loadI act (gx gp_212 (w := 0x1001202) rfl (by decide) rfl) (a := 1) (n := 18) rfl rfl rfl ?_
    refine n_call tb_pres act hEnd (gx (P := G_call) gp_212 (w := 0xa0000000000008082200011800150f) rfl (by decide) rfl) (d' := D_280) rfl (as := [.ref 124, .int xi]) (rest := []) (b_targetsX hNW (r9 := j9) hxi (by omega) ⟨rwj, fTo, fW⟩ hCF hQ) (show (2 : Nat) = fb 0xa0000000000008082200011800150f % 16 by decide) (by show (2 : Nat) ≤ 2; decide) (fun _ => ⟨_, _, rfl, _, shp_at rwj.1, Or.inr (show fb 0xa0000000000008082200011800150f >>> 68 = 10 by decide)⟩) (by omega) (by show 8 + (2 + 11) + 107 ≤ R.locals; omega) (by show (0 : Nat) ≤ 8; decide) (by show kc + 0 ≤ _; omega) (by show ks + 0 ≤ _; omega) (fun r9 hs_4 hpo hr9 => ?_) (fun x9 hs9 hx9 hpo => ?_)
    · obtain rfl : r9 = none := hr9.elim (fun q => q.2) (fun q => absurd rfl q.1)
      obtain ⟨-, t_5, w_6, e_7, e_8, hF_9, fr_10⟩ := hpo
      have hM_22 := ModF.w0 hM fr_10
      have rw_11 := rwj.fr fr_10 W0_rw
      have f_12 := fTo.fr (fun j9 _ => fr_10.2.2 125 j9 (by unfold W0; omega))
      have f_13 := fW.fr (fun j9 _ => fr_10.2.2 127 j9 (by unfold W0; omega))
      have f_14 := fD.fr (fun j9 _ => fr_10.2.2 135 j9 (by unfold W0; omega))
      have f_15 := hP.fr (fun j9 _ _ => ⟨fr_10.2.2 144 j9 (by unfold W0; omega), fr_10.2.2 145 j9 (by unfold W0; omega)⟩)
      have f_16 := hO.fr (fun j9 _ _ => ⟨fr_10.2.2 142 j9 (by unfold W0; omega), fr_10.2.2 143 j9 (by unfold W0; omega)⟩)
      have f_17 := hQ.fr (fun j9 _ _ => ⟨fr_10.2.2 144 j9 (by unfold W0; omega), fr_10.2.2 145 j9 (by unfold W0; omega)⟩)
      have f_19 := rd_fr fr_10 e35 (by unfold W0; omega)
      have f_20 := rd_fr fr_10 e36 (by unfold W0; omega)
      have fr_21 := hfr.tr (fr_10.mono (fun k9 j9 h9 => by unfold W0 at h9; unfold WSm; omega))
      clear rwj fTo fW fD hP hO hQ hM e35 e36 hfr
      show WpN (gp g0 wp) CLS p l e R s m args below meth c Q D_212.2.2.1 kc0 ks0 21 [some (.ref 124), some (.int xi), none, none, none, none] (hs_4, kc, ks) []
      refine g_loadA act (gx gp_212 (w := 0x1603) rfl (by decide) rfl) (a := 0) (n := 22) rfl rfl rfl ?_
      refine g_loadA act (gx gp_212 (w := 0x1703) rfl (by decide) rfl) (a := 0) (n := 23) rfl rfl rfl ?_
      refine r_getf act (gx gp_212 (w := 0x20001c9001a04) rfl (by decide) rfl) (n := 26) (ci := 9) (j := 7) (N := 39) rfl rfl rfl rw_11.1 (by decide) (v := .long t_5) e_7 ?_
      refine g_constL act (gx gp_212 (w := 0x40000000000000002000000001b01) rfl (by decide) rfl) (n := 27) (x := 0) (by decide) rfl ?_
      refine g_lcmp act (gx gp_212 (w := 0x1c0c) rfl (by decide) rfl) (n := 28) rfl ?_
      refine g_ifLe act (gx gp_212 (w := 0x26001f3d) rfl (by decide) rfl) (tgt := 38) (n := 31) rfl rfl (fun h11 => ?_) (fun h11 => ?_)
      · simp only [cmpLe, show (0 : Int64).toInt = 0 from by decide] at h11
        refine g_constL act (gx gp_212 (w := 0x40000000000000002000000002701) rfl (by decide) rfl) (n := 39) (x := 0) (by decide) rfl ?_
        refine g_loadA act (gx gp_212 (w := 0x2803) rfl (by decide) rfl) (a := 0) (n := 40) rfl rfl rfl ?_
        refine r_getf act (gx gp_212 (w := 0x2000209002b04) rfl (by decide) rfl) (n := 43) (ci := 9) (j := 8) (N := 39) rfl rfl rfl rw_11.1 (by decide) (v := .long w_6) e_8 ?_
        refine g_constL act (gx gp_212 (w := 0x4000000000000000a000000002c01) rfl (by decide) rfl) (n := 44) (x := 1) (by decide) rfl ?_
        refine g_constL act (gx gp_212 (w := 0x4000000000000000a000000002d01) rfl (by decide) rfl) (n := 45) (x := 1) (by decide) rfl ?_
        refine n_call tb_pres act hEnd (gx (P := G_call) gp_212 (w := 0xa0000000000008249500011200300f) rfl (by decide) rfl) (d' := D_274) rfl (as := [.ref 124, .long (0 : Int64), .long w_6, .long (1 : Int64), .long (1 : Int64)]) (rest := []) (b_sumsX (L := L) (q1 := q1) (N2 := 0) rw_11 hM_22 f_19 f_20 hq1 hF_9.pos (by decide) (show Rat.divInt (Int64.toInt 0) _ = 0 from divz) hCF.1 (by have q9 := hCF.2.1; omega) hN1 (by rw [Rat.mul_zero]; rfl) (by omega)) (show (5 : Nat) = fb 0xa0000000000008249500011200300f % 16 by decide) (by show (9 : Nat) ≤ 9; decide) (fun _ => ⟨_, _, rfl, _, shp_at rw_11.1, Or.inr (show fb 0xa0000000000008249500011200300f >>> 68 = 10 by decide)⟩) (by omega) (by show 8 + (9 + 11) + 87 ≤ R.locals; omega) (by show (0 : Nat) ≤ 8; decide) (by show kc + 0 ≤ _; omega) (by show ks + 0 ≤ _; omega) (fun r9 hs_23 hpo hr9 => ?_) (fun x9 hs9 hx9 hpo => ?_)
        · obtain rfl : r9 = none := hr9.elim (fun q => q.2) (fun q => absurd rfl q.1)
          obtain ⟨-, sx_28, sw_29, e_26, e_27, hk_30, hM_25, fr_24⟩ := hpo
          have rw_31 := rw_11.fr fr_24 WSm_rw
          have f_32 := f_12.fr (fun j9 _ => fr_24.2.2 125 j9 (by unfold WSm; omega))
          have f_33 := f_13.fr (fun j9 _ => fr_24.2.2 127 j9 (by unfold WSm; omega))
          have f_34 := f_14.fr (fun j9 _ => fr_24.2.2 135 j9 (by unfold WSm; omega))
          have f_35 := f_15.fr (fun j9 _ _ => ⟨fr_24.2.2 144 j9 (by unfold WSm; omega), fr_24.2.2 145 j9 (by unfold WSm; omega)⟩)
          have f_36 := f_16.fr (fun j9 _ _ => ⟨fr_24.2.2 142 j9 (by unfold WSm; omega), fr_24.2.2 143 j9 (by unfold WSm; omega)⟩)
          have f_37 := f_17.fr (fun j9 _ _ => ⟨fr_24.2.2 144 j9 (by unfold WSm; omega), fr_24.2.2 145 j9 (by unfold WSm; omega)⟩)
          have fr_39 := fr_21.tr fr_24
          clear rw_11 f_12 f_13 f_14 f_15 f_16 f_17 f_19 f_20 e_7 e_8 hM_22 fr_21
          show WpN (gp g0 wp) CLS p l e R s m args below meth c Q D_212.2.2.1 kc0 ks0 48 [some (.ref 124), some (.int xi), none, none, none, none] (hs_23, kc, ks) []
          refine g_iinc act (gx gp_212 (w := 0x80000001000001003309) rfl (by decide) rfl) (a := 1) (i := (1 : Int32)) (n := 51) rfl (by decide) rfl rfl (L2 := [some (.ref 124), some (.int (xi + (1 : Int32))), none, none, none, none]) rfl ?_
          have v_40 := iv_addN hxi (show (1 : Int32).toInt = ((1 : Nat) : Int) from by decide) (show (j9 + 1) < 2147483648 by omega)
          refine g_goto act (gx gp_212 (w := 0x607) rfl (by decide) rfl) (n := 6) rfl ?_
          exact n_forget (d := D_212) (L2 := [some (.ref 124), some (.int (xi + (1 : Int32))), none, none, none, none]) (fun i v hi => by
            match i, hi with
            | 0, hi => exact hi
            | 1, hi => exact hi
            | 2, hi => cases hi
            | 3, hi => cases hi
            | 4, hi => cases hi
            | 5, hi => cases hi
            | i + 6, hi => cases hi) (ih (j9 + 1) (by omega) (by omega) _ _ _ (N1 + 0) _ _ v_40 hk_30 (by rw [Rat.mul_add, hN1, Rat.mul_zero, Int.add_zero, Rat.add_zero]) (by omega) (by omega) rw_31 f_32 f_33 f_34 f_35 f_36 f_37 hM_25 e_26 e_27 fr_39)
        · exact absurd hpo.1 (by omega)
      · simp only [cmpLe, show (0 : Int64).toInt = 0 from by decide] at h11
        refine g_loadA act (gx gp_212 (w := 0x2003) rfl (by decide) rfl) (a := 0) (n := 32) rfl rfl rfl ?_
        refine r_getf act (gx gp_212 (w := 0x20001c9002304) rfl (by decide) rfl) (n := 35) (ci := 9) (j := 7) (N := 39) rfl rfl rfl rw_11.1 (by decide) (v := .long t_5) e_7 ?_
        refine g_goto act (gx gp_212 (w := 0x2707) rfl (by decide) rfl) (n := 39) rfl ?_
        refine g_loadA act (gx gp_212 (w := 0x2803) rfl (by decide) rfl) (a := 0) (n := 40) rfl rfl rfl ?_
        refine r_getf act (gx gp_212 (w := 0x2000209002b04) rfl (by decide) rfl) (n := 43) (ci := 9) (j := 8) (N := 39) rfl rfl rfl rw_11.1 (by decide) (v := .long w_6) e_8 ?_
        refine g_constL act (gx gp_212 (w := 0x4000000000000000a000000002c01) rfl (by decide) rfl) (n := 44) (x := 1) (by decide) rfl ?_
        refine g_constL act (gx gp_212 (w := 0x4000000000000000a000000002d01) rfl (by decide) rfl) (n := 45) (x := 1) (by decide) rfl ?_
        obtain ⟨N9, e9, b9⟩ := hCF.tx (r := j9) (n8 j9 (by omega))
        have p9 := pos_part hCF.1 hF_9 e9 (by omega)
        refine n_call tb_pres act hEnd (gx (P := G_call) gp_212 (w := 0xa0000000000008249500011200300f) rfl (by decide) rfl) (d' := D_274) rfl (as := [.ref 124, .long t_5, .long w_6, .long (1 : Int64), .long (1 : Int64)]) (rest := []) (b_sumsX (L := L) (q1 := q1) (N2 := N9) rw_11 hM_22 f_19 f_20 hq1 hF_9.pos (neg_part hCF.1 hF_9 e9 b9) (fr_q hF_9) hCF.1 (by have q9 := hCF.2.1; omega) hN1 e9 (by omega)) (show (5 : Nat) = fb 0xa0000000000008249500011200300f % 16 by decide) (by show (9 : Nat) ≤ 9; decide) (fun _ => ⟨_, _, rfl, _, shp_at rw_11.1, Or.inr (show fb 0xa0000000000008249500011200300f >>> 68 = 10 by decide)⟩) (by omega) (by show 8 + (9 + 11) + 87 ≤ R.locals; omega) (by show (0 : Nat) ≤ 8; decide) (by show kc + 0 ≤ _; omega) (by show ks + 0 ≤ _; omega) (fun r9 hs_41 hpo hr9 => ?_) (fun x9 hs9 hx9 hpo => ?_)
        · obtain rfl : r9 = none := hr9.elim (fun q => q.2) (fun q => absurd rfl q.1)
          obtain ⟨-, sx_46, sw_47, e_44, e_45, hk_48, hM_43, fr_42⟩ := hpo
          have rw_49 := rw_11.fr fr_42 WSm_rw
          have f_50 := f_12.fr (fun j9 _ => fr_42.2.2 125 j9 (by unfold WSm; omega))
          have f_51 := f_13.fr (fun j9 _ => fr_42.2.2 127 j9 (by unfold WSm; omega))
          have f_52 := f_14.fr (fun j9 _ => fr_42.2.2 135 j9 (by unfold WSm; omega))
          have f_53 := f_15.fr (fun j9 _ _ => ⟨fr_42.2.2 144 j9 (by unfold WSm; omega), fr_42.2.2 145 j9 (by unfold WSm; omega)⟩)
          have f_54 := f_16.fr (fun j9 _ _ => ⟨fr_42.2.2 142 j9 (by unfold WSm; omega), fr_42.2.2 143 j9 (by unfold WSm; omega)⟩)
          have f_55 := f_17.fr (fun j9 _ _ => ⟨fr_42.2.2 144 j9 (by unfold WSm; omega), fr_42.2.2 145 j9 (by unfold WSm; omega)⟩)
          have fr_57 := fr_21.tr fr_42
          clear rw_11 f_12 f_13 f_14 f_15 f_16 f_17 f_19 f_20 e_7 e_8 hM_22 fr_21
          show WpN (gp g0 wp) CLS p l e R s m args below meth c Q D_212.2.2.1 kc0 ks0 48 [some (.ref 124), some (.int xi), none, none, none, none] (hs_41, kc, ks) []
          refine g_iinc act (gx gp_212 (w := 0x80000001000001003309) rfl (by decide) rfl) (a := 1) (i := (1 : Int32)) (n := 51) rfl (by decide) rfl rfl (L2 := [some (.ref 124), some (.int (xi + (1 : Int32))), none, none, none, none]) rfl ?_
          have v_58 := iv_addN hxi (show (1 : Int32).toInt = ((1 : Nat) : Int) from by decide) (show (j9 + 1) < 2147483648 by omega)
          refine g_goto act (gx gp_212 (w := 0x607) rfl (by decide) rfl) (n := 6) rfl ?_
          exact n_forget (d := D_212) (L2 := [some (.ref 124), some (.int (xi + (1 : Int32))), none, none, none, none]) (fun i v hi => by
            match i, hi with
            | 0, hi => exact hi
            | 1, hi => exact hi
            | 2, hi => cases hi
            | 3, hi => cases hi
            | 4, hi => cases hi
            | 5, hi => cases hi
            | i + 6, hi => cases hi) (ih (j9 + 1) (by omega) (by omega) _ _ _ (N1 + N9) _ _ v_58 hk_48 (by rw [Rat.mul_add, hN1, e9, ← Rat.intCast_add]) (by omega) (by omega) rw_49 f_50 f_51 f_52 f_53 f_54 f_55 hM_43 e_44 e_45 fr_57)
        · exact absurd hpo.1 (by omega)
    · exact absurd hpo.1 (by omega)
