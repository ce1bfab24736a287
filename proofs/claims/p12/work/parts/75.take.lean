/-! A row is taken from another. -/
def taT (T : Nat → Rat) (R9 F9 C9 j : Nat) : Nat → Rat := fun i => if 35 * F9 ≤ i ∧ i < 35 * F9 + j then T i + T (35 * R9 + (i - 35 * F9)) * -T (35 * F9 + C9) else T i
def Sm2 (T : Nat → Rat) (R9 F9 C9 : Nat) : Prop := ∀ k, k < 35 → ((T (35 * R9 + k)).num.natAbs : Int) * ((T (35 * F9 + C9)).num.natAbs : Int) < 9223372036854775808 ∧ ((T (35 * R9 + k)).den : Int) * ((T (35 * F9 + C9)).den : Int) < 9223372036854775808 ∧
  ((T (35 * F9 + k)).num.natAbs : Int) * ((T (35 * R9 + k) * -T (35 * F9 + C9)).den : Int) + ((T (35 * R9 + k) * -T (35 * F9 + C9)).num.natAbs : Int) * ((T (35 * F9 + k)).den : Int) < 9223372036854775808 ∧ ((T (35 * R9 + k) * -T (35 * F9 + C9)).den : Int) * ((T (35 * F9 + k)).den : Int) < 9223372036854775808
theorem FR.neg {t w : Int64} {q : Rat} (h : FR t w q) (ht : -9223372036854775808 < t.toInt) : Rat.divInt (-t).toInt w.toInt = -q := by
  rw [l_neg ht, ← Rat.neg_divInt, fr_q h]
theorem takes_loop {g0 : GG} {bl : Nat} {xs : Nat → Int32} {l : Launch} {wp : va_W} {p : Program} {e : Env} {R : Room} {s : State} {m : MethodId} {args : Array Value} {below : List Frame} {meth : Method} {c : Code} {Q : State → Prop} {kc0 ks0 kc ks f lam KC KS : Nat} {hs : List CE} {T : Nat → Rat} {r f9 c9 : Int32} {R9 F9 C9 : Nat} {a b : Int64} (hr : r.toInt = (R9 : Int)) (hf9 : f9.toInt = (F9 : Int)) (hR : R9 < 37) (hFF : F9 < 37) (hRF : R9 ≠ F9) (hC : C9 < 35) (hP : FR a b (T (35 * F9 + C9))) (ham : -9223372036854775808 < a.toInt) (hSm : Sm2 T R9 F9 C9) (hf : 4 ≤ R.frames) (hl : 112 ≤ R.locals) (hc : kc ≤ R.cells + kc0) (hsl : ks ≤ R.slots + ks0) (act : Act SSX TBL (gp g0 wp) CLS bl xs D_278 p l s m args meth c) (hEnd : EndN SSX TBL (gp g0 wp) CLS D_278 p l e R s m args below meth c Q kc0 ks0 f lam KC KS (fun kd r h2 => kd = 0 ∧ TabR h2 (taT T R9 F9 C9 35) ∧ FrS W1 hs h2)) (hk1 : kc ≤ KC) (hk2 : ks ≤ KS) : ∀ (n j : Nat) (ki : Int32) (hj : List CE), j + n = 35 → ki.toInt = (j : Int) → RW hj → TabR hj (taT T R9 F9 C9 j) → FrS W1 hs hj → WpN (gp g0 wp) CLS p l e R s m args below meth c Q D_278.2.2.1 kc0 ks0 29 [some (.ref 124), some (.int r), some (.int f9), some (.int c9), some (.long a), none, some (.long b), none, some (.int ki), none] (hj, kc, ks) [] := by
  intro n
  induction n with
  | zero =>
    intro j ki hj hjn hkj rwj hTj hfr
    obtain rfl : j = 35 := by omega
    refine g_loadI act (gx gp_278 (w := 0x8001f02) rfl (by decide) rfl) (a := 8) (n := 31) rfl rfl rfl ?_
    refine g_constI act (gx gp_278 (w := 0x40000011c00000119000000002101) rfl (by decide) rfl) (n := 33) (x := (35 : Int32)) (by decide) rfl ?_
    refine g_icmpGe act (gx gp_278 (w := 0x6c002408) rfl (by decide) rfl) (tgt := 108) (n := 36) rfl rfl (fun h3 => ?_) (fun h3 => ?_)
    · simp only [i_le, show (35 : Int32).toInt = 35 from by decide] at h3
      exact g_retV hEnd (gx gp_278 (w := 0x18) rfl (by decide) rfl) ⟨rfl, hTj, hfr⟩ hk1 hk2
    · simp only [i_le, show (35 : Int32).toInt = 35 from by decide] at h3
      omega
  | succ n ih =>
    intro j ki hj hjn hkj rwj hTj hfr
    have hix := idx35 hr hkj (show 35 * R9 + j < 1295 by omega)
    refine g_loadI act (gx gp_278 (w := 0x8001f02) rfl (by decide) rfl) (a := 8) (n := 31) rfl rfl rfl ?_
    refine g_constI act (gx gp_278 (w := 0x40000011c00000119000000002101) rfl (by decide) rfl) (n := 33) (x := (35 : Int32)) (by decide) rfl ?_
    refine g_icmpGe act (gx gp_278 (w := 0x6c002408) rfl (by decide) rfl) (tgt := 108) (n := 36) rfl rfl (fun h3 => ?_) (fun h3 => ?_)
    · simp only [i_le, show (35 : Int32).toInt = 35 from by decide] at h3
      omega
    · simp only [i_le, show (35 : Int32).toInt = 35 from by decide] at h3
      refine g_loadL act (gx gp_278 (w := 0x4002606) rfl (by decide) rfl) (a := 4) (n := 38) rfl rfl rfl ?_
      refine g_constL act (gx gp_278 (w := 0x40000000000000002000000002701) rfl (by decide) rfl) (n := 39) (x := 0) (by decide) rfl ?_
      refine g_lcmp act (gx gp_278 (w := 0x280c) rfl (by decide) rfl) (n := 40) rfl ?_
      refine g_ifEq act (gx gp_278 (w := 0x6c002b0e) rfl (by decide) rfl) (tgt := 108) (n := 43) rfl rfl (fun h7 => ?_) (fun h7 => ?_)
      · simp only [cmpEq, show (0 : Int64).toInt = 0 from by decide] at h7
        exact g_retV hEnd (gx gp_278 (w := 0x18) rfl (by decide) rfl) ⟨rfl, hTj.cong (fun i hi => by
      have hz := hP.z.mp (by omega)
      unfold taT
      rw [hz]
      split
      · rw [if_pos (by omega)]
      · split
        · grind
        · rfl), hfr⟩ hk1 hk2
      · simp only [cmpEq, show (0 : Int64).toInt = 0 from by decide] at h7
        refine g_constI act (gx gp_278 (w := 0x40000011c00000119000000002d01) rfl (by decide) rfl) (n := 45) (x := (35 : Int32)) (by decide) rfl ?_
        refine g_loadI act (gx gp_278 (w := 0x1002e02) rfl (by decide) rfl) (a := 1) (n := 46) rfl rfl rfl ?_
        refine g_imul act (gx gp_278 (w := 0x2f11) rfl (by decide) rfl) (n := 47) rfl ?_
        refine g_loadI act (gx gp_278 (w := 0x8003102) rfl (by decide) rfl) (a := 8) (n := 49) rfl rfl rfl ?_
        refine g_iadd act (gx gp_278 (w := 0x320a) rfl (by decide) rfl) (n := 50) rfl ?_
        refine g_storeI act (gx gp_278 (w := 0x9003410) rfl (by decide) rfl) (a := 9) (n := 52) rfl rfl (L2 := [some (.ref 124), some (.int r), some (.int f9), some (.int c9), some (.long a), none, some (.long b), none, some (.int ki), some (.int (((35 : Int32) * r) + ki))]) rfl ?_
        refine g_loadA act (gx gp_278 (w := 0x3503) rfl (by decide) rfl) (a := 0) (n := 53) rfl rfl rfl ?_
        refine r_getf act (gx gp_278 (w := 0x3000649003804) rfl (by decide) rfl) (n := 56) (ci := 9) (j := 25) (N := 39) rfl rfl rfl rwj.1 (by decide) (rwj.2 (25, 139, 33, 1295) (by decide)).1 ?_
        refine g_loadI act (gx gp_278 (w := 0x9003a02) rfl (by decide) rfl) (a := 9) (n := 58) rfl rfl rfl ?_
        obtain ⟨t, w9, e1, e2, hF⟩ := hTj (35 * R9 + j) (by omega)
        refine r_lald act (gx gp_278 (w := 0x3b0d) rfl (by decide) rfl) (n := 59) (j := (35 * R9 + j)) rfl (rwj.2 (25, 139, 33, 1295) (by decide)).2 hix (show 35 * R9 + j < 1295 by omega) (v := .long t) e1 ?_
        refine g_constL act (gx gp_278 (w := 0x40000000000000002000000003c01) rfl (by decide) rfl) (n := 60) (x := 0) (by decide) rfl ?_
        refine g_lcmp act (gx gp_278 (w := 0x3d0c) rfl (by decide) rfl) (n := 61) rfl ?_
        refine g_ifEq act (gx gp_278 (w := 0x6600400e) rfl (by decide) rfl) (tgt := 102) (n := 64) rfl rfl (fun h18 => ?_) (fun h18 => ?_)
        · simp only [cmpEq, show (0 : Int64).toInt = 0 from by decide] at h18
          refine g_iinc act (gx gp_278 (w := 0x80000001000008006909) rfl (by decide) rfl) (a := 8) (i := (1 : Int32)) (n := 105) rfl (by decide) rfl rfl (L2 := [some (.ref 124), some (.int r), some (.int f9), some (.int c9), some (.long a), none, some (.long b), none, some (.int (ki + (1 : Int32))), some (.int (((35 : Int32) * r) + ki))]) rfl ?_
          refine g_goto act (gx gp_278 (w := 0x1d07) rfl (by decide) rfl) (n := 29) rfl ?_
          have hk2i : (ki + (1 : Int32)).toInt = ((j + 1 : Nat) : Int) := by rw [i_add (by rw [hkj]; show _ ≤ (j : Int) + 1; omega) (by rw [hkj]; show (j : Int) + 1 < _; omega), hkj]; rfl
          have hTi : taT T R9 F9 C9 j (35 * R9 + j) = T (35 * R9 + j) := if_neg (by omega)
          rw [hTi] at hF
          have hz := hF.z.mp (by omega)
          exact n_forget (d := D_278) (L2 := [some (.ref 124), some (.int r), some (.int f9), some (.int c9), some (.long a), none, some (.long b), none, some (.int (ki + (1 : Int32))), none]) (fun i v hi => by
            match i, hi with
            | 0, hi => exact hi
            | 1, hi => exact hi
            | 2, hi => exact hi
            | 3, hi => exact hi
            | 4, hi => exact hi
            | 5, hi => cases hi
            | 6, hi => exact hi
            | 7, hi => cases hi
            | 8, hi => exact hi
            | 9, hi => cases hi
            | i + 10, hi => cases hi) (ih (j + 1) _ hj (by omega) hk2i rwj (hTj.cong (fun i hi => by
              unfold taT
              by_cases q : i = 35 * F9 + j
              · rw [if_neg (by omega), if_pos (by omega), q, show 35 * R9 + (35 * F9 + j - 35 * F9) = 35 * R9 + j by omega, hz]; grind
              · by_cases q2 : 35 * F9 ≤ i ∧ i < 35 * F9 + j
                · rw [if_pos q2, if_pos (by omega)]
                · rw [if_neg q2, if_neg (by omega)])) hfr)
        · simp only [cmpEq, show (0 : Int64).toInt = 0 from by decide] at h18
          refine g_loadA act (gx gp_278 (w := 0x4103) rfl (by decide) rfl) (a := 0) (n := 65) rfl rfl rfl ?_
          refine g_loadA act (gx gp_278 (w := 0x4203) rfl (by decide) rfl) (a := 0) (n := 66) rfl rfl rfl ?_
          refine r_getf act (gx gp_278 (w := 0x3000649004504) rfl (by decide) rfl) (n := 69) (ci := 9) (j := 25) (N := 39) rfl rfl rfl rwj.1 (by decide) (rwj.2 (25, 139, 33, 1295) (by decide)).1 ?_
          refine g_loadI act (gx gp_278 (w := 0x9004702) rfl (by decide) rfl) (a := 9) (n := 71) rfl rfl rfl ?_
          refine r_lald act (gx gp_278 (w := 0x480d) rfl (by decide) rfl) (n := 72) (j := (35 * R9 + j)) rfl (rwj.2 (25, 139, 33, 1295) (by decide)).2 hix (show 35 * R9 + j < 1295 by omega) (v := .long t) e1 ?_
          refine g_loadA act (gx gp_278 (w := 0x4903) rfl (by decide) rfl) (a := 0) (n := 73) rfl rfl rfl ?_
          refine r_getf act (gx gp_278 (w := 0x3000689004c04) rfl (by decide) rfl) (n := 76) (ci := 9) (j := 26) (N := 39) rfl rfl rfl rwj.1 (by decide) (rwj.2 (26, 140, 33, 1295) (by decide)).1 ?_
          refine g_loadI act (gx gp_278 (w := 0x9004e02) rfl (by decide) rfl) (a := 9) (n := 78) rfl rfl rfl ?_
          refine r_lald act (gx gp_278 (w := 0x4f0d) rfl (by decide) rfl) (n := 79) (j := (35 * R9 + j)) rfl (rwj.2 (26, 140, 33, 1295) (by decide)).2 hix (show 35 * R9 + j < 1295 by omega) (v := .long w9) e2 ?_
          refine g_loadL act (gx gp_278 (w := 0x4005106) rfl (by decide) rfl) (a := 4) (n := 81) rfl rfl rfl ?_
          refine g_lneg act (gx gp_278 (w := 0x5225) rfl (by decide) rfl) (n := 82) rfl ?_
          refine g_loadL act (gx gp_278 (w := 0x6005406) rfl (by decide) rfl) (a := 6) (n := 84) rfl rfl rfl ?_
          have hTi : taT T R9 F9 C9 j (35 * R9 + j) = T (35 * R9 + j) := if_neg (by omega)
          rw [hTi] at hF
          have hs1 := hSm j (by omega)
          have nega := l_neg ham
          have hm1 : (t.toInt.natAbs : Int) * ((-a).toInt.natAbs : Int) < 9223372036854775808 := by rw [nega, Int.natAbs_neg, hF.1, hP.1]; exact hs1.1
          have hm2 : (w9.toInt.natAbs : Int) * (b.toInt.natAbs : Int) < 9223372036854775808 := by rw [hF.2, hP.2, Int.natAbs_natCast, Int.natAbs_natCast]; exact hs1.2.1
          have hb9 : -9223372036854775808 < b.toInt := by have := hP.pos; omega
          have hna : -9223372036854775808 < (-a).toInt := by have := l_rng a; omega
          have hap : 1 ≤ (a.toInt.natAbs : Int) := by omega
          have ht9 : -9223372036854775808 < t.toInt := by
            have hq := mul_le t.toInt (show (0 : Int) ≤ 1 by decide) hap
            rw [nega, Int.natAbs_neg] at hm1
            omega
          refine n_call tb_pres act hEnd (gx (P := G_call) gp_278 (w := 0xa0000000000008349500011a00570f) rfl (by decide) rfl) (d' := D_282) rfl (as := [.ref 124, .long t, .long w9, .long (-a), .long b]) (rest := []) (b_times rwj.1 hF (by have := hP.pos; omega) hna hb9 hm1 hm2 ht9) (show (5 : Nat) = fb 0xa0000000000008349500011a00570f % 16 by decide) (by show (9 : Nat) ≤ 13; decide) (fun _ => ⟨_, _, rfl, _, shp_at rwj.1, Or.inr (show fb 0xa0000000000008349500011a00570f >>> 68 = 10 by decide)⟩) (by omega) (by show 8 + (13 + 11) + 55 ≤ R.locals; omega) (by show (0 : Nat) ≤ 8; decide) (by show kc + 0 ≤ _; omega) (by show ks + 0 ≤ _; omega) (fun r9 hs9 hpo hr9 => ?_) (fun x9 hs9 hx9 hpo => ?_)
          · obtain rfl : r9 = none := hr9.elim (fun q => q.2) (fun q => absurd rfl q.1)
            obtain ⟨-, t8, w8, rfl, hf8⟩ := hpo
            have rw1 := RW.wr (k := 124) (j := 7) (v := .long t8) rwj (Or.inr (by decide))
            have rw2 := RW.wr (k := 124) (j := 8) (v := .long w8) rw1 (Or.inr (by decide))
            show WpN (gp g0 wp) CLS p l e R s m args below meth c Q D_278.2.2.1 kc0 ks0 87 [some (.ref 124), some (.int r), some (.int f9), some (.int c9), some (.long a), none, some (.long b), none, some (.int ki), some (.int (((35 : Int32) * r) + ki))] ((wr (wr hj 124 7 (.long t8)) 124 8 (.long w8)), kc, ks) []
            refine g_loadA act (gx gp_278 (w := 0x5803) rfl (by decide) rfl) (a := 0) (n := 88) rfl rfl rfl ?_
            refine g_loadI act (gx gp_278 (w := 0x2005902) rfl (by decide) rfl) (a := 2) (n := 89) rfl rfl rfl ?_
            refine g_loadI act (gx gp_278 (w := 0x8005b02) rfl (by decide) rfl) (a := 8) (n := 91) rfl rfl rfl ?_
            refine g_loadA act (gx gp_278 (w := 0x5c03) rfl (by decide) rfl) (a := 0) (n := 92) rfl rfl rfl ?_
            refine r_getf act (gx gp_278 (w := 0x20001c9005f04) rfl (by decide) rfl) (n := 95) (ci := 9) (j := 7) (N := 39) rfl rfl rfl rw2.1 (by decide) (v := .long t8) (by first | (rw [rd_ne _ _ (Or.inl (by decide)), rd_ne _ _ (Or.inr (by decide))]; exact rd_same rwj.1) | (rw [rd_ne _ _ (Or.inr (by decide))]; exact rd_same rwj.1)) ?_
            refine g_loadA act (gx gp_278 (w := 0x6003) rfl (by decide) rfl) (a := 0) (n := 96) rfl rfl rfl ?_
            refine r_getf act (gx gp_278 (w := 0x2000209006304) rfl (by decide) rfl) (n := 99) (ci := 9) (j := 8) (N := 39) rfl rfl rfl rw2.1 (by decide) (v := .long w8) (by first | (rw [rd_ne _ _ (Or.inl (by decide))]; exact rd_same (by rw [shp_wr]; exact rwj.1)) | exact rd_same (by rw [shp_wr]; exact rwj.1)) ?_
            rw [hP.neg ham] at hf8
            obtain ⟨t6, w6, e3, e4, hF2⟩ := hTj (35 * F9 + j) (by omega)
            rw [show taT T R9 F9 C9 j (35 * F9 + j) = T (35 * F9 + j) from if_neg (by omega)] at hF2
            have e3 : rd (wr (wr hj 124 7 (.long t8)) 124 8 (.long w8)) 139 (35 * F9 + j) = .long t6 := by rw [rd_ne _ _ (Or.inl (by decide)), rd_ne _ _ (Or.inl (by decide))]; exact e3
            have e4 : rd (wr (wr hj 124 7 (.long t8)) 124 8 (.long w8)) 140 (35 * F9 + j) = .long w6 := by rw [rd_ne _ _ (Or.inl (by decide)), rd_ne _ _ (Or.inl (by decide))]; exact e4
            have hm3 : (t6.toInt.natAbs : Int) * w8.toInt + (t8.toInt.natAbs : Int) * w6.toInt < 9223372036854775808 := by rw [hF2.1, hF2.2, hf8.1, hf8.2]; exact hs1.2.2.1
            have hm4 : (w8.toInt.natAbs : Int) * w6.toInt < 9223372036854775808 := by rw [hF2.2, hf8.2, Int.natAbs_natCast]; exact hs1.2.2.2
            refine n_call tb_pres act hEnd (gx (P := G_call) gp_278 (w := 0xa000000000000820750000b100660f) rfl (by decide) rfl) (d' := D_177) rfl (as := [.ref 124, .int f9, .int ki, .long t8, .long w8]) (rest := []) (b_addsTo rw2 hf9 hkj (show 35 * F9 + j < 1295 by omega) e3 e4 hF2 hf8 hm3 hm4) (show (5 : Nat) = fb 0xa000000000000820750000b100660f % 16 by decide) (by show (7 : Nat) ≤ 8; decide) (fun _ => ⟨_, _, rfl, _, shp_at rw2.1, Or.inr (show fb 0xa000000000000820750000b100660f >>> 68 = 10 by decide)⟩) (by omega) (by show 8 + (8 + 11) + 85 ≤ R.locals; omega) (by show (0 : Nat) ≤ 8; decide) (by show kc + 0 ≤ _; omega) (by show ks + 0 ≤ _; omega) (fun r9 hs9 hpo hr9 => ?_) (fun x9 hs9 hx9 hpo => ?_)
            · obtain rfl : r9 = none := hr9.elim (fun q => q.2) (fun q => absurd rfl q.1)
              obtain ⟨-, t7, w7, rfl, hf7⟩ := hpo
              show WpN (gp g0 wp) CLS p l e R s m args below meth c Q D_278.2.2.1 kc0 ks0 102 [some (.ref 124), some (.int r), some (.int f9), some (.int c9), some (.long a), none, some (.long b), none, some (.int ki), some (.int (((35 : Int32) * r) + ki))] ((wr (wr (wr (wr (wr (wr hj 124 7 (.long t8)) 124 8 (.long w8)) 124 7 (.long t7)) 124 8 (.long w7)) 139 (35 * F9 + j) (.long t7)) 140 (35 * F9 + j) (.long w7)), kc, ks) []
              refine g_iinc act (gx gp_278 (w := 0x80000001000008006909) rfl (by decide) rfl) (a := 8) (i := (1 : Int32)) (n := 105) rfl (by decide) rfl rfl (L2 := [some (.ref 124), some (.int r), some (.int f9), some (.int c9), some (.long a), none, some (.long b), none, some (.int (ki + (1 : Int32))), some (.int (((35 : Int32) * r) + ki))]) rfl ?_
              refine g_goto act (gx gp_278 (w := 0x1d07) rfl (by decide) rfl) (n := 29) rfl ?_
              have hk2i : (ki + (1 : Int32)).toInt = ((j + 1 : Nat) : Int) := by rw [i_add (by rw [hkj]; show _ ≤ (j : Int) + 1; omega) (by rw [hkj]; show (j : Int) + 1 < _; omega), hkj]; rfl
              have hT2 : TabR (wr (wr (wr (wr hj 124 7 (.long t8)) 124 8 (.long w8)) 124 7 (.long t7)) 124 8 (.long w7)) (taT T R9 F9 C9 j) := hTj.fr (fun k9 j9 h9 => by rw [rd_ne _ _ (Or.inl (by omega)), rd_ne _ _ (Or.inl (by omega)), rd_ne _ _ (Or.inl (by omega)), rd_ne _ _ (Or.inl (by omega))])
              have rw3 := RW.wr (k := 124) (j := 7) (v := .long t7) rw2 (Or.inr (by decide))
              have rw4 := RW.wr (k := 124) (j := 8) (v := .long w7) rw3 (Or.inr (by decide))
              have rw5 := RW.wr (k := 139) (j := 35 * F9 + j) (v := .long t7) rw4 (Or.inl (by decide))
              have rw6 := RW.wr (k := 140) (j := 35 * F9 + j) (v := .long w7) rw5 (Or.inl (by decide))
              have hf3 := ((((hfr.wr (k := 124) (j := 7) (.long t8) (Or.inr (Or.inr ⟨rfl, Or.inl rfl⟩))).wr (k := 124) (j := 8) (.long w8) (Or.inr (Or.inr ⟨rfl, Or.inr rfl⟩))).wr (k := 124) (j := 7) (.long t7) (Or.inr (Or.inr ⟨rfl, Or.inl rfl⟩))).wr (k := 124) (j := 8) (.long w7) (Or.inr (Or.inr ⟨rfl, Or.inr rfl⟩))).wr (k := 139) (j := 35 * F9 + j) (.long t7) (Or.inl rfl)
              exact n_forget (d := D_278) (L2 := [some (.ref 124), some (.int r), some (.int f9), some (.int c9), some (.long a), none, some (.long b), none, some (.int (ki + (1 : Int32))), none]) (fun i v hi => by
                match i, hi with
                | 0, hi => exact hi
                | 1, hi => exact hi
                | 2, hi => exact hi
                | 3, hi => exact hi
                | 4, hi => exact hi
                | 5, hi => cases hi
                | 6, hi => exact hi
                | 7, hi => cases hi
                | 8, hi => exact hi
                | 9, hi => cases hi
                | i + 10, hi => cases hi) (ih (j + 1) _ _ (by omega) hk2i rw6 ((hT2.put rw4 hf7).cong (fun i hi => by
                  unfold upQ taT
                  by_cases q : i = 35 * F9 + j
                  · rw [if_pos q, if_pos (by omega), q, show 35 * R9 + (35 * F9 + j - 35 * F9) = 35 * R9 + j by omega]
                  · rw [if_neg q]
                    by_cases q2 : 35 * F9 ≤ i ∧ i < 35 * F9 + j
                    · rw [if_pos q2, if_pos (by omega)]
                    · rw [if_neg q2, if_neg (by omega)])) (hf3.wr (k := 140) (.long w7) (Or.inr (Or.inl rfl))))
            · exact absurd hpo.1 (by omega)
          · exact absurd hpo.1 (by omega)
theorem b_takes {g0 : GG} {bl : Nat} {xs : Nat → Int32} {l : Launch} {hs : List CE} {T : Nat → Rat} {r f9 c9 : Int32} {R9 F9 C9 : Nat} (rw0 : RW hs) (hT : TabR hs T) (hr : r.toInt = (R9 : Int)) (hf9 : f9.toInt = (F9 : Int)) (hc9 : c9.toInt = (C9 : Int)) (hR : R9 < 37) (hFF : F9 < 37) (hRF : R9 ≠ F9) (hC : C9 < 35) (hpm : (T (35 * F9 + C9)).num.natAbs < 9223372036854775808) (hSm : Sm2 T R9 F9 C9) : BodyN SSX TBL g0 CLS bl xs l D_278 4 112 0 0 [.ref 124, .int r, .int f9, .int c9] hs (fun kd r h2 => kd = 0 ∧ TabR h2 (taT T R9 F9 C9 35) ∧ FrS W1 hs h2) := by
  intro wp p e R s m args below meth c Q kc0 ks0 kc ks act hf hl hc hsl hEnd
  obtain ⟨a, b, ea, eb, hP⟩ := hT (35 * F9 + C9) (by omega)
  have hix := idx35 hf9 hc9 (show 35 * F9 + C9 < 1295 by omega)
  have ham : -9223372036854775808 < a.toInt := by rw [hP.1]; omega
  show WpN (gp g0 wp) CLS p l e R s m args below meth c Q D_278.2.2.1 kc0 ks0 0 [some (.ref 124), some (.int r), some (.int f9), some (.int c9), none, none, none, none, none, none] (hs, kc, ks) []
  refine g_loadA act (gx gp_278 (w := 0x103) rfl (by decide) rfl) (a := 0) (n := 1) rfl rfl rfl ?_
  refine r_getf act (gx gp_278 (w := 0x3000649000404) rfl (by decide) rfl) (n := 4) (ci := 9) (j := 25) (N := 39) rfl rfl rfl rw0.1 (by decide) (rw0.2 (25, 139, 33, 1295) (by decide)).1 ?_
  refine g_constI act (gx gp_278 (w := 0x40000011c00000119000000000601) rfl (by decide) rfl) (n := 6) (x := (35 : Int32)) (by decide) rfl ?_
  refine g_loadI act (gx gp_278 (w := 0x2000702) rfl (by decide) rfl) (a := 2) (n := 7) rfl rfl rfl ?_
  refine g_imul act (gx gp_278 (w := 0x811) rfl (by decide) rfl) (n := 8) rfl ?_
  refine g_loadI act (gx gp_278 (w := 0x3000902) rfl (by decide) rfl) (a := 3) (n := 9) rfl rfl rfl ?_
  refine g_iadd act (gx gp_278 (w := 0xa0a) rfl (by decide) rfl) (n := 10) rfl ?_
  refine r_lald act (gx gp_278 (w := 0xb0d) rfl (by decide) rfl) (n := 11) (j := (35 * F9 + C9)) rfl (rw0.2 (25, 139, 33, 1295) (by decide)).2 hix (show 35 * F9 + C9 < 1295 by omega) (v := .long a) ea ?_
  refine g_storeL act (gx gp_278 (w := 0x4000d0b) rfl (by decide) rfl) (a := 4) (n := 13) rfl rfl (L2 := [some (.ref 124), some (.int r), some (.int f9), some (.int c9), some (.long a), none, none, none, none, none]) rfl ?_
  refine g_loadA act (gx gp_278 (w := 0xe03) rfl (by decide) rfl) (a := 0) (n := 14) rfl rfl rfl ?_
  refine r_getf act (gx gp_278 (w := 0x3000689001104) rfl (by decide) rfl) (n := 17) (ci := 9) (j := 26) (N := 39) rfl rfl rfl rw0.1 (by decide) (rw0.2 (26, 140, 33, 1295) (by decide)).1 ?_
  refine g_constI act (gx gp_278 (w := 0x40000011c00000119000000001301) rfl (by decide) rfl) (n := 19) (x := (35 : Int32)) (by decide) rfl ?_
  refine g_loadI act (gx gp_278 (w := 0x2001402) rfl (by decide) rfl) (a := 2) (n := 20) rfl rfl rfl ?_
  refine g_imul act (gx gp_278 (w := 0x1511) rfl (by decide) rfl) (n := 21) rfl ?_
  refine g_loadI act (gx gp_278 (w := 0x3001602) rfl (by decide) rfl) (a := 3) (n := 22) rfl rfl rfl ?_
  refine g_iadd act (gx gp_278 (w := 0x170a) rfl (by decide) rfl) (n := 23) rfl ?_
  refine r_lald act (gx gp_278 (w := 0x180d) rfl (by decide) rfl) (n := 24) (j := (35 * F9 + C9)) rfl (rw0.2 (26, 140, 33, 1295) (by decide)).2 hix (show 35 * F9 + C9 < 1295 by omega) (v := .long b) eb ?_
  refine g_storeL act (gx gp_278 (w := 0x6001a0b) rfl (by decide) rfl) (a := 6) (n := 26) rfl rfl (L2 := [some (.ref 124), some (.int r), some (.int f9), some (.int c9), some (.long a), none, some (.long b), none, none, none]) rfl ?_
  refine g_constI act (gx gp_278 (w := 0x40000000400000001000000001b01) rfl (by decide) rfl) (n := 27) (x := (0 : Int32)) (by decide) rfl ?_
  refine g_storeI act (gx gp_278 (w := 0x8001d10) rfl (by decide) rfl) (a := 8) (n := 29) rfl rfl (L2 := [some (.ref 124), some (.int r), some (.int f9), some (.int c9), some (.long a), none, some (.long b), none, some (.int (0 : Int32)), none]) rfl ?_
  exact takes_loop hr hf9 hR hFF hRF hC hP ham hSm hf hl hc hsl act hEnd (by omega) (by omega) 35 0 _ hs rfl rfl rw0 (hT.cong (fun i hi => (if_neg (by omega)).symm)) (FrS.rf _ _)
