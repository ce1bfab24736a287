/-! A row is scaled. -/
theorem TabR.cong {hs : List CE} {T T2 : Nat → Rat} (h : TabR hs T) (e : ∀ i, i < 1295 → T i = T2 i) : TabR hs T2 := fun i hi => by rw [← e i hi]; exact h i hi
def scT (T : Nat → Rat) (R9 C9 j : Nat) : Nat → Rat := fun i => if 35 * R9 ≤ i ∧ i < 35 * R9 + j then T i * (T (35 * R9 + C9))⁻¹ else T i
theorem FR.inv {t w : Int64} {q : Rat} (h : FR t w q) : Rat.divInt w.toInt t.toInt = q⁻¹ := by rw [h.1, h.2, Rat.inv_def]
theorem idx35b {r : Int32} {R : Nat} (hr : r.toInt = (R : Int)) (h : R < 37) : ((35 : Int32) * r).toInt = ((35 * R : Nat) : Int) ∧ ((35 : Int32) * r + (35 : Int32)).toInt = ((35 * R + 35 : Nat) : Int) := by
  have e0 : (35 : Int32).toInt = 35 := by decide
  have e1 : ((35 : Int32) * r).toInt = 35 * r.toInt := by rw [i_mul (by rw [e0, hr]; omega) (by rw [e0, hr]; omega), e0]
  refine ⟨by rw [e1, hr]; omega, ?_⟩
  rw [i_add (by rw [e1, hr, e0]; omega) (by rw [e1, hr, e0]; omega), e1, hr, e0]
  omega
/-- the numbers of a row stay small -/
def Sm1 (T : Nat → Rat) (R9 C9 : Nat) : Prop := ∀ k, k < 35 → ((T (35 * R9 + k)).num.natAbs : Int) * ((T (35 * R9 + C9)).den : Int) < 9223372036854775808 ∧ ((T (35 * R9 + k)).den : Int) * ((T (35 * R9 + C9)).num.natAbs : Int) < 9223372036854775808
theorem scales_loop {g0 : GG} {bl : Nat} {xs : Nat → Int32} {l : Launch} {wp : va_W} {p : Program} {e : Env} {R : Room} {s : State} {m : MethodId} {args : Array Value} {below : List Frame} {meth : Method} {c : Code} {Q : State → Prop} {kc0 ks0 kc ks f lam KC KS : Nat} {hs : List CE} {T : Nat → Rat} {r c9 : Int32} {R9 C9 : Nat} {a b : Int64} (hr : r.toInt = (R9 : Int)) (hR : R9 < 37) (hC : C9 < 35) (hP : FR a b (T (35 * R9 + C9))) (hpz : a.toInt ≠ 0) (ham : -9223372036854775808 < a.toInt) (hSm : Sm1 T R9 C9) (hf : 3 ≤ R.frames) (hl : 87 ≤ R.locals) (hc : kc ≤ R.cells + kc0) (hsl : ks ≤ R.slots + ks0) (act : Act SSX TBL (gp g0 wp) CLS bl xs D_266 p l s m args meth c) (hEnd : EndN SSX TBL (gp g0 wp) CLS D_266 p l e R s m args below meth c Q kc0 ks0 f lam KC KS (fun kd r h2 => kd = 0 ∧ TabR h2 (scT T R9 C9 35) ∧ FrS W1 hs h2)) (hk1 : kc ≤ KC) (hk2 : ks ≤ KS) : ∀ (n j : Nat) (ki : Int32) (hj : List CE), j + n = 35 → ki.toInt = ((35 * R9 + j : Nat) : Int) → RW hj → TabR hj (scT T R9 C9 j) → FrS W1 hs hj → WpN (gp g0 wp) CLS p l e R s m args below meth c Q D_266.2.2.1 kc0 ks0 31 [some (.ref 124), some (.int r), some (.int c9), some (.long a), none, some (.long b), none, some (.int ki)] (hj, kc, ks) [] := by
  have hi35 := idx35b hr (by omega)
  intro n
  induction n with
  | zero =>
    intro j ki hj hjn hki rwj hTj hfr
    obtain rfl : j = 35 := by omega
    refine g_loadI act (gx gp_266 (w := 0x7002102) rfl (by decide) rfl) (a := 7) (n := 33) rfl rfl rfl ?_
    refine g_constI act (gx gp_266 (w := 0x40000011c00000119000000002301) rfl (by decide) rfl) (n := 35) (x := (35 : Int32)) (by decide) rfl ?_
    refine g_loadI act (gx gp_266 (w := 0x1002402) rfl (by decide) rfl) (a := 1) (n := 36) rfl rfl rfl ?_
    refine g_imul act (gx gp_266 (w := 0x2511) rfl (by decide) rfl) (n := 37) rfl ?_
    refine g_constI act (gx gp_266 (w := 0x40000011c00000119000000002701) rfl (by decide) rfl) (n := 39) (x := (35 : Int32)) (by decide) rfl ?_
    refine g_iadd act (gx gp_266 (w := 0x280a) rfl (by decide) rfl) (n := 40) rfl ?_
    refine g_icmpGe act (gx gp_266 (w := 0x68002b08) rfl (by decide) rfl) (tgt := 104) (n := 43) rfl rfl (fun h7 => ?_) (fun h7 => ?_)
    · simp only [i_le, show (35 : Int32).toInt = 35 from by decide] at h7
      exact g_retV hEnd (gx gp_266 (w := 0x18) rfl (by decide) rfl) ⟨rfl, hTj, hfr⟩ hk1 hk2
    · simp only [i_le, show (35 : Int32).toInt = 35 from by decide] at h7
      omega
  | succ n ih =>
    intro j ki hj hjn hki rwj hTj hfr
    refine g_loadI act (gx gp_266 (w := 0x7002102) rfl (by decide) rfl) (a := 7) (n := 33) rfl rfl rfl ?_
    refine g_constI act (gx gp_266 (w := 0x40000011c00000119000000002301) rfl (by decide) rfl) (n := 35) (x := (35 : Int32)) (by decide) rfl ?_
    refine g_loadI act (gx gp_266 (w := 0x1002402) rfl (by decide) rfl) (a := 1) (n := 36) rfl rfl rfl ?_
    refine g_imul act (gx gp_266 (w := 0x2511) rfl (by decide) rfl) (n := 37) rfl ?_
    refine g_constI act (gx gp_266 (w := 0x40000011c00000119000000002701) rfl (by decide) rfl) (n := 39) (x := (35 : Int32)) (by decide) rfl ?_
    refine g_iadd act (gx gp_266 (w := 0x280a) rfl (by decide) rfl) (n := 40) rfl ?_
    refine g_icmpGe act (gx gp_266 (w := 0x68002b08) rfl (by decide) rfl) (tgt := 104) (n := 43) rfl rfl (fun h7 => ?_) (fun h7 => ?_)
    · simp only [i_le, show (35 : Int32).toInt = 35 from by decide] at h7
      omega
    · simp only [i_le, show (35 : Int32).toInt = 35 from by decide] at h7
      refine g_loadA act (gx gp_266 (w := 0x2c03) rfl (by decide) rfl) (a := 0) (n := 44) rfl rfl rfl ?_
      refine r_getf act (gx gp_266 (w := 0x3000649002f04) rfl (by decide) rfl) (n := 47) (ci := 9) (j := 25) (N := 39) rfl rfl rfl rwj.1 (by decide) (rwj.2 (25, 139, 33, 1295) (by decide)).1 ?_
      refine g_loadI act (gx gp_266 (w := 0x7003102) rfl (by decide) rfl) (a := 7) (n := 49) rfl rfl rfl ?_
      obtain ⟨t, w9, e1, e2, hF⟩ := hTj (35 * R9 + j) (by omega)
      refine r_lald act (gx gp_266 (w := 0x320d) rfl (by decide) rfl) (n := 50) (j := (35 * R9 + j)) rfl (rwj.2 (25, 139, 33, 1295) (by decide)).2 hki (show 35 * R9 + j < 1295 by omega) (v := .long t) e1 ?_
      refine g_constL act (gx gp_266 (w := 0x40000000000000002000000003301) rfl (by decide) rfl) (n := 51) (x := 0) (by decide) rfl ?_
      refine g_lcmp act (gx gp_266 (w := 0x340c) rfl (by decide) rfl) (n := 52) rfl ?_
      refine g_ifEq act (gx gp_266 (w := 0x6200370e) rfl (by decide) rfl) (tgt := 98) (n := 55) rfl rfl (fun h12 => ?_) (fun h12 => ?_)
      · simp only [cmpEq, show (0 : Int64).toInt = 0 from by decide] at h12
        refine g_iinc act (gx gp_266 (w := 0x80000001000007006509) rfl (by decide) rfl) (a := 7) (i := (1 : Int32)) (n := 101) rfl (by decide) rfl rfl (L2 := [some (.ref 124), some (.int r), some (.int c9), some (.long a), none, some (.long b), none, some (.int (ki + (1 : Int32)))]) rfl ?_
        refine g_goto act (gx gp_266 (w := 0x1f07) rfl (by decide) rfl) (n := 31) rfl ?_
        have hk2i : (ki + (1 : Int32)).toInt = ((35 * R9 + (j + 1) : Nat) : Int) := by rw [i_add (by rw [hki]; show _ ≤ ((35 * R9 + j : Nat) : Int) + 1; omega) (by rw [hki]; show ((35 * R9 + j : Nat) : Int) + 1 < _; omega), hki]; show ((35 * R9 + j : Nat) : Int) + 1 = _; omega
        have hTi : scT T R9 C9 j (35 * R9 + j) = T (35 * R9 + j) := if_neg (by omega)
        rw [hTi] at hF
        have hz := hF.z.mp (by omega)
        exact ih (j + 1) _ hj (by omega) hk2i rwj (hTj.cong (fun i hi => by
          unfold scT
          by_cases q : i = 35 * R9 + j
          · rw [if_neg (by omega), if_pos (by omega), q, hz]; grind
          · by_cases q2 : 35 * R9 ≤ i ∧ i < 35 * R9 + j
            · rw [if_pos q2, if_pos (by omega)]
            · rw [if_neg q2, if_neg (by omega)])) hfr
      · simp only [cmpEq, show (0 : Int64).toInt = 0 from by decide] at h12
        refine g_loadA act (gx gp_266 (w := 0x3803) rfl (by decide) rfl) (a := 0) (n := 56) rfl rfl rfl ?_
        refine g_loadA act (gx gp_266 (w := 0x3903) rfl (by decide) rfl) (a := 0) (n := 57) rfl rfl rfl ?_
        refine r_getf act (gx gp_266 (w := 0x3000649003c04) rfl (by decide) rfl) (n := 60) (ci := 9) (j := 25) (N := 39) rfl rfl rfl rwj.1 (by decide) (rwj.2 (25, 139, 33, 1295) (by decide)).1 ?_
        refine g_loadI act (gx gp_266 (w := 0x7003e02) rfl (by decide) rfl) (a := 7) (n := 62) rfl rfl rfl ?_
        refine r_lald act (gx gp_266 (w := 0x3f0d) rfl (by decide) rfl) (n := 63) (j := (35 * R9 + j)) rfl (rwj.2 (25, 139, 33, 1295) (by decide)).2 hki (show 35 * R9 + j < 1295 by omega) (v := .long t) e1 ?_
        refine g_loadA act (gx gp_266 (w := 0x4003) rfl (by decide) rfl) (a := 0) (n := 64) rfl rfl rfl ?_
        refine r_getf act (gx gp_266 (w := 0x3000689004304) rfl (by decide) rfl) (n := 67) (ci := 9) (j := 26) (N := 39) rfl rfl rfl rwj.1 (by decide) (rwj.2 (26, 140, 33, 1295) (by decide)).1 ?_
        refine g_loadI act (gx gp_266 (w := 0x7004502) rfl (by decide) rfl) (a := 7) (n := 69) rfl rfl rfl ?_
        refine r_lald act (gx gp_266 (w := 0x460d) rfl (by decide) rfl) (n := 70) (j := (35 * R9 + j)) rfl (rwj.2 (26, 140, 33, 1295) (by decide)).2 hki (show 35 * R9 + j < 1295 by omega) (v := .long w9) e2 ?_
        refine g_loadL act (gx gp_266 (w := 0x5004806) rfl (by decide) rfl) (a := 5) (n := 72) rfl rfl rfl ?_
        refine g_loadL act (gx gp_266 (w := 0x3004906) rfl (by decide) rfl) (a := 3) (n := 73) rfl rfl rfl ?_
        have hTi : scT T R9 C9 j (35 * R9 + j) = T (35 * R9 + j) := if_neg (by omega)
        rw [hTi] at hF
        have hs1 := hSm j (by omega)
        have hm1 : (t.toInt.natAbs : Int) * (b.toInt.natAbs : Int) < 9223372036854775808 := by rw [hF.1, hP.2, Int.natAbs_natCast]; exact hs1.1
        have hm2 : (w9.toInt.natAbs : Int) * (a.toInt.natAbs : Int) < 9223372036854775808 := by rw [hF.2, hP.1, Int.natAbs_natCast]; exact hs1.2
        have hb9 : -9223372036854775808 < b.toInt := by have := hP.pos; omega
        have ha9 : -9223372036854775808 < a.toInt := by omega
        have hbp : 1 ≤ b.toInt := by have := hP.pos; omega
        have ht9 : -9223372036854775808 < t.toInt := by
          have hq := mul_le t.toInt (show (0 : Int) ≤ 1 by decide) hbp
          have e5 : (b.toInt.natAbs : Int) = b.toInt := by omega
          rw [e5] at hm1
          omega
        refine n_call tb_pres act hEnd (gx (P := G_call) gp_266 (w := 0xa0000000000008349500011a004c0f) rfl (by decide) rfl) (d' := D_282) rfl (as := [.ref 124, .long t, .long w9, .long b, .long a]) (rest := []) (b_times rwj.1 hF (by have := hP.1; omega) hb9 ha9 hm1 hm2 ht9) (show (5 : Nat) = fb 0xa0000000000008349500011a004c0f % 16 by decide) (by show (9 : Nat) ≤ 13; decide) (fun _ => ⟨_, _, rfl, _, shp_at rwj.1, Or.inr (show fb 0xa0000000000008349500011a004c0f >>> 68 = 10 by decide)⟩) (by omega) (by show 8 + (13 + 11) + 55 ≤ R.locals; omega) (by show (0 : Nat) ≤ 8; decide) (by show kc + 0 ≤ _; omega) (by show ks + 0 ≤ _; omega) (fun r9 hs9 hpo hr9 => ?_) (fun x9 hs9 hx9 hpo => ?_)
        · obtain rfl : r9 = none := hr9.elim (fun q => q.2) (fun q => absurd rfl q.1)
          obtain ⟨-, t8, w8, rfl, hf8⟩ := hpo
          have rw1 := RW.wr (k := 124) (j := 7) (v := .long t8) rwj (Or.inr (by decide))
          have rw2 := RW.wr (k := 124) (j := 8) (v := .long w8) rw1 (Or.inr (by decide))
          show WpN (gp g0 wp) CLS p l e R s m args below meth c Q D_266.2.2.1 kc0 ks0 76 [some (.ref 124), some (.int r), some (.int c9), some (.long a), none, some (.long b), none, some (.int ki)] ((wr (wr hj 124 7 (.long t8)) 124 8 (.long w8)), kc, ks) []
          refine g_loadA act (gx gp_266 (w := 0x4d03) rfl (by decide) rfl) (a := 0) (n := 77) rfl rfl rfl ?_
          refine r_getf act (gx gp_266 (w := 0x3000649005004) rfl (by decide) rfl) (n := 80) (ci := 9) (j := 25) (N := 39) rfl rfl rfl rw2.1 (by decide) (rw2.2 (25, 139, 33, 1295) (by decide)).1 ?_
          refine g_loadI act (gx gp_266 (w := 0x7005202) rfl (by decide) rfl) (a := 7) (n := 82) rfl rfl rfl ?_
          refine g_loadA act (gx gp_266 (w := 0x5303) rfl (by decide) rfl) (a := 0) (n := 83) rfl rfl rfl ?_
          refine r_getf act (gx gp_266 (w := 0x20001c9005604) rfl (by decide) rfl) (n := 86) (ci := 9) (j := 7) (N := 39) rfl rfl rfl rw2.1 (by decide) (v := .long t8) (by first | (rw [rd_ne _ _ (Or.inl (by decide)), rd_ne _ _ (Or.inr (by decide))]; exact rd_same rwj.1) | (rw [rd_ne _ _ (Or.inr (by decide))]; exact rd_same rwj.1)) ?_
          refine r_last act (gx gp_266 (w := 0x5705) rfl (by decide) rfl) (n := 87) (j := (35 * R9 + j)) rfl (rw2.2 (25, 139, 33, 1295) (by decide)).2 hki (show 35 * R9 + j < 1295 by omega) ?_
          have rw3 := RW.wr (k := 139) (j := (35 * R9 + j)) (v := .long t8) rw2 (Or.inl (by decide))
          refine g_loadA act (gx gp_266 (w := 0x5803) rfl (by decide) rfl) (a := 0) (n := 88) rfl rfl rfl ?_
          refine r_getf act (gx gp_266 (w := 0x3000689005b04) rfl (by decide) rfl) (n := 91) (ci := 9) (j := 26) (N := 39) rfl rfl rfl rw3.1 (by decide) (rw3.2 (26, 140, 33, 1295) (by decide)).1 ?_
          refine g_loadI act (gx gp_266 (w := 0x7005d02) rfl (by decide) rfl) (a := 7) (n := 93) rfl rfl rfl ?_
          refine g_loadA act (gx gp_266 (w := 0x5e03) rfl (by decide) rfl) (a := 0) (n := 94) rfl rfl rfl ?_
          refine r_getf act (gx gp_266 (w := 0x2000209006104) rfl (by decide) rfl) (n := 97) (ci := 9) (j := 8) (N := 39) rfl rfl rfl rw3.1 (by decide) (v := .long w8) (by first | (rw [rd_ne _ _ (Or.inl (by decide))]; exact rd_same (by rw [shp_wr]; exact rwj.1)) | exact rd_same (by rw [shp_wr]; exact rwj.1)) ?_
          refine r_last act (gx gp_266 (w := 0x6205) rfl (by decide) rfl) (n := 98) (j := (35 * R9 + j)) rfl (rw3.2 (26, 140, 33, 1295) (by decide)).2 hki (show 35 * R9 + j < 1295 by omega) ?_
          have rw4 := RW.wr (k := 140) (j := (35 * R9 + j)) (v := .long w8) rw3 (Or.inl (by decide))
          refine g_iinc act (gx gp_266 (w := 0x80000001000007006509) rfl (by decide) rfl) (a := 7) (i := (1 : Int32)) (n := 101) rfl (by decide) rfl rfl (L2 := [some (.ref 124), some (.int r), some (.int c9), some (.long a), none, some (.long b), none, some (.int (ki + (1 : Int32)))]) rfl ?_
          refine g_goto act (gx gp_266 (w := 0x1f07) rfl (by decide) rfl) (n := 31) rfl ?_
          have hk2i : (ki + (1 : Int32)).toInt = ((35 * R9 + (j + 1) : Nat) : Int) := by rw [i_add (by rw [hki]; show _ ≤ ((35 * R9 + j : Nat) : Int) + 1; omega) (by rw [hki]; show ((35 * R9 + j : Nat) : Int) + 1 < _; omega), hki]; show ((35 * R9 + j : Nat) : Int) + 1 = _; omega
          rw [hP.inv] at hf8
          have hT2 : TabR (wr (wr hj 124 7 (.long t8)) 124 8 (.long w8)) (scT T R9 C9 j) := hTj.fr (fun k9 j9 h9 => by rw [rd_ne _ _ (Or.inl (by omega)), rd_ne _ _ (Or.inl (by omega))])
          have hf3 := ((hfr.wr (k := 124) (j := 7) (.long t8) (Or.inr (Or.inr ⟨rfl, Or.inl rfl⟩))).wr (k := 124) (j := 8) (.long w8) (Or.inr (Or.inr ⟨rfl, Or.inr rfl⟩))).wr (k := 139) (j := 35 * R9 + j) (.long t8) (Or.inl rfl)
          exact ih (j + 1) _ _ (by omega) hk2i rw4 ((hT2.put rw2 hf8).cong (fun i hi => by
            unfold upQ scT
            by_cases q : i = 35 * R9 + j
            · rw [if_pos q, if_pos (by omega), q]
            · rw [if_neg q]
              by_cases q2 : 35 * R9 ≤ i ∧ i < 35 * R9 + j
              · rw [if_pos q2, if_pos (by omega)]
              · rw [if_neg q2, if_neg (by omega)])) (hf3.wr (k := 140) (.long w8) (Or.inr (Or.inl rfl)))
        · exact absurd hpo.1 (by omega)
theorem b_scales {g0 : GG} {bl : Nat} {xs : Nat → Int32} {l : Launch} {hs : List CE} {T : Nat → Rat} {r c9 : Int32} {R9 C9 : Nat} (rw0 : RW hs) (hT : TabR hs T) (hr : r.toInt = (R9 : Int)) (hc9 : c9.toInt = (C9 : Int)) (hR : R9 < 37) (hC : C9 < 35) (hpp : 0 < T (35 * R9 + C9)) (hSm : Sm1 T R9 C9) : BodyN SSX TBL g0 CLS bl xs l D_266 3 87 0 0 [.ref 124, .int r, .int c9] hs (fun kd r h2 => kd = 0 ∧ TabR h2 (scT T R9 C9 35) ∧ FrS W1 hs h2) := by
  intro wp p e R s m args below meth c Q kc0 ks0 kc ks act hf hl hc hsl hEnd
  obtain ⟨a, b, ea, eb, hP⟩ := hT (35 * R9 + C9) (by omega)
  have hix := idx35 hr hc9 (show 35 * R9 + C9 < 1295 by omega)
  have hpz : a.toInt ≠ 0 := fun q => by have := hP.z.mp q; grind
  have ham : -9223372036854775808 < a.toInt := by have := hP.ge.mpr (Rat.le_of_lt hpp); omega
  show WpN (gp g0 wp) CLS p l e R s m args below meth c Q D_266.2.2.1 kc0 ks0 0 [some (.ref 124), some (.int r), some (.int c9), none, none, none, none, none] (hs, kc, ks) []
  refine g_loadA act (gx gp_266 (w := 0x103) rfl (by decide) rfl) (a := 0) (n := 1) rfl rfl rfl ?_
  refine r_getf act (gx gp_266 (w := 0x3000649000404) rfl (by decide) rfl) (n := 4) (ci := 9) (j := 25) (N := 39) rfl rfl rfl rw0.1 (by decide) (rw0.2 (25, 139, 33, 1295) (by decide)).1 ?_
  refine g_constI act (gx gp_266 (w := 0x40000011c00000119000000000601) rfl (by decide) rfl) (n := 6) (x := (35 : Int32)) (by decide) rfl ?_
  refine g_loadI act (gx gp_266 (w := 0x1000702) rfl (by decide) rfl) (a := 1) (n := 7) rfl rfl rfl ?_
  refine g_imul act (gx gp_266 (w := 0x811) rfl (by decide) rfl) (n := 8) rfl ?_
  refine g_loadI act (gx gp_266 (w := 0x2000902) rfl (by decide) rfl) (a := 2) (n := 9) rfl rfl rfl ?_
  refine g_iadd act (gx gp_266 (w := 0xa0a) rfl (by decide) rfl) (n := 10) rfl ?_
  refine r_lald act (gx gp_266 (w := 0xb0d) rfl (by decide) rfl) (n := 11) (j := (35 * R9 + C9)) rfl (rw0.2 (25, 139, 33, 1295) (by decide)).2 hix (show 35 * R9 + C9 < 1295 by omega) (v := .long a) ea ?_
  refine g_storeL act (gx gp_266 (w := 0x3000c0b) rfl (by decide) rfl) (a := 3) (n := 12) rfl rfl (L2 := [some (.ref 124), some (.int r), some (.int c9), some (.long a), none, none, none, none]) rfl ?_
  refine g_loadA act (gx gp_266 (w := 0xd03) rfl (by decide) rfl) (a := 0) (n := 13) rfl rfl rfl ?_
  refine r_getf act (gx gp_266 (w := 0x3000689001004) rfl (by decide) rfl) (n := 16) (ci := 9) (j := 26) (N := 39) rfl rfl rfl rw0.1 (by decide) (rw0.2 (26, 140, 33, 1295) (by decide)).1 ?_
  refine g_constI act (gx gp_266 (w := 0x40000011c00000119000000001201) rfl (by decide) rfl) (n := 18) (x := (35 : Int32)) (by decide) rfl ?_
  refine g_loadI act (gx gp_266 (w := 0x1001302) rfl (by decide) rfl) (a := 1) (n := 19) rfl rfl rfl ?_
  refine g_imul act (gx gp_266 (w := 0x1411) rfl (by decide) rfl) (n := 20) rfl ?_
  refine g_loadI act (gx gp_266 (w := 0x2001502) rfl (by decide) rfl) (a := 2) (n := 21) rfl rfl rfl ?_
  refine g_iadd act (gx gp_266 (w := 0x160a) rfl (by decide) rfl) (n := 22) rfl ?_
  refine r_lald act (gx gp_266 (w := 0x170d) rfl (by decide) rfl) (n := 23) (j := (35 * R9 + C9)) rfl (rw0.2 (26, 140, 33, 1295) (by decide)).2 hix (show 35 * R9 + C9 < 1295 by omega) (v := .long b) eb ?_
  refine g_storeL act (gx gp_266 (w := 0x500190b) rfl (by decide) rfl) (a := 5) (n := 25) rfl rfl (L2 := [some (.ref 124), some (.int r), some (.int c9), some (.long a), none, some (.long b), none, none]) rfl ?_
  refine g_constI act (gx gp_266 (w := 0x40000011c00000119000000001b01) rfl (by decide) rfl) (n := 27) (x := (35 : Int32)) (by decide) rfl ?_
  refine g_loadI act (gx gp_266 (w := 0x1001c02) rfl (by decide) rfl) (a := 1) (n := 28) rfl rfl rfl ?_
  refine g_imul act (gx gp_266 (w := 0x1d11) rfl (by decide) rfl) (n := 29) rfl ?_
  refine g_storeI act (gx gp_266 (w := 0x7001f10) rfl (by decide) rfl) (a := 7) (n := 31) rfl rfl (L2 := [some (.ref 124), some (.int r), some (.int c9), some (.long a), none, some (.long b), none, some (.int ((35 : Int32) * r))]) rfl ?_
  exact scales_loop hr hR hC hP hpz ham hSm hf hl hc hsl act hEnd (by omega) (by omega) 35 0 _ hs rfl (by have := (idx35b hr (by omega)).1; rw [this]; rfl) rw0 (hT.cong (fun i hi => (if_neg (by omega)).symm)) (FrS.rf _ _)
